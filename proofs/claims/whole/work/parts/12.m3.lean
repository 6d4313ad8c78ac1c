set_option maxHeartbeats 1500000 in
set_option maxRecDepth 100000 in
theorem k_X8_copy (l : Launch) (D : va_G) (cs : Nat → ClassId) (b1 b2 n1 n2 sp dp : Nat) (F G : Nat → Int32) (hne : b1 ≠ b2) (hn1 : sp + 704 ≤ n1) (hn2 : dp + 704 ≤ n2) (hm1 : n1 < 2 ^ 20) (hm2 : n2 < 2 ^ 20) : Met l yX8_copy wsX8_copy ({ frames := 0, cells := 0, slots := 0, locals := 0 } : Room) (PcK D cs [.ref (b1), .int (nI (sp)), .ref (b2), .int (nI (dp))] (fun H => va_at D vwCl (b1, .inl (cs 0, n1, .inl F)) H ∧ va_at D vwCl (b2, .inl (cs 0, n2, .inl G)) H)) (QcM none (fun H => va_at D vwCl (b2, .inl (cs 0, n2, .inl (va_cpy F G sp dp 704))) H) (fun q : Nat => q = b2)) 0 0 ((fun q : Nat => q = b2)) := by
  refine kx_met (cc := cX8_copy) (maxL := 5) (ret := none) (by decide) rfl (Nat.le_of_ble_eq_true rfl) ?_
  intro p e s m args below meth c hx hb hml hrt hts hown hlk hK hN hP ls hl
  have hl : lv_has ls 5 [(0, .ref (b1)), (1, .int (nI (sp))), (2, .ref (b2)), (3, .int (nI (dp)))] := hl
  obtain ⟨H, hHe⟩ : ∃ H : Heap, H = s.heap := ⟨_, rfl⟩
  rw [← hHe] at hP ⊢
  have hS : va_S ((fun q : Nat => q = b2)) s.heap H [] := by rw [← hHe]; exact va_S.rf
  have hR1 := hP.1
  have hR2 := hP.2
  refine lv_iconst (v := nI 0) hx hb dX8_copy_0 (by decide) ?_
  refine lv_istore (lv' := [(4, .int (nI (0))), (0, .ref (b1)), (1, .int (nI (sp))), (2, .ref (b2)), (3, .int (nI (dp)))]) hx hb dX8_copy_1 hl (by decide) rfl (fun ls hl => ?_)
  have J3 : ∀ (n3 : Nat) (k : Nat) (H : Heap) (locs : List Loc) (ls : Array Slot), (704 - k) < n3 → (k ≤ 704) → (va_at D vwCl (b1, .inl (cs 0, n1, .inl F)) H) → (va_at D vwCl (b2, .inl (cs 0, n2, .inl (va_cpy F G sp dp k))) H) → va_S ((fun q : Nat => q = b2)) s.heap H locs → lv_has ls 5 [(0, .ref (b1)), (1, .int (nI (sp))), (2, .ref (b2)), (3, .int (nI (dp))), (4, .int (nI (k)))] → W p l e ({ frames := 0, cells := 0, slots := 0, locals := 0 } : Room) s m args below meth c H locs 0 0 (MQ below (QcM none (fun H => va_at D vwCl (b2, .inl (cs 0, n2, .inl (va_cpy F G sp dp 704))) H) (fun q : Nat => q = b2)) args s 0 0 ((fun q : Nat => q = b2))) (F0 m 3 ls []) := by
    intro n3; induction n3 with
    | zero => intro k H locs ls hmu3 hk hR1 hR2 hS hl; exact absurd hmu3 (Nat.not_lt_zero _)
    | succ n3 ih3 =>
      intro k H locs ls hmu3 hk hR1 hR2 hS hl
      refine lv_iload hx hb dX8_copy_3 (lv_at hl 4 rfl) ?_
      refine lv_sipush (v := nI 704) hx hb dX8_copy_5 (by decide) ?_
      refine kn_icmp_ge (tgt := 29) hx hb dX8_copy_8 (by decide) (by omega) (by decide) (fun c_1 => ?_) (fun c_1 => ?_)
      · exact kx_vretM hx hb hrt hlk (by rw [show k = 704 by omega] at hR2; exact hR2) hS dX8_copy_29
      · refine lv_aload_n hx hb dX8_copy_11 rfl (lv_at hl 2 rfl) ?_
        refine lv_iload_n hx hb dX8_copy_12 rfl (lv_at hl 3 rfl) ?_
        refine lv_iload hx hb dX8_copy_13 (lv_at hl 4 rfl) ?_
        refine kn_add hx hb dX8_copy_15 ?_
        refine lv_aload_n hx hb dX8_copy_16 rfl (lv_at hl 0 rfl) ?_
        refine lv_iload_n hx hb dX8_copy_17 rfl (lv_at hl 1 rfl) ?_
        refine lv_iload hx hb dX8_copy_18 (lv_at hl 4 rfl) ?_
        refine kn_add hx hb dX8_copy_20 ?_
        refine kx_iald (i := sp + k) hx hb hK hR1 0 rfl (by omega) (by omega) dX8_copy_21 ?_
        refine kx_iast (i := dp + k) hx hb hK hR2 hS rfl 0 rfl (by omega) (by omega) dX8_copy_22 (fun H locs hc hU hS => ?_)
        have hR2 := hc
        have hR1 := hR1.kept (hU.2 _ hne)
        clear hc hU
        refine lv_iinc (v := nI (k + 1)) (lv' := [(4, .int (nI (k + 1))), (0, .ref (b1)), (1, .int (nI (sp))), (2, .ref (b2)), (3, .int (nI (dp)))]) (k := 4) hx hb dX8_copy_23 hl rfl (nI_add _ _) (by decide) rfl (fun ls hl => ?_)
        refine lv_goto (tgt := 3) hx hb dX8_copy_26 (by decide) ?_
        exact ih3 (k + 1) _ _ _ (by omega) (by omega) hR1 (by rw [← cpy_s]; exact hR2) hS (lv_sub hl [1, 2, 3, 4, 0] rfl)
  exact J3 _ 0 _ _ _ (Nat.lt_succ_self _) (by omega) hR1 (by rw [cpy_0]; exact hR2) hS (lv_sub hl [1, 2, 3, 4, 0] rfl)
set_option maxHeartbeats 1500000 in
set_option maxRecDepth 100000 in
theorem k_X8_putSetting (l : Launch) (D : va_G) (cs : Nat → ClassId) (a : Nat) (z : Nat → Int32) (w : Nat) (v : Int32) (hw : w < 2) : Met l yX8_putSetting wsX8_putSetting ({ frames := 0, cells := 0, slots := 0, locals := 0 } : Room) (PcK D cs [.ref (a), .int (nI (w)), .int (v)] (fun H => MdC D (cs 0) a z H)) (QcM (some (.int (z (1 + w)))) (fun H => MdC D (cs 0) a (upd z (1 + w) v) H) (rgM a)) 0 0 ((rgM a)) := by
  refine kx_met (cc := cX8_putSetting) (maxL := 4) (ret := (some .int)) (by decide) rfl (Nat.le_of_ble_eq_true rfl) ?_
  intro p e s m args below meth c hx hb hml hrt hts hown hlk hK hN hP ls hl
  have hl : lv_has ls 4 [(0, .ref (a)), (1, .int (nI (w))), (2, .int (v))] := hl
  obtain ⟨H, hHe⟩ : ∃ H : Heap, H = s.heap := ⟨_, rfl⟩
  rw [← hHe] at hP ⊢
  have hS : va_S ((rgM a)) s.heap H [] := by rw [← hHe]; exact va_S.rf
  have hinX8 : ∀ w ∈ wsX80, w ∈ wsX8_putSetting := by decide +kernel
  have hM := hP
  refine lv_aload_n hx hb dX8_putSetting_0 rfl (lv_at hl 0 rfl) ?_
  refine kx_get (v := .ref (a + 1)) hx hb hts hinX8 hown hK hM.1 rfl 1 (by decide) (by decide +kernel) rfl dX8_putSetting_1 ?_
  refine lv_iconst (v := nI 1) hx hb dX8_putSetting_4 (by decide) ?_
  refine lv_iload_n hx hb dX8_putSetting_5 rfl (lv_at hl 1 rfl) ?_
  refine kn_add hx hb dX8_putSetting_6 ?_
  refine kx_iald (i := 1 + w) hx hb hK hM.state 0 rfl (by omega) (by decide) dX8_putSetting_7 ?_
  refine lv_istore_n (lv' := [(3, .int (z (1 + w))), (0, .ref (a)), (1, .int (nI (w))), (2, .int (v))]) hx hb dX8_putSetting_8 rfl hl (by decide) rfl (fun ls hl => ?_)
  refine lv_aload_n hx hb dX8_putSetting_9 rfl (lv_at hl 1 rfl) ?_
  refine kx_get (v := .ref (a + 1)) hx hb hts hinX8 hown hK hM.1 rfl 1 (by decide) (by decide +kernel) rfl dX8_putSetting_10 ?_
  refine lv_iconst (v := nI 1) hx hb dX8_putSetting_13 (by decide) ?_
  refine lv_iload_n hx hb dX8_putSetting_14 rfl (lv_at hl 2 rfl) ?_
  refine kn_add hx hb dX8_putSetting_15 ?_
  refine lv_iload_n hx hb dX8_putSetting_16 rfl (lv_at hl 3 rfl) ?_
  refine kx_iast (i := 1 + w) hx hb hK hM.state hS ⟨by omega, by omega⟩ 0 rfl (by omega) (by decide) dX8_putSetting_17 (fun H locs hc hU hS => ?_)
  have hM := hM.put_state (by omega) hc hU
  clear hc hU
  refine lv_iload_n hx hb dX8_putSetting_18 rfl (lv_at hl 0 rfl) ?_
  exact kx_iretM hx hb hrt hlk rfl hM hS dX8_putSetting_19
set_option maxHeartbeats 1500000 in
set_option maxRecDepth 100000 in
theorem k_X8_putValue (l : Launch) (D : va_G) (cs : Nat → ClassId) (a : Nat) (z : Nat → Int32) (x : Nat) (v : Int32) (hx48 : x < 48) : Met l yX8_putValue wsX8_putValue ({ frames := 0, cells := 0, slots := 0, locals := 0 } : Room) (PcK D cs [.ref (a), .int (nI (x)), .int (v)] (fun H => MdC D (cs 0) a z H)) (QcM (some (.int (z (8 + x)))) (fun H => MdC D (cs 0) a (upd z (8 + x) v) H) (rgM a)) 0 0 ((rgM a)) := by
  refine kx_met (cc := cX8_putValue) (maxL := 4) (ret := (some .int)) (by decide) rfl (Nat.le_of_ble_eq_true rfl) ?_
  intro p e s m args below meth c hx hb hml hrt hts hown hlk hK hN hP ls hl
  have hl : lv_has ls 4 [(0, .ref (a)), (1, .int (nI (x))), (2, .int (v))] := hl
  obtain ⟨H, hHe⟩ : ∃ H : Heap, H = s.heap := ⟨_, rfl⟩
  rw [← hHe] at hP ⊢
  have hS : va_S ((rgM a)) s.heap H [] := by rw [← hHe]; exact va_S.rf
  have hinX8 : ∀ w ∈ wsX80, w ∈ wsX8_putValue := by decide +kernel
  have hM := hP
  refine lv_aload_n hx hb dX8_putValue_0 rfl (lv_at hl 0 rfl) ?_
  refine kx_get (v := .ref (a + 1)) hx hb hts hinX8 hown hK hM.1 rfl 1 (by decide) (by decide +kernel) rfl dX8_putValue_1 ?_
  refine lv_bipush (v := nI 8) hx hb dX8_putValue_4 (by decide) ?_
  refine lv_iload_n hx hb dX8_putValue_6 rfl (lv_at hl 1 rfl) ?_
  refine kn_add hx hb dX8_putValue_7 ?_
  refine kx_iald (i := 8 + x) hx hb hK hM.state 0 rfl (by omega) (by decide) dX8_putValue_8 ?_
  refine lv_istore_n (lv' := [(3, .int (z (8 + x))), (0, .ref (a)), (1, .int (nI (x))), (2, .int (v))]) hx hb dX8_putValue_9 rfl hl (by decide) rfl (fun ls hl => ?_)
  refine lv_aload_n hx hb dX8_putValue_10 rfl (lv_at hl 1 rfl) ?_
  refine kx_get (v := .ref (a + 1)) hx hb hts hinX8 hown hK hM.1 rfl 1 (by decide) (by decide +kernel) rfl dX8_putValue_11 ?_
  refine lv_bipush (v := nI 8) hx hb dX8_putValue_14 (by decide) ?_
  refine lv_iload_n hx hb dX8_putValue_16 rfl (lv_at hl 2 rfl) ?_
  refine kn_add hx hb dX8_putValue_17 ?_
  refine lv_iload_n hx hb dX8_putValue_18 rfl (lv_at hl 3 rfl) ?_
  refine kx_iast (i := 8 + x) hx hb hK hM.state hS ⟨by omega, by omega⟩ 0 rfl (by omega) (by decide) dX8_putValue_19 (fun H locs hc hU hS => ?_)
  have hM := hM.put_state (by omega) hc hU
  clear hc hU
  refine lv_iload_n hx hb dX8_putValue_20 rfl (lv_at hl 0 rfl) ?_
  exact kx_iretM hx hb hrt hlk rfl hM hS dX8_putValue_21
set_option maxHeartbeats 1500000 in
set_option maxRecDepth 100000 in
theorem k_X8_putRing (l : Launch) (D : va_G) (cs : Nat → ClassId) (a : Nat) (z : Nat → Int32) (f ln pt : Int32) (hI : Inv z) (hR : Rn z < 6) : Met l yX8_putRing wsX8_putRing ({ frames := 0, cells := 0, slots := 0, locals := 0 } : Room) (PcK D cs [.ref (a), .int (f), .int (ln), .int (pt)] (fun H => MdC D (cs 0) a z H)) (QcM (some (.int (nI (Rn z)))) (fun H => MdC D (cs 0) a (prF z f ln pt) H) (rgM a)) 0 0 ((rgM a)) := by
  refine kx_met (cc := cX8_putRing) (maxL := 5) (ret := (some .int)) (by decide) rfl (Nat.le_of_ble_eq_true rfl) ?_
  intro p e s m args below meth c hx hb hml hrt hts hown hlk hK hN hP ls hl
  have hl : lv_has ls 5 [(0, .ref (a)), (1, .int (f)), (2, .int (ln)), (3, .int (pt))] := hl
  obtain ⟨H, hHe⟩ : ∃ H : Heap, H = s.heap := ⟨_, rfl⟩
  rw [← hHe] at hP ⊢
  have hS : va_S ((rgM a)) s.heap H [] := by rw [← hHe]; exact va_S.rf
  have hinX8 : ∀ w ∈ wsX80, w ∈ wsX8_putRing := by decide +kernel
  have hM := hP
  refine lv_aload_n hx hb dX8_putRing_0 rfl (lv_at hl 0 rfl) ?_
  refine kx_get (v := .ref (a + 1)) hx hb hts hinX8 hown hK hM.1 rfl 1 (by decide) (by decide +kernel) rfl dX8_putRing_1 ?_
  refine lv_iconst (v := nI 3) hx hb dX8_putRing_4 (by decide) ?_
  refine kx_iald (i := 3) hx hb hK hM.state 0 rfl (by decide) (by decide) dX8_putRing_5 ?_
  refine kx_ci (y := nI (Rn z)) (hI).z3 ?_
  refine lv_istore (lv' := [(4, .int (nI (Rn z))), (0, .ref (a)), (1, .int (f)), (2, .int (ln)), (3, .int (pt))]) hx hb dX8_putRing_6 hl (by decide) rfl (fun ls hl => ?_)
  refine lv_aload_n hx hb dX8_putRing_8 rfl (lv_at hl 1 rfl) ?_
  refine kx_get (v := .ref (a + 1)) hx hb hts hinX8 hown hK hM.1 rfl 1 (by decide) (by decide +kernel) rfl dX8_putRing_9 ?_
  refine lv_bipush (v := nI 56) hx hb dX8_putRing_12 (by decide) ?_
  refine lv_iconst (v := nI 4) hx hb dX8_putRing_14 (by decide) ?_
  refine lv_iload hx hb dX8_putRing_15 (lv_at hl 0 rfl) ?_
  refine kn_mul hx hb dX8_putRing_17 ?_
  refine kn_add hx hb dX8_putRing_18 ?_
  refine lv_iconst (v := nI 0) hx hb dX8_putRing_19 (by decide) ?_
  refine kn_add hx hb dX8_putRing_20 ?_
  refine lv_iload_n hx hb dX8_putRing_21 rfl (lv_at hl 2 rfl) ?_
  refine kx_iast (i := 56 + (4 * (Rn z)) + 0) hx hb hK hM.state hS ⟨by omega, by omega⟩ 0 rfl (by omega) (by decide) dX8_putRing_22 (fun H locs hc hU hS => ?_)
  have hM := hM.put_state (by omega) hc hU
  clear hc hU
  refine lv_aload_n hx hb dX8_putRing_23 rfl (lv_at hl 1 rfl) ?_
  refine kx_get (v := .ref (a + 1)) hx hb hts hinX8 hown hK hM.1 rfl 1 (by decide) (by decide +kernel) rfl dX8_putRing_24 ?_
  refine lv_bipush (v := nI 56) hx hb dX8_putRing_27 (by decide) ?_
  refine lv_iconst (v := nI 4) hx hb dX8_putRing_29 (by decide) ?_
  refine lv_iload hx hb dX8_putRing_30 (lv_at hl 0 rfl) ?_
  refine kn_mul hx hb dX8_putRing_32 ?_
  refine kn_add hx hb dX8_putRing_33 ?_
  refine lv_iconst (v := nI 1) hx hb dX8_putRing_34 (by decide) ?_
  refine kn_add hx hb dX8_putRing_35 ?_
  refine lv_iload_n hx hb dX8_putRing_36 rfl (lv_at hl 3 rfl) ?_
  refine kx_iast (i := 56 + (4 * (Rn z)) + 1) hx hb hK hM.state hS ⟨by omega, by omega⟩ 0 rfl (by omega) (by decide) dX8_putRing_37 (fun H locs hc hU hS => ?_)
  have hM := hM.put_state (by omega) hc hU
  clear hc hU
  refine lv_aload_n hx hb dX8_putRing_38 rfl (lv_at hl 1 rfl) ?_
  refine kx_get (v := .ref (a + 1)) hx hb hts hinX8 hown hK hM.1 rfl 1 (by decide) (by decide +kernel) rfl dX8_putRing_39 ?_
  refine lv_bipush (v := nI 56) hx hb dX8_putRing_42 (by decide) ?_
  refine lv_iconst (v := nI 4) hx hb dX8_putRing_44 (by decide) ?_
  refine lv_iload hx hb dX8_putRing_45 (lv_at hl 0 rfl) ?_
  refine kn_mul hx hb dX8_putRing_47 ?_
  refine kn_add hx hb dX8_putRing_48 ?_
  refine lv_iconst (v := nI 2) hx hb dX8_putRing_49 (by decide) ?_
  refine kn_add hx hb dX8_putRing_50 ?_
  refine lv_iload_n hx hb dX8_putRing_51 rfl (lv_at hl 4 rfl) ?_
  refine kx_iast (i := 56 + (4 * (Rn z)) + 2) hx hb hK hM.state hS ⟨by omega, by omega⟩ 0 rfl (by omega) (by decide) dX8_putRing_52 (fun H locs hc hU hS => ?_)
  have hM := hM.put_state (by omega) hc hU
  clear hc hU
  refine lv_aload_n hx hb dX8_putRing_53 rfl (lv_at hl 1 rfl) ?_
  refine kx_get (v := .ref (a + 1)) hx hb hts hinX8 hown hK hM.1 rfl 1 (by decide) (by decide +kernel) rfl dX8_putRing_54 ?_
  refine lv_bipush (v := nI 56) hx hb dX8_putRing_57 (by decide) ?_
  refine lv_iconst (v := nI 4) hx hb dX8_putRing_59 (by decide) ?_
  refine lv_iload hx hb dX8_putRing_60 (lv_at hl 0 rfl) ?_
  refine kn_mul hx hb dX8_putRing_62 ?_
  refine kn_add hx hb dX8_putRing_63 ?_
  refine lv_iconst (v := nI 3) hx hb dX8_putRing_64 (by decide) ?_
  refine kn_add hx hb dX8_putRing_65 ?_
  refine lv_iconst (v := nI 0) hx hb dX8_putRing_66 (by decide) ?_
  refine kx_iast (i := 56 + (4 * (Rn z)) + 3) hx hb hK hM.state hS ⟨by omega, by omega⟩ 0 rfl (by omega) (by decide) dX8_putRing_67 (fun H locs hc hU hS => ?_)
  have hM := hM.put_state (by omega) hc hU
  clear hc hU
  refine lv_aload_n hx hb dX8_putRing_68 rfl (lv_at hl 1 rfl) ?_
  refine kx_get (v := .ref (a + 1)) hx hb hts hinX8 hown hK hM.1 rfl 1 (by decide) (by decide +kernel) rfl dX8_putRing_69 ?_
  refine lv_iconst (v := nI 3) hx hb dX8_putRing_72 (by decide) ?_
  refine lv_dup2_11 hx hb dX8_putRing_73 rfl rfl ?_
  refine kx_iald (i := 3) hx hb hK hM.state 0 rfl (by decide) (by decide) dX8_putRing_74 ?_
  refine kx_ci (y := nI (Rn z)) (by simp only [upd_at]; (repeat rw [if_neg (by omega)]); exact hI.z3) ?_
  refine lv_iconst (v := nI 1) hx hb dX8_putRing_75 (by decide) ?_
  refine kn_add hx hb dX8_putRing_76 ?_
  refine kx_iast (i := 3) hx hb hK hM.state hS ⟨by omega, by omega⟩ 0 rfl (by decide) (by decide) dX8_putRing_77 (fun H locs hc hU hS => ?_)
  have hM := hM.put_state (by decide) hc hU
  clear hc hU
  refine lv_iload hx hb dX8_putRing_78 (lv_at hl 0 rfl) ?_
  exact kx_iretM hx hb hrt hlk rfl hM hS dX8_putRing_80
set_option maxHeartbeats 1500000 in
set_option maxRecDepth 100000 in
theorem k_X8_putMove (l : Launch) (D : va_G) (cs : Nat → ClassId) (a : Nat) (z : Nat → Int32) (f fp t tp n0 : Int32) (hI : Inv z) (hR : Mn z < 24) : Met l yX8_putMove wsX8_putMove ({ frames := 1, cells := 0, slots := 0, locals := 23 } : Room) (PcK D cs [.ref (a), .int (f), .int (fp), .int (t), .int (tp), .int (n0)] (fun H => MdC D (cs 0) a z H)) (QcM (some (.int (nI (Mn z)))) (fun H => MdC D (cs 0) a (pmF z f fp t tp n0) H) (rgM a)) 0 0 ((rgM a)) := by
  refine kx_met (cc := cX8_putMove) (maxL := 7) (ret := (some .int)) (by decide) rfl (Nat.le_of_ble_eq_true rfl) ?_
  intro p e s m args below meth c hx hb hml hrt hts hown hlk hK hN hP ls hl
  have hl : lv_has ls 7 [(0, .ref (a)), (1, .int (f)), (2, .int (fp)), (3, .int (t)), (4, .int (tp)), (5, .int (n0))] := hl
  obtain ⟨H, hHe⟩ : ∃ H : Heap, H = s.heap := ⟨_, rfl⟩
  rw [← hHe] at hP ⊢
  have hS : va_S ((rgM a)) s.heap H [] := by rw [← hHe]; exact va_S.rf
  have hinX8 : ∀ w ∈ wsX80, w ∈ wsX8_putMove := by decide +kernel
  have hM := hP
  refine lv_aload_n hx hb dX8_putMove_0 rfl (lv_at hl 0 rfl) ?_
  refine kx_get (v := .ref (a + 1)) hx hb hts hinX8 hown hK hM.1 rfl 1 (by decide) (by decide +kernel) rfl dX8_putMove_1 ?_
  refine lv_iconst (v := nI 4) hx hb dX8_putMove_4 (by decide) ?_
  refine kx_iald (i := 4) hx hb hK hM.state 0 rfl (by decide) (by decide) dX8_putMove_5 ?_
  refine kx_ci (y := nI (Mn z)) (hI).z4 ?_
  refine lv_istore (lv' := [(6, .int (nI (Mn z))), (0, .ref (a)), (1, .int (f)), (2, .int (fp)), (3, .int (t)), (4, .int (tp)), (5, .int (n0))]) hx hb dX8_putMove_6 hl (by decide) rfl (fun ls hl => ?_)
  refine lv_aload_n hx hb dX8_putMove_8 rfl (lv_at hl 1 rfl) ?_
  refine lv_iload hx hb dX8_putMove_9 (lv_at hl 0 rfl) ?_
  refine lv_iconst (v := nI 0) hx hb dX8_putMove_11 (by decide) ?_
  refine lv_iload_n hx hb dX8_putMove_12 rfl (lv_at hl 2 rfl) ?_
  refine kx_retM (va_runV (As := [.int (nI (Mn z)), .int (nI (0)), .int (f)]) (rest := []) ⟨hx, hb, hml, hown, hts⟩ (k_X8_setMovePart l D cs a z (Mn z) 0 f (by first | assumption | omega) (by first | assumption | omega)) (cwV 3 hts gX8_putMove_X8_setMovePart rfl rfl rfl (by decide +kernel) ⟨Nat.le_of_ble_eq_true rfl, Nat.le_of_ble_eq_true rfl⟩) (kx_preV hK hN hM.1 rfl hM) rfl rfl hl.1 rfl (lv_room (Nat.le_of_ble_eq_true rfl)) dX8_putMove_13 ⟨Nat.le_of_ble_eq_true rfl, Nat.le_of_ble_eq_true rfl⟩) hS (fun q _ h => h) (fun q h => h) (fun H locs hM hk hS => ?_)
  clear hk
  refine lv_aload_n hx hb dX8_putMove_16 rfl (lv_at hl 1 rfl) ?_
  refine lv_iload hx hb dX8_putMove_17 (lv_at hl 0 rfl) ?_
  refine lv_iconst (v := nI 1) hx hb dX8_putMove_19 (by decide) ?_
  refine lv_iload_n hx hb dX8_putMove_20 rfl (lv_at hl 3 rfl) ?_
  refine kx_retM (va_runV (As := [.int (nI (Mn z)), .int (nI (1)), .int (fp)]) (rest := []) ⟨hx, hb, hml, hown, hts⟩ (k_X8_setMovePart l D cs a (upd z (80 + 10 * (Mn z) + 0) f) (Mn z) 1 fp (by first | assumption | omega) (by first | assumption | omega)) (cwV 3 hts gX8_putMove_X8_setMovePart rfl rfl rfl (by decide +kernel) ⟨Nat.le_of_ble_eq_true rfl, Nat.le_of_ble_eq_true rfl⟩) (kx_preV hK hN hM.1 rfl hM) rfl rfl hl.1 rfl (lv_room (Nat.le_of_ble_eq_true rfl)) dX8_putMove_21 ⟨Nat.le_of_ble_eq_true rfl, Nat.le_of_ble_eq_true rfl⟩) hS (fun q _ h => h) (fun q h => h) (fun H locs hM hk hS => ?_)
  clear hk
  refine lv_aload_n hx hb dX8_putMove_24 rfl (lv_at hl 1 rfl) ?_
  refine lv_iload hx hb dX8_putMove_25 (lv_at hl 0 rfl) ?_
  refine lv_iconst (v := nI 2) hx hb dX8_putMove_27 (by decide) ?_
  refine lv_iload_n hx hb dX8_putMove_28 rfl (lv_at hl 4 rfl) ?_
  refine kx_retM (va_runV (As := [.int (nI (Mn z)), .int (nI (2)), .int (t)]) (rest := []) ⟨hx, hb, hml, hown, hts⟩ (k_X8_setMovePart l D cs a (upd (upd z (80 + 10 * (Mn z) + 0) f) (80 + 10 * (Mn z) + 1) fp) (Mn z) 2 t (by first | assumption | omega) (by first | assumption | omega)) (cwV 3 hts gX8_putMove_X8_setMovePart rfl rfl rfl (by decide +kernel) ⟨Nat.le_of_ble_eq_true rfl, Nat.le_of_ble_eq_true rfl⟩) (kx_preV hK hN hM.1 rfl hM) rfl rfl hl.1 rfl (lv_room (Nat.le_of_ble_eq_true rfl)) dX8_putMove_29 ⟨Nat.le_of_ble_eq_true rfl, Nat.le_of_ble_eq_true rfl⟩) hS (fun q _ h => h) (fun q h => h) (fun H locs hM hk hS => ?_)
  clear hk
  refine lv_aload_n hx hb dX8_putMove_32 rfl (lv_at hl 1 rfl) ?_
  refine lv_iload hx hb dX8_putMove_33 (lv_at hl 0 rfl) ?_
  refine lv_iconst (v := nI 3) hx hb dX8_putMove_35 (by decide) ?_
  refine lv_iload hx hb dX8_putMove_36 (lv_at hl 5 rfl) ?_
  refine kx_retM (va_runV (As := [.int (nI (Mn z)), .int (nI (3)), .int (tp)]) (rest := []) ⟨hx, hb, hml, hown, hts⟩ (k_X8_setMovePart l D cs a (upd (upd (upd z (80 + 10 * (Mn z) + 0) f) (80 + 10 * (Mn z) + 1) fp) (80 + 10 * (Mn z) + 2) t) (Mn z) 3 tp (by first | assumption | omega) (by first | assumption | omega)) (cwV 3 hts gX8_putMove_X8_setMovePart rfl rfl rfl (by decide +kernel) ⟨Nat.le_of_ble_eq_true rfl, Nat.le_of_ble_eq_true rfl⟩) (kx_preV hK hN hM.1 rfl hM) rfl rfl hl.1 rfl (lv_room (Nat.le_of_ble_eq_true rfl)) dX8_putMove_38 ⟨Nat.le_of_ble_eq_true rfl, Nat.le_of_ble_eq_true rfl⟩) hS (fun q _ h => h) (fun q h => h) (fun H locs hM hk hS => ?_)
  clear hk
  refine lv_aload_n hx hb dX8_putMove_41 rfl (lv_at hl 1 rfl) ?_
  refine lv_iload hx hb dX8_putMove_42 (lv_at hl 0 rfl) ?_
  refine lv_iconst (v := nI 4) hx hb dX8_putMove_44 (by decide) ?_
  refine lv_iload hx hb dX8_putMove_45 (lv_at hl 6 rfl) ?_
  refine kx_retM (va_runV (As := [.int (nI (Mn z)), .int (nI (4)), .int (n0)]) (rest := []) ⟨hx, hb, hml, hown, hts⟩ (k_X8_setMovePart l D cs a (upd (upd (upd (upd z (80 + 10 * (Mn z) + 0) f) (80 + 10 * (Mn z) + 1) fp) (80 + 10 * (Mn z) + 2) t) (80 + 10 * (Mn z) + 3) tp) (Mn z) 4 n0 (by first | assumption | omega) (by first | assumption | omega)) (cwV 3 hts gX8_putMove_X8_setMovePart rfl rfl rfl (by decide +kernel) ⟨Nat.le_of_ble_eq_true rfl, Nat.le_of_ble_eq_true rfl⟩) (kx_preV hK hN hM.1 rfl hM) rfl rfl hl.1 rfl (lv_room (Nat.le_of_ble_eq_true rfl)) dX8_putMove_47 ⟨Nat.le_of_ble_eq_true rfl, Nat.le_of_ble_eq_true rfl⟩) hS (fun q _ h => h) (fun q h => h) (fun H locs hM hk hS => ?_)
  clear hk
  refine lv_aload_n hx hb dX8_putMove_50 rfl (lv_at hl 1 rfl) ?_
  refine lv_iload hx hb dX8_putMove_51 (lv_at hl 0 rfl) ?_
  refine lv_iconst (v := nI 5) hx hb dX8_putMove_53 (by decide) ?_
  refine lv_iconst (v := nI 0) hx hb dX8_putMove_54 (by decide) ?_
  refine kx_retM (va_runV (As := [.int (nI (Mn z)), .int (nI (5)), .int (nI (0))]) (rest := []) ⟨hx, hb, hml, hown, hts⟩ (k_X8_setMovePart l D cs a (upd (upd (upd (upd (upd z (80 + 10 * (Mn z) + 0) f) (80 + 10 * (Mn z) + 1) fp) (80 + 10 * (Mn z) + 2) t) (80 + 10 * (Mn z) + 3) tp) (80 + 10 * (Mn z) + 4) n0) (Mn z) 5 (nI (0)) (by first | assumption | omega) (by first | assumption | omega)) (cwV 3 hts gX8_putMove_X8_setMovePart rfl rfl rfl (by decide +kernel) ⟨Nat.le_of_ble_eq_true rfl, Nat.le_of_ble_eq_true rfl⟩) (kx_preV hK hN hM.1 rfl hM) rfl rfl hl.1 rfl (lv_room (Nat.le_of_ble_eq_true rfl)) dX8_putMove_55 ⟨Nat.le_of_ble_eq_true rfl, Nat.le_of_ble_eq_true rfl⟩) hS (fun q _ h => h) (fun q h => h) (fun H locs hM hk hS => ?_)
  clear hk
  refine lv_aload_n hx hb dX8_putMove_58 rfl (lv_at hl 1 rfl) ?_
  refine lv_iload hx hb dX8_putMove_59 (lv_at hl 0 rfl) ?_
  refine lv_bipush (v := nI 6) hx hb dX8_putMove_61 (by decide) ?_
  refine lv_iconst (v := nI 0) hx hb dX8_putMove_63 (by decide) ?_
  refine kx_retM (va_runV (As := [.int (nI (Mn z)), .int (nI (6)), .int (nI (0))]) (rest := []) ⟨hx, hb, hml, hown, hts⟩ (k_X8_setMovePart l D cs a (upd (upd (upd (upd (upd (upd z (80 + 10 * (Mn z) + 0) f) (80 + 10 * (Mn z) + 1) fp) (80 + 10 * (Mn z) + 2) t) (80 + 10 * (Mn z) + 3) tp) (80 + 10 * (Mn z) + 4) n0) (80 + 10 * (Mn z) + 5) (nI (0))) (Mn z) 6 (nI (0)) (by first | assumption | omega) (by first | assumption | omega)) (cwV 3 hts gX8_putMove_X8_setMovePart rfl rfl rfl (by decide +kernel) ⟨Nat.le_of_ble_eq_true rfl, Nat.le_of_ble_eq_true rfl⟩) (kx_preV hK hN hM.1 rfl hM) rfl rfl hl.1 rfl (lv_room (Nat.le_of_ble_eq_true rfl)) dX8_putMove_64 ⟨Nat.le_of_ble_eq_true rfl, Nat.le_of_ble_eq_true rfl⟩) hS (fun q _ h => h) (fun q h => h) (fun H locs hM hk hS => ?_)
  clear hk
  refine lv_aload_n hx hb dX8_putMove_67 rfl (lv_at hl 1 rfl) ?_
  refine lv_iload hx hb dX8_putMove_68 (lv_at hl 0 rfl) ?_
  refine lv_bipush (v := nI 7) hx hb dX8_putMove_70 (by decide) ?_
  refine lv_sipush (v := -1000) hx hb dX8_putMove_72 (by decide) ?_
  refine kx_retM (va_runV (As := [.int (nI (Mn z)), .int (nI (7)), .int ((-1000))]) (rest := []) ⟨hx, hb, hml, hown, hts⟩ (k_X8_setMovePart l D cs a (upd (upd (upd (upd (upd (upd (upd z (80 + 10 * (Mn z) + 0) f) (80 + 10 * (Mn z) + 1) fp) (80 + 10 * (Mn z) + 2) t) (80 + 10 * (Mn z) + 3) tp) (80 + 10 * (Mn z) + 4) n0) (80 + 10 * (Mn z) + 5) (nI (0))) (80 + 10 * (Mn z) + 6) (nI (0))) (Mn z) 7 ((-1000)) (by first | assumption | omega) (by first | assumption | omega)) (cwV 3 hts gX8_putMove_X8_setMovePart rfl rfl rfl (by decide +kernel) ⟨Nat.le_of_ble_eq_true rfl, Nat.le_of_ble_eq_true rfl⟩) (kx_preV hK hN hM.1 rfl hM) rfl rfl hl.1 rfl (lv_room (Nat.le_of_ble_eq_true rfl)) dX8_putMove_75 ⟨Nat.le_of_ble_eq_true rfl, Nat.le_of_ble_eq_true rfl⟩) hS (fun q _ h => h) (fun q h => h) (fun H locs hM hk hS => ?_)
  clear hk
  refine lv_aload_n hx hb dX8_putMove_78 rfl (lv_at hl 1 rfl) ?_
  refine lv_iload hx hb dX8_putMove_79 (lv_at hl 0 rfl) ?_
  refine lv_bipush (v := nI 8) hx hb dX8_putMove_81 (by decide) ?_
  refine lv_sipush (v := -1000) hx hb dX8_putMove_83 (by decide) ?_
  refine kx_retM (va_runV (As := [.int (nI (Mn z)), .int (nI (8)), .int ((-1000))]) (rest := []) ⟨hx, hb, hml, hown, hts⟩ (k_X8_setMovePart l D cs a (upd (upd (upd (upd (upd (upd (upd (upd z (80 + 10 * (Mn z) + 0) f) (80 + 10 * (Mn z) + 1) fp) (80 + 10 * (Mn z) + 2) t) (80 + 10 * (Mn z) + 3) tp) (80 + 10 * (Mn z) + 4) n0) (80 + 10 * (Mn z) + 5) (nI (0))) (80 + 10 * (Mn z) + 6) (nI (0))) (80 + 10 * (Mn z) + 7) ((-1000))) (Mn z) 8 ((-1000)) (by first | assumption | omega) (by first | assumption | omega)) (cwV 3 hts gX8_putMove_X8_setMovePart rfl rfl rfl (by decide +kernel) ⟨Nat.le_of_ble_eq_true rfl, Nat.le_of_ble_eq_true rfl⟩) (kx_preV hK hN hM.1 rfl hM) rfl rfl hl.1 rfl (lv_room (Nat.le_of_ble_eq_true rfl)) dX8_putMove_86 ⟨Nat.le_of_ble_eq_true rfl, Nat.le_of_ble_eq_true rfl⟩) hS (fun q _ h => h) (fun q h => h) (fun H locs hM hk hS => ?_)
  clear hk
  refine lv_aload_n hx hb dX8_putMove_89 rfl (lv_at hl 1 rfl) ?_
  refine lv_iload hx hb dX8_putMove_90 (lv_at hl 0 rfl) ?_
  refine lv_bipush (v := nI 9) hx hb dX8_putMove_92 (by decide) ?_
  refine lv_sipush (v := -1000) hx hb dX8_putMove_94 (by decide) ?_
  refine kx_retM (va_runV (As := [.int (nI (Mn z)), .int (nI (9)), .int ((-1000))]) (rest := []) ⟨hx, hb, hml, hown, hts⟩ (k_X8_setMovePart l D cs a (upd (upd (upd (upd (upd (upd (upd (upd (upd z (80 + 10 * (Mn z) + 0) f) (80 + 10 * (Mn z) + 1) fp) (80 + 10 * (Mn z) + 2) t) (80 + 10 * (Mn z) + 3) tp) (80 + 10 * (Mn z) + 4) n0) (80 + 10 * (Mn z) + 5) (nI (0))) (80 + 10 * (Mn z) + 6) (nI (0))) (80 + 10 * (Mn z) + 7) ((-1000))) (80 + 10 * (Mn z) + 8) ((-1000))) (Mn z) 9 ((-1000)) (by first | assumption | omega) (by first | assumption | omega)) (cwV 3 hts gX8_putMove_X8_setMovePart rfl rfl rfl (by decide +kernel) ⟨Nat.le_of_ble_eq_true rfl, Nat.le_of_ble_eq_true rfl⟩) (kx_preV hK hN hM.1 rfl hM) rfl rfl hl.1 rfl (lv_room (Nat.le_of_ble_eq_true rfl)) dX8_putMove_97 ⟨Nat.le_of_ble_eq_true rfl, Nat.le_of_ble_eq_true rfl⟩) hS (fun q _ h => h) (fun q h => h) (fun H locs hM hk hS => ?_)
  clear hk
  refine lv_aload_n hx hb dX8_putMove_100 rfl (lv_at hl 1 rfl) ?_
  refine kx_get (v := .ref (a + 1)) hx hb hts hinX8 hown hK hM.1 rfl 1 (by decide) (by decide +kernel) rfl dX8_putMove_101 ?_
  refine lv_iconst (v := nI 4) hx hb dX8_putMove_104 (by decide) ?_
  refine lv_dup2_11 hx hb dX8_putMove_105 rfl rfl ?_
  refine kx_iald (i := 4) hx hb hK hM.state 0 rfl (by decide) (by decide) dX8_putMove_106 ?_
  refine kx_ci (y := nI (Mn z)) (by simp only [upd_at]; (repeat rw [if_neg (by omega)]); exact hI.z4) ?_
  refine lv_iconst (v := nI 1) hx hb dX8_putMove_107 (by decide) ?_
  refine kn_add hx hb dX8_putMove_108 ?_
  refine kx_iast (i := 4) hx hb hK hM.state hS ⟨by omega, by omega⟩ 0 rfl (by decide) (by decide) dX8_putMove_109 (fun H locs hc hU hS => ?_)
  have hM := hM.put_state (by decide) hc hU
  clear hc hU
  refine lv_iload hx hb dX8_putMove_110 (lv_at hl 0 rfl) ?_
  exact kx_iretM hx hb hrt hlk rfl hM hS dX8_putMove_112
set_option maxHeartbeats 1500000 in
set_option maxRecDepth 100000 in
theorem k_X8_whyNoMove (l : Launch) (D : va_G) (cs : Nat → ClassId) (a : Nat) (z : Nat → Int32) (f fp t tp n0 : Int32) (hI : Inv z) : Met l yX8_whyNoMove wsX8_whyNoMove ({ frames := 2, cells := 0, slots := 0, locals := 43 } : Room) (PcK D cs [.ref (a), .int (f), .int (fp), .int (t), .int (tp), .int (n0)] (fun H => MdC D (cs 0) a z H)) (QcP (some (.int (nI (wmv z f fp t tp n0))))) 0 0 nowhere := by
  refine kx_met (cc := cX8_whyNoMove) (maxL := 7) (ret := (some .int)) (by decide) rfl (Nat.le_of_ble_eq_true rfl) ?_
  intro p e s m args below meth c hx hb hml hrt hts hown hlk hK hN hP ls hl
  have hl : lv_has ls 7 [(0, .ref (a)), (1, .int (f)), (2, .int (fp)), (3, .int (t)), (4, .int (tp)), (5, .int (n0))] := hl
  have hinX8 : ∀ w ∈ wsX80, w ∈ wsX8_whyNoMove := by decide +kernel
  have hM := hP
  have h24 := hI.M24
  have h6 := hI.R6
  refine lv_aload_n hx hb dX8_whyNoMove_0 rfl (lv_at hl 0 rfl) ?_
  refine lv_iload_n hx hb dX8_whyNoMove_1 rfl (lv_at hl 1 rfl) ?_
  refine kx_retP (va_runV (As := [.int (f)]) (rest := []) ⟨hx, hb, hml, hown, hts⟩ (k_X8_isRing l D cs a z f hI) (cwV 1 hts gX8_whyNoMove_X8_isRing rfl rfl rfl (by decide +kernel) ⟨Nat.le_of_ble_eq_true rfl, Nat.le_of_ble_eq_true rfl⟩) (kx_preV hK hN hM.1 rfl hM) rfl rfl hl.1 rfl (lv_room (Nat.le_of_ble_eq_true rfl)) dX8_whyNoMove_2 ⟨Nat.le_of_ble_eq_true rfl, Nat.le_of_ble_eq_true rfl⟩) ?_
  refine kb_if_eq (tgt := 16) hx hb dX8_whyNoMove_5 (by decide) (fun hqa => ?_) (fun hqa => ?_)
  · refine lv_iconst (v := nI 1) hx hb dX8_whyNoMove_16 (by decide) ?_
    exact kx_iretP hx hb hrt hlk (congrArg nI (by first | (simp [wmv, *]; done) | (exfalso; omega) | (exfalso; simp_all; done))) dX8_whyNoMove_17
  · refine lv_aload_n hx hb dX8_whyNoMove_8 rfl (lv_at hl 0 rfl) ?_
    refine lv_iload_n hx hb dX8_whyNoMove_9 rfl (lv_at hl 3 rfl) ?_
    refine kx_retP (va_runV (As := [.int (t)]) (rest := []) ⟨hx, hb, hml, hown, hts⟩ (k_X8_isRing l D cs a z t hI) (cwV 1 hts gX8_whyNoMove_X8_isRing rfl rfl rfl (by decide +kernel) ⟨Nat.le_of_ble_eq_true rfl, Nat.le_of_ble_eq_true rfl⟩) (kx_preV hK hN hM.1 rfl hM) rfl rfl hl.1 rfl (lv_room (Nat.le_of_ble_eq_true rfl)) dX8_whyNoMove_10 ⟨Nat.le_of_ble_eq_true rfl, Nat.le_of_ble_eq_true rfl⟩) ?_
    refine kb_if_ne (tgt := 18) hx hb dX8_whyNoMove_13 (by decide) (fun hqb => ?_) (fun hqb => ?_)
    · obtain ⟨r1, hrr1, rfl⟩ := (lsB_iff (by omega)).mp hqa
      have hnr1 : nn (nI r1) = r1 := nn_nI (by omega)
      obtain ⟨r2, hrr2, rfl⟩ := (lsB_iff (by omega)).mp hqb
      have hnr2 : nn (nI r2) = r2 := nn_nI (by omega)
      refine lv_iload_n hx hb dX8_whyNoMove_18 rfl (lv_at hl 2 rfl) ?_
      refine lv_iconst (v := nI 0) hx hb dX8_whyNoMove_19 (by decide) ?_
      refine lv_bipush (v := nI 99) hx hb dX8_whyNoMove_20 (by decide) ?_
      refine kx_retP (va_runS (As := [.int (fp), .int (nI (0)), .int (nI (99))]) (rest := []) ⟨hx, hb, hml, hown, hts⟩ (k_X8_within l D cs fp (nI (0)) (nI (99))) (cwS 3 hts gX8_whyNoMove_X8_within rfl rfl rfl (by decide +kernel) ⟨Nat.le_of_ble_eq_true rfl, Nat.le_of_ble_eq_true rfl⟩) (kx_preS hK hN trivial) rfl rfl hl.1 rfl (lv_room (Nat.le_of_ble_eq_true rfl)) dX8_whyNoMove_22 ⟨Nat.le_of_ble_eq_true rfl, Nat.le_of_ble_eq_true rfl⟩) ?_
      refine kb_if_eq (tgt := 43) hx hb dX8_whyNoMove_25 (by decide) (fun c_1 => ?_) (fun c_1 => ?_)
      · refine lv_iconst (v := nI 0) hx hb dX8_whyNoMove_43 (by decide) ?_
        refine lv_istore (lv' := [(6, .int (nI (0))), (0, .ref (a)), (1, .int (nI (r1))), (2, .int (fp)), (3, .int (nI (r2))), (4, .int (tp)), (5, .int (n0))]) hx hb dX8_whyNoMove_44 hl (by decide) rfl (fun ls hl => ?_)
        refine lv_iload hx hb dX8_whyNoMove_46 (lv_at hl 0 rfl) ?_
        refine kn_if_eq (tgt := 79) hx hb dX8_whyNoMove_48 (by decide) (by omega) (fun c_2 => ?_) (fun c_2 => ?_)
        · refine lv_iconst (v := nI 2) hx hb dX8_whyNoMove_79 (by decide) ?_
          exact kx_iretP hx hb hrt hlk (congrArg nI (by first | (simp [wmv, *]; done) | (exfalso; omega) | (exfalso; simp_all; done))) dX8_whyNoMove_80
        · refine lv_iload hx hb dX8_whyNoMove_51 (lv_at hl 6 rfl) ?_
          refine lv_iconst (v := nI 1) hx hb dX8_whyNoMove_53 (by decide) ?_
          refine lv_icmp_lt (tgt := 79) hx hb dX8_whyNoMove_54 (by decide) (fun c_3 => ?_) (fun c_3 => ?_)
          · refine lv_iconst (v := nI 2) hx hb dX8_whyNoMove_79 (by decide) ?_
            exact kx_iretP hx hb hrt hlk (congrArg nI (by first | (simp [wmv, *]; done) | (exfalso; omega) | (exfalso; simp_all; done))) dX8_whyNoMove_80
          · refine lv_iload hx hb dX8_whyNoMove_57 (lv_at hl 6 rfl) ?_
            refine lv_aload_n hx hb dX8_whyNoMove_59 rfl (lv_at hl 1 rfl) ?_
            refine lv_iload_n hx hb dX8_whyNoMove_60 rfl (lv_at hl 2 rfl) ?_
            refine lv_iconst (v := nI 1) hx hb dX8_whyNoMove_61 (by decide) ?_
            have hl1 := hI.l16 hrr1
            refine kx_retP (va_runV (As := [.int (nI (r1)), .int (nI (1))]) (rest := [.int (n0)]) ⟨hx, hb, hml, hown, hts⟩ (k_X8_ringPart l D cs a z r1 1 (by first | assumption | omega) (by first | assumption | omega)) (cwV 2 hts gX8_whyNoMove_X8_ringPart rfl rfl rfl (by decide +kernel) ⟨Nat.le_of_ble_eq_true rfl, Nat.le_of_ble_eq_true rfl⟩) (kx_preV hK hN hM.1 rfl hM) rfl rfl hl.1 rfl (lv_room (Nat.le_of_ble_eq_true rfl)) dX8_whyNoMove_62 ⟨Nat.le_of_ble_eq_true rfl, Nat.le_of_ble_eq_true rfl⟩) ?_
            refine kx_ci (y := nI (rL z r1)) (Inv.r1 hI (by first | assumption | omega)) ?_
            refine lv_icmp_gt (tgt := 79) hx hb dX8_whyNoMove_65 (by decide) (fun c_4 => ?_) (fun c_4 => ?_)
            · refine lv_iconst (v := nI 2) hx hb dX8_whyNoMove_79 (by decide) ?_
              exact kx_iretP hx hb hrt hlk (congrArg nI (by first | (simp [wmv, *]; done) | (exfalso; omega) | (exfalso; simp_all; done))) dX8_whyNoMove_80
            · refine lv_iload hx hb dX8_whyNoMove_68 (lv_at hl 6 rfl) ?_
              refine lv_aload_n hx hb dX8_whyNoMove_70 rfl (lv_at hl 1 rfl) ?_
              refine lv_iload_n hx hb dX8_whyNoMove_71 rfl (lv_at hl 4 rfl) ?_
              refine lv_iconst (v := nI 1) hx hb dX8_whyNoMove_72 (by decide) ?_
              have hl2 := hI.l16 hrr2
              refine kx_retP (va_runV (As := [.int (nI (r2)), .int (nI (1))]) (rest := [.int (n0)]) ⟨hx, hb, hml, hown, hts⟩ (k_X8_ringPart l D cs a z r2 1 (by first | assumption | omega) (by first | assumption | omega)) (cwV 2 hts gX8_whyNoMove_X8_ringPart rfl rfl rfl (by decide +kernel) ⟨Nat.le_of_ble_eq_true rfl, Nat.le_of_ble_eq_true rfl⟩) (kx_preV hK hN hM.1 rfl hM) rfl rfl hl.1 rfl (lv_room (Nat.le_of_ble_eq_true rfl)) dX8_whyNoMove_73 ⟨Nat.le_of_ble_eq_true rfl, Nat.le_of_ble_eq_true rfl⟩) ?_
              refine kx_ci (y := nI (rL z r2)) (Inv.r1 hI (by first | assumption | omega)) ?_
              refine lv_icmp_le (tgt := 81) hx hb dX8_whyNoMove_76 (by decide) (fun c_5 => ?_) (fun c_5 => ?_)
              · refine lv_aload_n hx hb dX8_whyNoMove_81 rfl (lv_at hl 1 rfl) ?_
                refine kx_get (v := .ref (a + 1)) hx hb hts hinX8 hown hK hM.1 rfl 1 (by decide) (by decide +kernel) rfl dX8_whyNoMove_82 ?_
                refine lv_iconst (v := nI 4) hx hb dX8_whyNoMove_85 (by decide) ?_
                refine kx_iald (i := 4) hx hb hK hM.state 0 rfl (by decide) (by decide) dX8_whyNoMove_86 ?_
                refine kx_ci (y := nI (Mn z)) (hI).z4 ?_
                refine lv_bipush (v := nI 24) hx hb dX8_whyNoMove_87 (by decide) ?_
                refine kn_icmp_ne (tgt := 96) hx hb dX8_whyNoMove_89 (by decide) (by omega) (by decide) (fun c_6 => ?_) (fun c_6 => ?_)
                · refine lv_iconst (v := nI 0) hx hb dX8_whyNoMove_96 (by decide) ?_
                  exact kx_iretP hx hb hrt hlk (congrArg nI (by first | (simp [wmv, *]; done) | (exfalso; omega) | (exfalso; simp_all; done))) dX8_whyNoMove_97
                · refine lv_iconst (v := nI 3) hx hb dX8_whyNoMove_92 (by decide) ?_
                  refine lv_goto (tgt := 97) hx hb dX8_whyNoMove_93 (by decide) ?_
                  exact kx_iretP hx hb hrt hlk (congrArg nI (by first | (simp [wmv, *]; done) | (exfalso; omega) | (exfalso; simp_all; done))) dX8_whyNoMove_97
              · refine lv_iconst (v := nI 2) hx hb dX8_whyNoMove_79 (by decide) ?_
                exact kx_iretP hx hb hrt hlk (congrArg nI (by first | (simp [wmv, *]; done) | (exfalso; omega) | (exfalso; simp_all; done))) dX8_whyNoMove_80
      · refine lv_iload hx hb dX8_whyNoMove_28 (lv_at hl 4 rfl) ?_
        refine lv_iconst (v := nI 0) hx hb dX8_whyNoMove_30 (by decide) ?_
        refine lv_bipush (v := nI 99) hx hb dX8_whyNoMove_31 (by decide) ?_
        refine kx_retP (va_runS (As := [.int (tp), .int (nI (0)), .int (nI (99))]) (rest := []) ⟨hx, hb, hml, hown, hts⟩ (k_X8_within l D cs tp (nI (0)) (nI (99))) (cwS 3 hts gX8_whyNoMove_X8_within rfl rfl rfl (by decide +kernel) ⟨Nat.le_of_ble_eq_true rfl, Nat.le_of_ble_eq_true rfl⟩) (kx_preS hK hN trivial) rfl rfl hl.1 rfl (lv_room (Nat.le_of_ble_eq_true rfl)) dX8_whyNoMove_33 ⟨Nat.le_of_ble_eq_true rfl, Nat.le_of_ble_eq_true rfl⟩) ?_
        refine kb_if_eq (tgt := 43) hx hb dX8_whyNoMove_36 (by decide) (fun c_7 => ?_) (fun c_7 => ?_)
        · refine lv_iconst (v := nI 0) hx hb dX8_whyNoMove_43 (by decide) ?_
          refine lv_istore (lv' := [(6, .int (nI (0))), (0, .ref (a)), (1, .int (nI (r1))), (2, .int (fp)), (3, .int (nI (r2))), (4, .int (tp)), (5, .int (n0))]) hx hb dX8_whyNoMove_44 hl (by decide) rfl (fun ls hl => ?_)
          refine lv_iload hx hb dX8_whyNoMove_46 (lv_at hl 0 rfl) ?_
          refine kn_if_eq (tgt := 79) hx hb dX8_whyNoMove_48 (by decide) (by omega) (fun c_8 => ?_) (fun c_8 => ?_)
          · refine lv_iconst (v := nI 2) hx hb dX8_whyNoMove_79 (by decide) ?_
            exact kx_iretP hx hb hrt hlk (congrArg nI (by first | (simp [wmv, *]; done) | (exfalso; omega) | (exfalso; simp_all; done))) dX8_whyNoMove_80
          · refine lv_iload hx hb dX8_whyNoMove_51 (lv_at hl 6 rfl) ?_
            refine lv_iconst (v := nI 1) hx hb dX8_whyNoMove_53 (by decide) ?_
            refine lv_icmp_lt (tgt := 79) hx hb dX8_whyNoMove_54 (by decide) (fun c_9 => ?_) (fun c_9 => ?_)
            · refine lv_iconst (v := nI 2) hx hb dX8_whyNoMove_79 (by decide) ?_
              exact kx_iretP hx hb hrt hlk (congrArg nI (by first | (simp [wmv, *]; done) | (exfalso; omega) | (exfalso; simp_all; done))) dX8_whyNoMove_80
            · refine lv_iload hx hb dX8_whyNoMove_57 (lv_at hl 6 rfl) ?_
              refine lv_aload_n hx hb dX8_whyNoMove_59 rfl (lv_at hl 1 rfl) ?_
              refine lv_iload_n hx hb dX8_whyNoMove_60 rfl (lv_at hl 2 rfl) ?_
              refine lv_iconst (v := nI 1) hx hb dX8_whyNoMove_61 (by decide) ?_
              have hl1 := hI.l16 hrr1
              refine kx_retP (va_runV (As := [.int (nI (r1)), .int (nI (1))]) (rest := [.int (n0)]) ⟨hx, hb, hml, hown, hts⟩ (k_X8_ringPart l D cs a z r1 1 (by first | assumption | omega) (by first | assumption | omega)) (cwV 2 hts gX8_whyNoMove_X8_ringPart rfl rfl rfl (by decide +kernel) ⟨Nat.le_of_ble_eq_true rfl, Nat.le_of_ble_eq_true rfl⟩) (kx_preV hK hN hM.1 rfl hM) rfl rfl hl.1 rfl (lv_room (Nat.le_of_ble_eq_true rfl)) dX8_whyNoMove_62 ⟨Nat.le_of_ble_eq_true rfl, Nat.le_of_ble_eq_true rfl⟩) ?_
              refine kx_ci (y := nI (rL z r1)) (Inv.r1 hI (by first | assumption | omega)) ?_
              refine lv_icmp_gt (tgt := 79) hx hb dX8_whyNoMove_65 (by decide) (fun c_10 => ?_) (fun c_10 => ?_)
              · refine lv_iconst (v := nI 2) hx hb dX8_whyNoMove_79 (by decide) ?_
                exact kx_iretP hx hb hrt hlk (congrArg nI (by first | (simp [wmv, *]; done) | (exfalso; omega) | (exfalso; simp_all; done))) dX8_whyNoMove_80
              · refine lv_iload hx hb dX8_whyNoMove_68 (lv_at hl 6 rfl) ?_
                refine lv_aload_n hx hb dX8_whyNoMove_70 rfl (lv_at hl 1 rfl) ?_
                refine lv_iload_n hx hb dX8_whyNoMove_71 rfl (lv_at hl 4 rfl) ?_
                refine lv_iconst (v := nI 1) hx hb dX8_whyNoMove_72 (by decide) ?_
                have hl2 := hI.l16 hrr2
                refine kx_retP (va_runV (As := [.int (nI (r2)), .int (nI (1))]) (rest := [.int (n0)]) ⟨hx, hb, hml, hown, hts⟩ (k_X8_ringPart l D cs a z r2 1 (by first | assumption | omega) (by first | assumption | omega)) (cwV 2 hts gX8_whyNoMove_X8_ringPart rfl rfl rfl (by decide +kernel) ⟨Nat.le_of_ble_eq_true rfl, Nat.le_of_ble_eq_true rfl⟩) (kx_preV hK hN hM.1 rfl hM) rfl rfl hl.1 rfl (lv_room (Nat.le_of_ble_eq_true rfl)) dX8_whyNoMove_73 ⟨Nat.le_of_ble_eq_true rfl, Nat.le_of_ble_eq_true rfl⟩) ?_
                refine kx_ci (y := nI (rL z r2)) (Inv.r1 hI (by first | assumption | omega)) ?_
                refine lv_icmp_le (tgt := 81) hx hb dX8_whyNoMove_76 (by decide) (fun c_11 => ?_) (fun c_11 => ?_)
                · refine lv_aload_n hx hb dX8_whyNoMove_81 rfl (lv_at hl 1 rfl) ?_
                  refine kx_get (v := .ref (a + 1)) hx hb hts hinX8 hown hK hM.1 rfl 1 (by decide) (by decide +kernel) rfl dX8_whyNoMove_82 ?_
                  refine lv_iconst (v := nI 4) hx hb dX8_whyNoMove_85 (by decide) ?_
                  refine kx_iald (i := 4) hx hb hK hM.state 0 rfl (by decide) (by decide) dX8_whyNoMove_86 ?_
                  refine kx_ci (y := nI (Mn z)) (hI).z4 ?_
                  refine lv_bipush (v := nI 24) hx hb dX8_whyNoMove_87 (by decide) ?_
                  refine kn_icmp_ne (tgt := 96) hx hb dX8_whyNoMove_89 (by decide) (by omega) (by decide) (fun c_12 => ?_) (fun c_12 => ?_)
                  · refine lv_iconst (v := nI 0) hx hb dX8_whyNoMove_96 (by decide) ?_
                    exact kx_iretP hx hb hrt hlk (congrArg nI (by first | (simp [wmv, *]; done) | (exfalso; omega) | (exfalso; simp_all; done))) dX8_whyNoMove_97
                  · refine lv_iconst (v := nI 3) hx hb dX8_whyNoMove_92 (by decide) ?_
                    refine lv_goto (tgt := 97) hx hb dX8_whyNoMove_93 (by decide) ?_
                    exact kx_iretP hx hb hrt hlk (congrArg nI (by first | (simp [wmv, *]; done) | (exfalso; omega) | (exfalso; simp_all; done))) dX8_whyNoMove_97
                · refine lv_iconst (v := nI 2) hx hb dX8_whyNoMove_79 (by decide) ?_
                  exact kx_iretP hx hb hrt hlk (congrArg nI (by first | (simp [wmv, *]; done) | (exfalso; omega) | (exfalso; simp_all; done))) dX8_whyNoMove_80
        · refine lv_iconst (v := nI 1) hx hb dX8_whyNoMove_39 (by decide) ?_
          refine lv_goto (tgt := 44) hx hb dX8_whyNoMove_40 (by decide) ?_
          refine lv_istore (lv' := [(6, .int (nI (1))), (0, .ref (a)), (1, .int (nI (r1))), (2, .int (fp)), (3, .int (nI (r2))), (4, .int (tp)), (5, .int (n0))]) hx hb dX8_whyNoMove_44 hl (by decide) rfl (fun ls hl => ?_)
          refine lv_iload hx hb dX8_whyNoMove_46 (lv_at hl 0 rfl) ?_
          refine kn_if_eq (tgt := 79) hx hb dX8_whyNoMove_48 (by decide) (by omega) (fun c_13 => ?_) (fun c_13 => ?_)
          · refine lv_iconst (v := nI 2) hx hb dX8_whyNoMove_79 (by decide) ?_
            exact kx_iretP hx hb hrt hlk (congrArg nI (by first | (simp [wmv, *]; done) | (exfalso; omega) | (exfalso; simp_all; done))) dX8_whyNoMove_80
          · refine lv_iload hx hb dX8_whyNoMove_51 (lv_at hl 6 rfl) ?_
            refine lv_iconst (v := nI 1) hx hb dX8_whyNoMove_53 (by decide) ?_
            refine lv_icmp_lt (tgt := 79) hx hb dX8_whyNoMove_54 (by decide) (fun c_14 => ?_) (fun c_14 => ?_)
            · refine lv_iconst (v := nI 2) hx hb dX8_whyNoMove_79 (by decide) ?_
              exact kx_iretP hx hb hrt hlk (congrArg nI (by first | (simp [wmv, *]; done) | (exfalso; omega) | (exfalso; simp_all; done))) dX8_whyNoMove_80
            · refine lv_iload hx hb dX8_whyNoMove_57 (lv_at hl 6 rfl) ?_
              refine lv_aload_n hx hb dX8_whyNoMove_59 rfl (lv_at hl 1 rfl) ?_
              refine lv_iload_n hx hb dX8_whyNoMove_60 rfl (lv_at hl 2 rfl) ?_
              refine lv_iconst (v := nI 1) hx hb dX8_whyNoMove_61 (by decide) ?_
              have hl1 := hI.l16 hrr1
              refine kx_retP (va_runV (As := [.int (nI (r1)), .int (nI (1))]) (rest := [.int (n0)]) ⟨hx, hb, hml, hown, hts⟩ (k_X8_ringPart l D cs a z r1 1 (by first | assumption | omega) (by first | assumption | omega)) (cwV 2 hts gX8_whyNoMove_X8_ringPart rfl rfl rfl (by decide +kernel) ⟨Nat.le_of_ble_eq_true rfl, Nat.le_of_ble_eq_true rfl⟩) (kx_preV hK hN hM.1 rfl hM) rfl rfl hl.1 rfl (lv_room (Nat.le_of_ble_eq_true rfl)) dX8_whyNoMove_62 ⟨Nat.le_of_ble_eq_true rfl, Nat.le_of_ble_eq_true rfl⟩) ?_
              refine kx_ci (y := nI (rL z r1)) (Inv.r1 hI (by first | assumption | omega)) ?_
              refine lv_icmp_gt (tgt := 79) hx hb dX8_whyNoMove_65 (by decide) (fun c_15 => ?_) (fun c_15 => ?_)
              · refine lv_iconst (v := nI 2) hx hb dX8_whyNoMove_79 (by decide) ?_
                exact kx_iretP hx hb hrt hlk (congrArg nI (by first | (simp [wmv, *]; done) | (exfalso; omega) | (exfalso; simp_all; done))) dX8_whyNoMove_80
              · refine lv_iload hx hb dX8_whyNoMove_68 (lv_at hl 6 rfl) ?_
                refine lv_aload_n hx hb dX8_whyNoMove_70 rfl (lv_at hl 1 rfl) ?_
                refine lv_iload_n hx hb dX8_whyNoMove_71 rfl (lv_at hl 4 rfl) ?_
                refine lv_iconst (v := nI 1) hx hb dX8_whyNoMove_72 (by decide) ?_
                have hl2 := hI.l16 hrr2
                refine kx_retP (va_runV (As := [.int (nI (r2)), .int (nI (1))]) (rest := [.int (n0)]) ⟨hx, hb, hml, hown, hts⟩ (k_X8_ringPart l D cs a z r2 1 (by first | assumption | omega) (by first | assumption | omega)) (cwV 2 hts gX8_whyNoMove_X8_ringPart rfl rfl rfl (by decide +kernel) ⟨Nat.le_of_ble_eq_true rfl, Nat.le_of_ble_eq_true rfl⟩) (kx_preV hK hN hM.1 rfl hM) rfl rfl hl.1 rfl (lv_room (Nat.le_of_ble_eq_true rfl)) dX8_whyNoMove_73 ⟨Nat.le_of_ble_eq_true rfl, Nat.le_of_ble_eq_true rfl⟩) ?_
                refine kx_ci (y := nI (rL z r2)) (Inv.r1 hI (by first | assumption | omega)) ?_
                refine lv_icmp_le (tgt := 81) hx hb dX8_whyNoMove_76 (by decide) (fun c_16 => ?_) (fun c_16 => ?_)
                · refine lv_aload_n hx hb dX8_whyNoMove_81 rfl (lv_at hl 1 rfl) ?_
                  refine kx_get (v := .ref (a + 1)) hx hb hts hinX8 hown hK hM.1 rfl 1 (by decide) (by decide +kernel) rfl dX8_whyNoMove_82 ?_
                  refine lv_iconst (v := nI 4) hx hb dX8_whyNoMove_85 (by decide) ?_
                  refine kx_iald (i := 4) hx hb hK hM.state 0 rfl (by decide) (by decide) dX8_whyNoMove_86 ?_
                  refine kx_ci (y := nI (Mn z)) (hI).z4 ?_
                  refine lv_bipush (v := nI 24) hx hb dX8_whyNoMove_87 (by decide) ?_
                  refine kn_icmp_ne (tgt := 96) hx hb dX8_whyNoMove_89 (by decide) (by omega) (by decide) (fun c_17 => ?_) (fun c_17 => ?_)
                  · refine lv_iconst (v := nI 0) hx hb dX8_whyNoMove_96 (by decide) ?_
                    exact kx_iretP hx hb hrt hlk (congrArg nI (by first | (simp [wmv, *]; done) | (exfalso; omega) | (exfalso; simp_all; done))) dX8_whyNoMove_97
                  · refine lv_iconst (v := nI 3) hx hb dX8_whyNoMove_92 (by decide) ?_
                    refine lv_goto (tgt := 97) hx hb dX8_whyNoMove_93 (by decide) ?_
                    exact kx_iretP hx hb hrt hlk (congrArg nI (by first | (simp [wmv, *]; done) | (exfalso; omega) | (exfalso; simp_all; done))) dX8_whyNoMove_97
                · refine lv_iconst (v := nI 2) hx hb dX8_whyNoMove_79 (by decide) ?_
                  exact kx_iretP hx hb hrt hlk (congrArg nI (by first | (simp [wmv, *]; done) | (exfalso; omega) | (exfalso; simp_all; done))) dX8_whyNoMove_80
    · refine lv_iconst (v := nI 1) hx hb dX8_whyNoMove_16 (by decide) ?_
      exact kx_iretP hx hb hrt hlk (congrArg nI (by first | (simp [wmv, *]; done) | (exfalso; omega) | (exfalso; simp_all; done))) dX8_whyNoMove_17
set_option maxHeartbeats 1500000 in
set_option maxRecDepth 100000 in
theorem k_X8_whyNoRing (l : Launch) (D : va_G) (cs : Nat → ClassId) (a : Nat) (z : Nat → Int32) (f ln pt : Int32) (hI : Inv z) : Met l yX8_whyNoRing wsX8_whyNoRing ({ frames := 2, cells := 0, slots := 0, locals := 43 } : Room) (PcK D cs [.ref (a), .int (f), .int (ln), .int (pt)] (fun H => MdC D (cs 0) a z H)) (QcP (some (.int (nI (wrg z f ln pt))))) 0 0 nowhere := by
  refine kx_met (cc := cX8_whyNoRing) (maxL := 7) (ret := (some .int)) (by decide) rfl (Nat.le_of_ble_eq_true rfl) ?_
  intro p e s m args below meth c hx hb hml hrt hts hown hlk hK hN hP ls hl
  have hl : lv_has ls 7 [(0, .ref (a)), (1, .int (f)), (2, .int (ln)), (3, .int (pt))] := hl
  have hinX8 : ∀ w ∈ wsX80, w ∈ wsX8_whyNoRing := by decide +kernel
  have hM := hP
  have h24 := hI.M24
  have h6 := hI.R6
  refine lv_aload_n hx hb dX8_whyNoRing_0 rfl (lv_at hl 0 rfl) ?_
  refine lv_iload_n hx hb dX8_whyNoRing_1 rfl (lv_at hl 1 rfl) ?_
  refine kx_retP (va_runV (As := [.int (f)]) (rest := []) ⟨hx, hb, hml, hown, hts⟩ (k_X8_isCell l D cs a z f) (cwV 1 hts gX8_whyNoRing_X8_isCell rfl rfl rfl (by decide +kernel) ⟨Nat.le_of_ble_eq_true rfl, Nat.le_of_ble_eq_true rfl⟩) (kx_preV hK hN hM.1 rfl hM) rfl rfl hl.1 rfl (lv_room (Nat.le_of_ble_eq_true rfl)) dX8_whyNoRing_2 ⟨Nat.le_of_ble_eq_true rfl, Nat.le_of_ble_eq_true rfl⟩) ?_
  refine kb_if_ne (tgt := 10) hx hb dX8_whyNoRing_5 (by decide) (fun c_1 => ?_) (fun c_1 => ?_)
  · refine lv_iload_n hx hb dX8_whyNoRing_10 rfl (lv_at hl 2 rfl) ?_
    refine lv_iconst (v := nI 2) hx hb dX8_whyNoRing_11 (by decide) ?_
    refine lv_bipush (v := nI 16) hx hb dX8_whyNoRing_12 (by decide) ?_
    refine kx_retP (va_runS (As := [.int (ln), .int (nI (2)), .int (nI (16))]) (rest := []) ⟨hx, hb, hml, hown, hts⟩ (k_X8_within l D cs ln (nI (2)) (nI (16))) (cwS 3 hts gX8_whyNoRing_X8_within rfl rfl rfl (by decide +kernel) ⟨Nat.le_of_ble_eq_true rfl, Nat.le_of_ble_eq_true rfl⟩) (kx_preS hK hN trivial) rfl rfl hl.1 rfl (lv_room (Nat.le_of_ble_eq_true rfl)) dX8_whyNoRing_14 ⟨Nat.le_of_ble_eq_true rfl, Nat.le_of_ble_eq_true rfl⟩) ?_
    refine kb_if_eq (tgt := 38) hx hb dX8_whyNoRing_17 (by decide) (fun c_2 => ?_) (fun c_2 => ?_)
    · refine lv_iconst (v := nI 2) hx hb dX8_whyNoRing_38 (by decide) ?_
      exact kx_iretP hx hb hrt hlk (congrArg nI (by first | (simp [wrg, *]; done) | (exfalso; omega) | (exfalso; simp_all; done))) dX8_whyNoRing_39
    · refine lv_iload_n hx hb dX8_whyNoRing_20 rfl (lv_at hl 3 rfl) ?_
      refine lv_iconst (v := nI 0) hx hb dX8_whyNoRing_21 (by decide) ?_
      refine lv_bipush (v := nI 50) hx hb dX8_whyNoRing_22 (by decide) ?_
      refine kx_retP (va_runS (As := [.int (pt), .int (nI (0)), .int (nI (50))]) (rest := []) ⟨hx, hb, hml, hown, hts⟩ (k_X8_within l D cs pt (nI (0)) (nI (50))) (cwS 3 hts gX8_whyNoRing_X8_within rfl rfl rfl (by decide +kernel) ⟨Nat.le_of_ble_eq_true rfl, Nat.le_of_ble_eq_true rfl⟩) (kx_preS hK hN trivial) rfl rfl hl.1 rfl (lv_room (Nat.le_of_ble_eq_true rfl)) dX8_whyNoRing_24 ⟨Nat.le_of_ble_eq_true rfl, Nat.le_of_ble_eq_true rfl⟩) ?_
      refine kb_if_eq (tgt := 38) hx hb dX8_whyNoRing_27 (by decide) (fun c_3 => ?_) (fun c_3 => ?_)
      · refine lv_iconst (v := nI 2) hx hb dX8_whyNoRing_38 (by decide) ?_
        exact kx_iretP hx hb hrt hlk (congrArg nI (by first | (simp [wrg, *]; done) | (exfalso; omega) | (exfalso; simp_all; done))) dX8_whyNoRing_39
      · refine lv_iload_n hx hb dX8_whyNoRing_30 rfl (lv_at hl 1 rfl) ?_
        refine lv_iload_n hx hb dX8_whyNoRing_31 rfl (lv_at hl 2 rfl) ?_
        refine lv_iadd hx hb dX8_whyNoRing_32 ?_
        refine lv_bipush (v := nI 48) hx hb dX8_whyNoRing_33 (by decide) ?_
        refine lv_icmp_le (tgt := 40) hx hb dX8_whyNoRing_35 (by decide) (fun c_4 => ?_) (fun c_4 => ?_)
        · refine lv_aload_n hx hb dX8_whyNoRing_40 rfl (lv_at hl 0 rfl) ?_
          refine kx_get (v := .ref (a + 1)) hx hb hts hinX8 hown hK hM.1 rfl 1 (by decide) (by decide +kernel) rfl dX8_whyNoRing_41 ?_
          refine lv_iconst (v := nI 3) hx hb dX8_whyNoRing_44 (by decide) ?_
          refine kx_iald (i := 3) hx hb hK hM.state 0 rfl (by decide) (by decide) dX8_whyNoRing_45 ?_
          refine kx_ci (y := nI (Rn z)) (hI).z3 ?_
          refine lv_bipush (v := nI 6) hx hb dX8_whyNoRing_46 (by decide) ?_
          refine kn_icmp_ne (tgt := 55) hx hb dX8_whyNoRing_48 (by decide) (by omega) (by decide) (fun c_5 => ?_) (fun c_5 => ?_)
          · refine lv_iconst (v := nI 0) hx hb dX8_whyNoRing_55 (by decide) ?_
            refine kx_ci (x := nI (0)) (y := nI (wrgK z f ln 0)) (congrArg nI (by simp [wrgK, foldN, *])) ?_
            refine lv_istore (lv' := [(4, .int (nI (wrgK z f ln 0))), (0, .ref (a)), (1, .int (f)), (2, .int (ln)), (3, .int (pt))]) hx hb dX8_whyNoRing_56 hl (by decide) rfl (fun ls hl => ?_)
            refine lv_iconst (v := nI 0) hx hb dX8_whyNoRing_58 (by decide) ?_
            refine lv_istore (lv' := [(5, .int (nI (0))), (4, .int (nI (wrgK z f ln 0))), (0, .ref (a)), (1, .int (f)), (2, .int (ln)), (3, .int (pt))]) hx hb dX8_whyNoRing_59 hl (by decide) rfl (fun ls hl => ?_)
            have J61 : ∀ (n61 : Nat) (k : Nat) (ls : Array Slot), (Rn z - k) < n61 → (k ≤ Rn z) → lv_has ls 7 [(0, .ref (a)), (1, .int (f)), (2, .int (ln)), (3, .int (pt)), (4, .int (nI (wrgK z f ln k))), (5, .int (nI (k)))] → W p l e ({ frames := 2, cells := 0, slots := 0, locals := 43 } : Room) s m args below meth c s.heap [] 0 0 (MQ below (QcP (some (.int (nI (wrg z f ln pt))))) args s 0 0 nowhere) (F0 m 61 ls []) := by
              intro n61; induction n61 with
              | zero => intro k ls hmu61 hk hl; exact absurd hmu61 (Nat.not_lt_zero _)
              | succ n61 ih61 =>
                intro k ls hmu61 hk hl
                refine lv_iload hx hb dX8_whyNoRing_61 (lv_at hl 5 rfl) ?_
                refine lv_aload_n hx hb dX8_whyNoRing_63 rfl (lv_at hl 0 rfl) ?_
                refine kx_get (v := .ref (a + 1)) hx hb hts hinX8 hown hK hM.1 rfl 1 (by decide) (by decide +kernel) rfl dX8_whyNoRing_64 ?_
                refine lv_iconst (v := nI 3) hx hb dX8_whyNoRing_67 (by decide) ?_
                refine kx_iald (i := 3) hx hb hK hM.state 0 rfl (by decide) (by decide) dX8_whyNoRing_68 ?_
                refine kx_ci (y := nI (Rn z)) (hI).z3 ?_
                refine kn_icmp_ge (tgt := 117) hx hb dX8_whyNoRing_69 (by decide) (by omega) (by omega) (fun c_6 => ?_) (fun c_6 => ?_)
                · refine lv_iload hx hb dX8_whyNoRing_117 (lv_at hl 4 rfl) ?_
                  exact kx_iretP hx hb hrt hlk (congrArg nI (by rw [show k = Rn z by omega]; simp [wrg, *])) dX8_whyNoRing_119
                · have hkR : k < Rn z := by omega
                  have hl16 := hI.l16 hkR
                  refine lv_aload_n hx hb dX8_whyNoRing_72 rfl (lv_at hl 0 rfl) ?_
                  refine lv_iload hx hb dX8_whyNoRing_73 (lv_at hl 5 rfl) ?_
                  refine lv_iconst (v := nI 0) hx hb dX8_whyNoRing_75 (by decide) ?_
                  refine kx_retP (va_runV (As := [.int (nI (k)), .int (nI (0))]) (rest := []) ⟨hx, hb, hml, hown, hts⟩ (k_X8_ringPart l D cs a z k 0 (by first | assumption | omega) (by first | assumption | omega)) (cwV 2 hts gX8_whyNoRing_X8_ringPart rfl rfl rfl (by decide +kernel) ⟨Nat.le_of_ble_eq_true rfl, Nat.le_of_ble_eq_true rfl⟩) (kx_preV hK hN hM.1 rfl hM) rfl rfl hl.1 rfl (lv_room (Nat.le_of_ble_eq_true rfl)) dX8_whyNoRing_76 ⟨Nat.le_of_ble_eq_true rfl, Nat.le_of_ble_eq_true rfl⟩) ?_
                  refine kx_ci (y := nI (rF z k)) (Inv.r0 hI (by first | assumption | omega)) ?_
                  refine lv_istore (lv' := [(6, .int (nI (rF z k))), (0, .ref (a)), (1, .int (f)), (2, .int (ln)), (3, .int (pt)), (4, .int (nI (wrgK z f ln k))), (5, .int (nI (k)))]) hx hb dX8_whyNoRing_79 hl (by decide) rfl (fun ls hl => ?_)
                  refine lv_iload_n hx hb dX8_whyNoRing_81 rfl (lv_at hl 2 rfl) ?_
                  refine lv_iload hx hb dX8_whyNoRing_82 (lv_at hl 0 rfl) ?_
                  refine lv_aload_n hx hb dX8_whyNoRing_84 rfl (lv_at hl 1 rfl) ?_
                  refine lv_iload hx hb dX8_whyNoRing_85 (lv_at hl 6 rfl) ?_
                  refine lv_iconst (v := nI 1) hx hb dX8_whyNoRing_87 (by decide) ?_
                  refine kx_retP (va_runV (As := [.int (nI (k)), .int (nI (1))]) (rest := [.int (nI (rF z k)), .int (f)]) ⟨hx, hb, hml, hown, hts⟩ (k_X8_ringPart l D cs a z k 1 (by first | assumption | omega) (by first | assumption | omega)) (cwV 2 hts gX8_whyNoRing_X8_ringPart rfl rfl rfl (by decide +kernel) ⟨Nat.le_of_ble_eq_true rfl, Nat.le_of_ble_eq_true rfl⟩) (kx_preV hK hN hM.1 rfl hM) rfl rfl hl.1 rfl (lv_room (Nat.le_of_ble_eq_true rfl)) dX8_whyNoRing_88 ⟨Nat.le_of_ble_eq_true rfl, Nat.le_of_ble_eq_true rfl⟩) ?_
                  refine kx_ci (y := nI (rL z k)) (Inv.r1 hI (by first | assumption | omega)) ?_
                  refine kn_add hx hb dX8_whyNoRing_91 ?_
                  refine lv_icmp_ge (tgt := 107) hx hb dX8_whyNoRing_92 (by decide) (fun c_7 => ?_) (fun c_7 => ?_)
                  · refine lv_iload hx hb dX8_whyNoRing_107 (lv_at hl 5 rfl) ?_
                    refine kx_ci (x := nI (wrgK z f ln k)) (y := nI (wrgK z f ln (k + 1))) (congrArg nI (by rw [wrgK_s]; simp [ovB, *])) ?_
                    refine lv_istore (lv' := [(4, .int (nI (wrgK z f ln (k + 1)))), (6, .int (nI (rF z k))), (0, .ref (a)), (1, .int (f)), (2, .int (ln)), (3, .int (pt)), (5, .int (nI (k)))]) hx hb dX8_whyNoRing_109 hl (by decide) rfl (fun ls hl => ?_)
                    refine lv_iinc (v := nI (k + 1)) (lv' := [(5, .int (nI (k + 1))), (4, .int (nI (wrgK z f ln (k + 1)))), (6, .int (nI (rF z k))), (0, .ref (a)), (1, .int (f)), (2, .int (ln)), (3, .int (pt))]) (k := 6) hx hb dX8_whyNoRing_111 hl rfl (nI_add _ _) (by decide) rfl (fun ls hl => ?_)
                    refine lv_goto (tgt := 61) hx hb dX8_whyNoRing_114 (by decide) ?_
                    exact ih61 (k + 1) _ (by omega) (by omega) (lv_sub hl [3, 4, 5, 6, 1, 0] rfl)
                  · refine lv_iload hx hb dX8_whyNoRing_95 (lv_at hl 0 rfl) ?_
                    refine lv_iload_n hx hb dX8_whyNoRing_97 rfl (lv_at hl 2 rfl) ?_
                    refine lv_iload_n hx hb dX8_whyNoRing_98 rfl (lv_at hl 3 rfl) ?_
                    refine lv_iadd hx hb dX8_whyNoRing_99 ?_
                    refine lv_icmp_ge (tgt := 107) hx hb dX8_whyNoRing_100 (by decide) (fun c_8 => ?_) (fun c_8 => ?_)
                    · refine lv_iload hx hb dX8_whyNoRing_107 (lv_at hl 5 rfl) ?_
                      refine kx_ci (x := nI (wrgK z f ln k)) (y := nI (wrgK z f ln (k + 1))) (congrArg nI (by rw [wrgK_s]; simp [ovB, *])) ?_
                      refine lv_istore (lv' := [(4, .int (nI (wrgK z f ln (k + 1)))), (6, .int (nI (rF z k))), (0, .ref (a)), (1, .int (f)), (2, .int (ln)), (3, .int (pt)), (5, .int (nI (k)))]) hx hb dX8_whyNoRing_109 hl (by decide) rfl (fun ls hl => ?_)
                      refine lv_iinc (v := nI (k + 1)) (lv' := [(5, .int (nI (k + 1))), (4, .int (nI (wrgK z f ln (k + 1)))), (6, .int (nI (rF z k))), (0, .ref (a)), (1, .int (f)), (2, .int (ln)), (3, .int (pt))]) (k := 6) hx hb dX8_whyNoRing_111 hl rfl (nI_add _ _) (by decide) rfl (fun ls hl => ?_)
                      refine lv_goto (tgt := 61) hx hb dX8_whyNoRing_114 (by decide) ?_
                      exact ih61 (k + 1) _ (by omega) (by omega) (lv_sub hl [3, 4, 5, 6, 1, 0] rfl)
                    · refine lv_iconst (v := nI 3) hx hb dX8_whyNoRing_103 (by decide) ?_
                      refine lv_goto (tgt := 109) hx hb dX8_whyNoRing_104 (by decide) ?_
                      refine kx_ci (x := nI (3)) (y := nI (wrgK z f ln (k + 1))) (congrArg nI (by rw [wrgK_s]; simp [ovB, *])) ?_
                      refine lv_istore (lv' := [(4, .int (nI (wrgK z f ln (k + 1)))), (6, .int (nI (rF z k))), (0, .ref (a)), (1, .int (f)), (2, .int (ln)), (3, .int (pt)), (5, .int (nI (k)))]) hx hb dX8_whyNoRing_109 hl (by decide) rfl (fun ls hl => ?_)
                      refine lv_iinc (v := nI (k + 1)) (lv' := [(5, .int (nI (k + 1))), (4, .int (nI (wrgK z f ln (k + 1)))), (6, .int (nI (rF z k))), (0, .ref (a)), (1, .int (f)), (2, .int (ln)), (3, .int (pt))]) (k := 6) hx hb dX8_whyNoRing_111 hl rfl (nI_add _ _) (by decide) rfl (fun ls hl => ?_)
                      refine lv_goto (tgt := 61) hx hb dX8_whyNoRing_114 (by decide) ?_
                      exact ih61 (k + 1) _ (by omega) (by omega) (lv_sub hl [3, 4, 5, 6, 1, 0] rfl)
            exact J61 _ 0 _ (Nat.lt_succ_self _) (by omega) (lv_sub hl [2, 3, 4, 5, 1, 0] rfl)
          · refine lv_iconst (v := nI 3) hx hb dX8_whyNoRing_51 (by decide) ?_
            refine lv_goto (tgt := 56) hx hb dX8_whyNoRing_52 (by decide) ?_
            refine kx_ci (x := nI (3)) (y := nI (wrgK z f ln 0)) (congrArg nI (by simp [wrgK, foldN, *])) ?_
            refine lv_istore (lv' := [(4, .int (nI (wrgK z f ln 0))), (0, .ref (a)), (1, .int (f)), (2, .int (ln)), (3, .int (pt))]) hx hb dX8_whyNoRing_56 hl (by decide) rfl (fun ls hl => ?_)
            refine lv_iconst (v := nI 0) hx hb dX8_whyNoRing_58 (by decide) ?_
            refine lv_istore (lv' := [(5, .int (nI (0))), (4, .int (nI (wrgK z f ln 0))), (0, .ref (a)), (1, .int (f)), (2, .int (ln)), (3, .int (pt))]) hx hb dX8_whyNoRing_59 hl (by decide) rfl (fun ls hl => ?_)
            have J61 : ∀ (n61 : Nat) (k : Nat) (ls : Array Slot), (Rn z - k) < n61 → (k ≤ Rn z) → lv_has ls 7 [(0, .ref (a)), (1, .int (f)), (2, .int (ln)), (3, .int (pt)), (4, .int (nI (wrgK z f ln k))), (5, .int (nI (k)))] → W p l e ({ frames := 2, cells := 0, slots := 0, locals := 43 } : Room) s m args below meth c s.heap [] 0 0 (MQ below (QcP (some (.int (nI (wrg z f ln pt))))) args s 0 0 nowhere) (F0 m 61 ls []) := by
              intro n61; induction n61 with
              | zero => intro k ls hmu61 hk hl; exact absurd hmu61 (Nat.not_lt_zero _)
              | succ n61 ih61 =>
                intro k ls hmu61 hk hl
                refine lv_iload hx hb dX8_whyNoRing_61 (lv_at hl 5 rfl) ?_
                refine lv_aload_n hx hb dX8_whyNoRing_63 rfl (lv_at hl 0 rfl) ?_
                refine kx_get (v := .ref (a + 1)) hx hb hts hinX8 hown hK hM.1 rfl 1 (by decide) (by decide +kernel) rfl dX8_whyNoRing_64 ?_
                refine lv_iconst (v := nI 3) hx hb dX8_whyNoRing_67 (by decide) ?_
                refine kx_iald (i := 3) hx hb hK hM.state 0 rfl (by decide) (by decide) dX8_whyNoRing_68 ?_
                refine kx_ci (y := nI (Rn z)) (hI).z3 ?_
                refine kn_icmp_ge (tgt := 117) hx hb dX8_whyNoRing_69 (by decide) (by omega) (by omega) (fun c_9 => ?_) (fun c_9 => ?_)
                · refine lv_iload hx hb dX8_whyNoRing_117 (lv_at hl 4 rfl) ?_
                  exact kx_iretP hx hb hrt hlk (congrArg nI (by rw [show k = Rn z by omega]; simp [wrg, *])) dX8_whyNoRing_119
                · have hkR : k < Rn z := by omega
                  have hl16 := hI.l16 hkR
                  refine lv_aload_n hx hb dX8_whyNoRing_72 rfl (lv_at hl 0 rfl) ?_
                  refine lv_iload hx hb dX8_whyNoRing_73 (lv_at hl 5 rfl) ?_
                  refine lv_iconst (v := nI 0) hx hb dX8_whyNoRing_75 (by decide) ?_
                  refine kx_retP (va_runV (As := [.int (nI (k)), .int (nI (0))]) (rest := []) ⟨hx, hb, hml, hown, hts⟩ (k_X8_ringPart l D cs a z k 0 (by first | assumption | omega) (by first | assumption | omega)) (cwV 2 hts gX8_whyNoRing_X8_ringPart rfl rfl rfl (by decide +kernel) ⟨Nat.le_of_ble_eq_true rfl, Nat.le_of_ble_eq_true rfl⟩) (kx_preV hK hN hM.1 rfl hM) rfl rfl hl.1 rfl (lv_room (Nat.le_of_ble_eq_true rfl)) dX8_whyNoRing_76 ⟨Nat.le_of_ble_eq_true rfl, Nat.le_of_ble_eq_true rfl⟩) ?_
                  refine kx_ci (y := nI (rF z k)) (Inv.r0 hI (by first | assumption | omega)) ?_
                  refine lv_istore (lv' := [(6, .int (nI (rF z k))), (0, .ref (a)), (1, .int (f)), (2, .int (ln)), (3, .int (pt)), (4, .int (nI (wrgK z f ln k))), (5, .int (nI (k)))]) hx hb dX8_whyNoRing_79 hl (by decide) rfl (fun ls hl => ?_)
                  refine lv_iload_n hx hb dX8_whyNoRing_81 rfl (lv_at hl 2 rfl) ?_
                  refine lv_iload hx hb dX8_whyNoRing_82 (lv_at hl 0 rfl) ?_
                  refine lv_aload_n hx hb dX8_whyNoRing_84 rfl (lv_at hl 1 rfl) ?_
                  refine lv_iload hx hb dX8_whyNoRing_85 (lv_at hl 6 rfl) ?_
                  refine lv_iconst (v := nI 1) hx hb dX8_whyNoRing_87 (by decide) ?_
                  refine kx_retP (va_runV (As := [.int (nI (k)), .int (nI (1))]) (rest := [.int (nI (rF z k)), .int (f)]) ⟨hx, hb, hml, hown, hts⟩ (k_X8_ringPart l D cs a z k 1 (by first | assumption | omega) (by first | assumption | omega)) (cwV 2 hts gX8_whyNoRing_X8_ringPart rfl rfl rfl (by decide +kernel) ⟨Nat.le_of_ble_eq_true rfl, Nat.le_of_ble_eq_true rfl⟩) (kx_preV hK hN hM.1 rfl hM) rfl rfl hl.1 rfl (lv_room (Nat.le_of_ble_eq_true rfl)) dX8_whyNoRing_88 ⟨Nat.le_of_ble_eq_true rfl, Nat.le_of_ble_eq_true rfl⟩) ?_
                  refine kx_ci (y := nI (rL z k)) (Inv.r1 hI (by first | assumption | omega)) ?_
                  refine kn_add hx hb dX8_whyNoRing_91 ?_
                  refine lv_icmp_ge (tgt := 107) hx hb dX8_whyNoRing_92 (by decide) (fun c_10 => ?_) (fun c_10 => ?_)
                  · refine lv_iload hx hb dX8_whyNoRing_107 (lv_at hl 5 rfl) ?_
                    refine kx_ci (x := nI (wrgK z f ln k)) (y := nI (wrgK z f ln (k + 1))) (congrArg nI (by rw [wrgK_s]; simp [ovB, *])) ?_
                    refine lv_istore (lv' := [(4, .int (nI (wrgK z f ln (k + 1)))), (6, .int (nI (rF z k))), (0, .ref (a)), (1, .int (f)), (2, .int (ln)), (3, .int (pt)), (5, .int (nI (k)))]) hx hb dX8_whyNoRing_109 hl (by decide) rfl (fun ls hl => ?_)
                    refine lv_iinc (v := nI (k + 1)) (lv' := [(5, .int (nI (k + 1))), (4, .int (nI (wrgK z f ln (k + 1)))), (6, .int (nI (rF z k))), (0, .ref (a)), (1, .int (f)), (2, .int (ln)), (3, .int (pt))]) (k := 6) hx hb dX8_whyNoRing_111 hl rfl (nI_add _ _) (by decide) rfl (fun ls hl => ?_)
                    refine lv_goto (tgt := 61) hx hb dX8_whyNoRing_114 (by decide) ?_
                    exact ih61 (k + 1) _ (by omega) (by omega) (lv_sub hl [3, 4, 5, 6, 1, 0] rfl)
                  · refine lv_iload hx hb dX8_whyNoRing_95 (lv_at hl 0 rfl) ?_
                    refine lv_iload_n hx hb dX8_whyNoRing_97 rfl (lv_at hl 2 rfl) ?_
                    refine lv_iload_n hx hb dX8_whyNoRing_98 rfl (lv_at hl 3 rfl) ?_
                    refine lv_iadd hx hb dX8_whyNoRing_99 ?_
                    refine lv_icmp_ge (tgt := 107) hx hb dX8_whyNoRing_100 (by decide) (fun c_11 => ?_) (fun c_11 => ?_)
                    · refine lv_iload hx hb dX8_whyNoRing_107 (lv_at hl 5 rfl) ?_
                      refine kx_ci (x := nI (wrgK z f ln k)) (y := nI (wrgK z f ln (k + 1))) (congrArg nI (by rw [wrgK_s]; simp [ovB, *])) ?_
                      refine lv_istore (lv' := [(4, .int (nI (wrgK z f ln (k + 1)))), (6, .int (nI (rF z k))), (0, .ref (a)), (1, .int (f)), (2, .int (ln)), (3, .int (pt)), (5, .int (nI (k)))]) hx hb dX8_whyNoRing_109 hl (by decide) rfl (fun ls hl => ?_)
                      refine lv_iinc (v := nI (k + 1)) (lv' := [(5, .int (nI (k + 1))), (4, .int (nI (wrgK z f ln (k + 1)))), (6, .int (nI (rF z k))), (0, .ref (a)), (1, .int (f)), (2, .int (ln)), (3, .int (pt))]) (k := 6) hx hb dX8_whyNoRing_111 hl rfl (nI_add _ _) (by decide) rfl (fun ls hl => ?_)
                      refine lv_goto (tgt := 61) hx hb dX8_whyNoRing_114 (by decide) ?_
                      exact ih61 (k + 1) _ (by omega) (by omega) (lv_sub hl [3, 4, 5, 6, 1, 0] rfl)
                    · refine lv_iconst (v := nI 3) hx hb dX8_whyNoRing_103 (by decide) ?_
                      refine lv_goto (tgt := 109) hx hb dX8_whyNoRing_104 (by decide) ?_
                      refine kx_ci (x := nI (3)) (y := nI (wrgK z f ln (k + 1))) (congrArg nI (by rw [wrgK_s]; simp [ovB, *])) ?_
                      refine lv_istore (lv' := [(4, .int (nI (wrgK z f ln (k + 1)))), (6, .int (nI (rF z k))), (0, .ref (a)), (1, .int (f)), (2, .int (ln)), (3, .int (pt)), (5, .int (nI (k)))]) hx hb dX8_whyNoRing_109 hl (by decide) rfl (fun ls hl => ?_)
                      refine lv_iinc (v := nI (k + 1)) (lv' := [(5, .int (nI (k + 1))), (4, .int (nI (wrgK z f ln (k + 1)))), (6, .int (nI (rF z k))), (0, .ref (a)), (1, .int (f)), (2, .int (ln)), (3, .int (pt))]) (k := 6) hx hb dX8_whyNoRing_111 hl rfl (nI_add _ _) (by decide) rfl (fun ls hl => ?_)
                      refine lv_goto (tgt := 61) hx hb dX8_whyNoRing_114 (by decide) ?_
                      exact ih61 (k + 1) _ (by omega) (by omega) (lv_sub hl [3, 4, 5, 6, 1, 0] rfl)
            exact J61 _ 0 _ (Nat.lt_succ_self _) (by omega) (lv_sub hl [2, 3, 4, 5, 1, 0] rfl)
        · refine lv_iconst (v := nI 2) hx hb dX8_whyNoRing_38 (by decide) ?_
          exact kx_iretP hx hb hrt hlk (congrArg nI (by first | (simp [wrg, *]; done) | (exfalso; omega) | (exfalso; simp_all; done))) dX8_whyNoRing_39
  · refine lv_iconst (v := nI 1) hx hb dX8_whyNoRing_8 (by decide) ?_
    exact kx_iretP hx hb hrt hlk (congrArg nI (by first | (simp [wrg, *]; done) | (exfalso; omega) | (exfalso; simp_all; done))) dX8_whyNoRing_9
set_option maxHeartbeats 1500000 in
set_option maxRecDepth 100000 in
theorem k_X8_startMove (l : Launch) (D : va_G) (cs : Nat → ClassId) (a : Nat) (z : Nat → Int32) (mv : Nat) (hI : Inv z) (hm : mv < Mn z) : Met l yX8_startMove wsX8_startMove ({ frames := 2, cells := 0, slots := 0, locals := 45 } : Room) (PcK D cs [.ref (a), .int (nI (mv))] (fun H => MdC D (cs 0) a z H)) (QcM none (fun H => MdC D (cs 0) a (startF z mv) H) (rgM a)) 0 0 ((rgM a)) := by
  refine kx_met (cc := cX8_startMove) (maxL := 3) (ret := none) (by decide) rfl (Nat.le_of_ble_eq_true rfl) ?_
  intro p e s m args below meth c hx hb hml hrt hts hown hlk hK hN hP ls hl
  have hl : lv_has ls 3 [(0, .ref (a)), (1, .int (nI (mv)))] := hl
  obtain ⟨H, hHe⟩ : ∃ H : Heap, H = s.heap := ⟨_, rfl⟩
  rw [← hHe] at hP ⊢
  have hS : va_S ((rgM a)) s.heap H [] := by rw [← hHe]; exact va_S.rf
  have hinX8 : ∀ w ∈ wsX80, w ∈ wsX8_startMove := by decide +kernel
  have hM := hP
  have h24 := hI.M24
  have h6 := hI.R6
  have hc16 := hI.c16 hm
  refine lv_aload_n hx hb dX8_startMove_0 rfl (lv_at hl 0 rfl) ?_
  refine lv_iload_n hx hb dX8_startMove_1 rfl (lv_at hl 1 rfl) ?_
  refine lv_iconst (v := nI 5) hx hb dX8_startMove_2 (by decide) ?_
  refine lv_iconst (v := nI 1) hx hb dX8_startMove_3 (by decide) ?_
  refine kx_retM (va_runV (As := [.int (nI (mv)), .int (nI (5)), .int (nI (1))]) (rest := []) ⟨hx, hb, hml, hown, hts⟩ (k_X8_setMovePart l D cs a z mv 5 (nI (1)) (by first | assumption | omega) (by first | assumption | omega)) (cwV 3 hts gX8_startMove_X8_setMovePart rfl rfl rfl (by decide +kernel) ⟨Nat.le_of_ble_eq_true rfl, Nat.le_of_ble_eq_true rfl⟩) (kx_preV hK hN hM.1 rfl hM) rfl rfl hl.1 rfl (lv_room (Nat.le_of_ble_eq_true rfl)) dX8_startMove_4 ⟨Nat.le_of_ble_eq_true rfl, Nat.le_of_ble_eq_true rfl⟩) hS (fun q _ h => h) (fun q h => h) (fun H locs hM hk hS => ?_)
  clear hk
  refine lv_aload_n hx hb dX8_startMove_7 rfl (lv_at hl 0 rfl) ?_
  refine lv_iload_n hx hb dX8_startMove_8 rfl (lv_at hl 1 rfl) ?_
  refine lv_bipush (v := nI 7) hx hb dX8_startMove_9 (by decide) ?_
  refine lv_aload_n hx hb dX8_startMove_11 rfl (lv_at hl 0 rfl) ?_
  refine kx_get (v := .ref (a + 1)) hx hb hts hinX8 hown hK hM.1 rfl 1 (by decide) (by decide +kernel) rfl dX8_startMove_12 ?_
  refine lv_iconst (v := nI 0) hx hb dX8_startMove_15 (by decide) ?_
  refine kx_iald (i := 0) hx hb hK hM.state 0 rfl (by decide) (by decide) dX8_startMove_16 ?_
  refine kx_ci (y := z 0) (by simp only [upd_at]; repeat rw [if_neg (by omega)]) ?_
  refine kx_retM (va_runV (As := [.int (nI (mv)), .int (nI (7)), .int (z 0)]) (rest := []) ⟨hx, hb, hml, hown, hts⟩ (k_X8_setMovePart l D cs a (upd z (80 + 10 * mv + 5) (nI (1))) mv 7 (z 0) (by first | assumption | omega) (by first | assumption | omega)) (cwV 3 hts gX8_startMove_X8_setMovePart rfl rfl rfl (by decide +kernel) ⟨Nat.le_of_ble_eq_true rfl, Nat.le_of_ble_eq_true rfl⟩) (kx_preV hK hN hM.1 rfl hM) rfl rfl hl.1 rfl (lv_room (Nat.le_of_ble_eq_true rfl)) dX8_startMove_17 ⟨Nat.le_of_ble_eq_true rfl, Nat.le_of_ble_eq_true rfl⟩) hS (fun q _ h => h) (fun q h => h) (fun H locs hM hk hS => ?_)
  clear hk
  have hM : MdC D (cs 0) a (startK z mv 0) H := (by rw [← startK_0]; exact hM)
  refine lv_iconst (v := nI 0) hx hb dX8_startMove_20 (by decide) ?_
  refine lv_istore_n (lv' := [(2, .int (nI (0))), (0, .ref (a)), (1, .int (nI (mv)))]) hx hb dX8_startMove_21 rfl hl (by decide) rfl (fun ls hl => ?_)
  have J22 : ∀ (n22 : Nat) (k : Nat) (H : Heap) (locs : List Loc) (ls : Array Slot), (mC z mv - k) < n22 → (k ≤ mC z mv) → (MdC D (cs 0) a (startK z mv k) H) → va_S ((rgM a)) s.heap H locs → lv_has ls 3 [(0, .ref (a)), (1, .int (nI (mv))), (2, .int (nI (k)))] → W p l e ({ frames := 2, cells := 0, slots := 0, locals := 45 } : Room) s m args below meth c H locs 0 0 (MQ below (QcM none (fun H => MdC D (cs 0) a (startF z mv) H) (rgM a)) args s 0 0 ((rgM a))) (F0 m 22 ls []) := by
    intro n22; induction n22 with
    | zero => intro k H locs ls hmu22 hk hM hS hl; exact absurd hmu22 (Nat.not_lt_zero _)
    | succ n22 ih22 =>
      intro k H locs ls hmu22 hk hM hS hl
      have hIy := startK_inv hI mv k
      have hMy := (startK_stay z (m := mv) k).M
      have hsy := (startK_stay z (m := mv) k).src hI hm k
      have hs48 := hI.src48 hm k
      refine lv_iload_n hx hb dX8_startMove_22 rfl (lv_at hl 2 rfl) ?_
      refine lv_aload_n hx hb dX8_startMove_23 rfl (lv_at hl 0 rfl) ?_
      refine lv_iload_n hx hb dX8_startMove_24 rfl (lv_at hl 1 rfl) ?_
      refine lv_iconst (v := nI 4) hx hb dX8_startMove_25 (by decide) ?_
      refine kx_retP (va_runV (As := [.int (nI (mv)), .int (nI (4))]) (rest := [.int (nI (k))]) ⟨hx, hb, hml, hown, hts⟩ (k_X8_movePart l D cs a (startK z mv k) mv 4 (by first | assumption | omega) (by first | assumption | omega)) (cwV 2 hts gX8_startMove_X8_movePart rfl rfl rfl (by decide +kernel) ⟨Nat.le_of_ble_eq_true rfl, Nat.le_of_ble_eq_true rfl⟩) (kx_preV hK hN hM.1 rfl hM) rfl rfl hl.1 rfl (lv_room (Nat.le_of_ble_eq_true rfl)) dX8_startMove_26 ⟨Nat.le_of_ble_eq_true rfl, Nat.le_of_ble_eq_true rfl⟩) ?_
      refine kx_ci (y := nI (mC z mv)) ((startK_lo z (by omega) (by omega) (by omega)).trans (hI.m4 hm)) ?_
      refine kn_icmp_ge (tgt := 67) hx hb dX8_startMove_29 (by decide) (by omega) (by omega) (fun c_1 => ?_) (fun c_1 => ?_)
      · exact kx_vretM hx hb hrt hlk (by rw [show k = mC z mv by omega] at hM; exact hM) hS dX8_startMove_67
      · refine lv_aload_n hx hb dX8_startMove_32 rfl (lv_at hl 0 rfl) ?_
        refine kx_get (v := .ref (a + 1)) hx hb hts hinX8 hown hK hM.1 rfl 1 (by decide) (by decide +kernel) rfl dX8_startMove_33 ?_
        refine lv_sipush (v := nI 320) hx hb dX8_startMove_36 (by decide) ?_
        refine lv_bipush (v := nI 16) hx hb dX8_startMove_39 (by decide) ?_
        refine lv_iload_n hx hb dX8_startMove_41 rfl (lv_at hl 1 rfl) ?_
        refine kn_mul hx hb dX8_startMove_42 ?_
        refine kn_add hx hb dX8_startMove_43 ?_
        refine lv_iload_n hx hb dX8_startMove_44 rfl (lv_at hl 2 rfl) ?_
        refine kn_add hx hb dX8_startMove_45 ?_
        refine lv_aload_n hx hb dX8_startMove_46 rfl (lv_at hl 0 rfl) ?_
        refine kx_get (v := .ref (a + 1)) hx hb hts hinX8 hown hK hM.1 rfl 1 (by decide) (by decide +kernel) rfl dX8_startMove_47 ?_
        refine lv_bipush (v := nI 8) hx hb dX8_startMove_50 (by decide) ?_
        refine lv_aload_n hx hb dX8_startMove_52 rfl (lv_at hl 0 rfl) ?_
        refine lv_iload_n hx hb dX8_startMove_53 rfl (lv_at hl 1 rfl) ?_
        refine lv_iload_n hx hb dX8_startMove_54 rfl (lv_at hl 2 rfl) ?_
        refine kx_retP (va_runV (As := [.int (nI (mv)), .int (nI (k))]) (rest := [.int (nI (8)), .ref (a + 1), .int (nI (320 + (16 * mv) + k)), .ref (a + 1)]) ⟨hx, hb, hml, hown, hts⟩ (k_X8_sourceCell l D cs a (startK z mv k) mv k hIy (by first | assumption | omega) (by first | assumption | omega)) (cwV 2 hts gX8_startMove_X8_sourceCell rfl rfl rfl (by decide +kernel) ⟨Nat.le_of_ble_eq_true rfl, Nat.le_of_ble_eq_true rfl⟩) (kx_preV hK hN hM.1 rfl hM) rfl rfl hl.1 rfl (lv_room (Nat.le_of_ble_eq_true rfl)) dX8_startMove_55 ⟨Nat.le_of_ble_eq_true rfl, Nat.le_of_ble_eq_true rfl⟩) ?_
        refine kx_ci (y := nI (srcC z mv k)) (congrArg nI hsy) ?_
        refine kn_add hx hb dX8_startMove_58 ?_
        refine kx_iald (i := 8 + (srcC z mv k)) hx hb hK hM.state 0 rfl (by omega) (by decide) dX8_startMove_59 ?_
        refine kx_ci (y := z (8 + srcC z mv k)) (startK_lo z (by omega) (by omega) (by omega)) ?_
        refine kx_iast (i := 320 + (16 * mv) + k) hx hb hK hM.state hS ⟨by omega, by omega⟩ 0 rfl (by omega) (by decide) dX8_startMove_60 (fun H locs hc hU hS => ?_)
        have hM := hM.put_state (by omega) hc hU
        clear hc hU
        have hM : MdC D (cs 0) a (startK z mv (k + 1)) H := (by rw [← startK_s z (by omega)]; exact hM)
        refine lv_iinc (v := nI (k + 1)) (lv' := [(2, .int (nI (k + 1))), (0, .ref (a)), (1, .int (nI (mv)))]) (k := 2) hx hb dX8_startMove_61 hl rfl (nI_add _ _) (by decide) rfl (fun ls hl => ?_)
        refine lv_goto (tgt := 22) hx hb dX8_startMove_64 (by decide) ?_
        exact ih22 (k + 1) _ _ _ (by omega) (by omega) hM hS (lv_sub hl [1, 2, 0] rfl)
  exact J22 _ 0 _ _ _ (Nat.lt_succ_self _) (by omega) hM hS (lv_sub hl [1, 2, 0] rfl)
set_option maxHeartbeats 1500000 in
set_option maxRecDepth 100000 in
theorem k_X8_writesOn (l : Launch) (D : va_G) (cs : Nat → ClassId) (a : Nat) (z : Nat → Int32) (mv w : Nat) (hI : Inv z) (hm : mv < Mn z) (hw : w ≤ 16) : Met l yX8_writesOn wsX8_writesOn ({ frames := 2, cells := 0, slots := 0, locals := 45 } : Room) (PcK D cs [.ref (a), .int (nI (mv)), .int (nI (w))] (fun H => MdC D (cs 0) a z H)) (QcM (some (.int (bI (decide (mt z mv w = mC z mv))))) (fun H => MdC D (cs 0) a (writesF z mv w) H) (rgM a)) 0 0 ((rgM a)) := by
  refine kx_met (cc := cX8_writesOn) (maxL := 6) (ret := (some .boolean)) (by decide) rfl (Nat.le_of_ble_eq_true rfl) ?_
  intro p e s m args below meth c hx hb hml hrt hts hown hlk hK hN hP ls hl
  have hl : lv_has ls 6 [(0, .ref (a)), (1, .int (nI (mv))), (2, .int (nI (w)))] := hl
  obtain ⟨H, hHe⟩ : ∃ H : Heap, H = s.heap := ⟨_, rfl⟩
  rw [← hHe] at hP ⊢
  have hS : va_S ((rgM a)) s.heap H [] := by rw [← hHe]; exact va_S.rf
  have hinX8 : ∀ w ∈ wsX80, w ∈ wsX8_writesOn := by decide +kernel
  have hM := hP
  have h24 := hI.M24
  have h6 := hI.R6
  have hc16 := hI.c16 hm
  have hwc := hI.wc hm
  have hmt := mt_le hI hm w
  refine lv_aload_n hx hb dX8_writesOn_0 rfl (lv_at hl 0 rfl) ?_
  refine lv_iload_n hx hb dX8_writesOn_1 rfl (lv_at hl 1 rfl) ?_
  refine lv_bipush (v := nI 6) hx hb dX8_writesOn_2 (by decide) ?_
  refine kx_retP (va_runV (As := [.int (nI (mv)), .int (nI (6))]) (rest := []) ⟨hx, hb, hml, hown, hts⟩ (k_X8_movePart l D cs a z mv 6 (by first | assumption | omega) (by first | assumption | omega)) (cwV 2 hts gX8_writesOn_X8_movePart rfl rfl rfl (by decide +kernel) ⟨Nat.le_of_ble_eq_true rfl, Nat.le_of_ble_eq_true rfl⟩) (kx_preV hK hN hM.1 rfl hM) rfl rfl hl.1 rfl (lv_room (Nat.le_of_ble_eq_true rfl)) dX8_writesOn_4 ⟨Nat.le_of_ble_eq_true rfl, Nat.le_of_ble_eq_true rfl⟩) ?_
  refine kx_ci (y := nI (mW z mv)) (Inv.m6 hI (by first | assumption | omega)) ?_
  refine lv_istore_n (lv' := [(3, .int (nI (mW z mv))), (0, .ref (a)), (1, .int (nI (mv))), (2, .int (nI (w)))]) hx hb dX8_writesOn_7 rfl hl (by decide) rfl (fun ls hl => ?_)
  refine lv_iload_n hx hb dX8_writesOn_8 rfl (lv_at hl 0 rfl) ?_
  refine lv_iload_n hx hb dX8_writesOn_9 rfl (lv_at hl 3 rfl) ?_
  refine kn_add hx hb dX8_writesOn_10 ?_
  refine lv_aload_n hx hb dX8_writesOn_11 rfl (lv_at hl 1 rfl) ?_
  refine lv_iload_n hx hb dX8_writesOn_12 rfl (lv_at hl 2 rfl) ?_
  refine lv_iconst (v := nI 4) hx hb dX8_writesOn_13 (by decide) ?_
  refine kx_retP (va_runV (As := [.int (nI (mv)), .int (nI (4))]) (rest := [.int (nI (mW z mv + w))]) ⟨hx, hb, hml, hown, hts⟩ (k_X8_movePart l D cs a z mv 4 (by first | assumption | omega) (by first | assumption | omega)) (cwV 2 hts gX8_writesOn_X8_movePart rfl rfl rfl (by decide +kernel) ⟨Nat.le_of_ble_eq_true rfl, Nat.le_of_ble_eq_true rfl⟩) (kx_preV hK hN hM.1 rfl hM) rfl rfl hl.1 rfl (lv_room (Nat.le_of_ble_eq_true rfl)) dX8_writesOn_14 ⟨Nat.le_of_ble_eq_true rfl, Nat.le_of_ble_eq_true rfl⟩) ?_
  refine kx_ci (y := nI (mC z mv)) (Inv.m4 hI (by first | assumption | omega)) ?_
  refine kn_icmp_ge (tgt := 26) hx hb dX8_writesOn_17 (by decide) (by omega) (by omega) (fun c_1 => ?_) (fun c_1 => ?_)
  · refine lv_aload_n hx hb dX8_writesOn_26 rfl (lv_at hl 1 rfl) ?_
    refine lv_iload_n hx hb dX8_writesOn_27 rfl (lv_at hl 2 rfl) ?_
    refine lv_iconst (v := nI 4) hx hb dX8_writesOn_28 (by decide) ?_
    refine kx_retP (va_runV (As := [.int (nI (mv)), .int (nI (4))]) (rest := []) ⟨hx, hb, hml, hown, hts⟩ (k_X8_movePart l D cs a z mv 4 (by first | assumption | omega) (by first | assumption | omega)) (cwV 2 hts gX8_writesOn_X8_movePart rfl rfl rfl (by decide +kernel) ⟨Nat.le_of_ble_eq_true rfl, Nat.le_of_ble_eq_true rfl⟩) (kx_preV hK hN hM.1 rfl hM) rfl rfl hl.1 rfl (lv_room (Nat.le_of_ble_eq_true rfl)) dX8_writesOn_29 ⟨Nat.le_of_ble_eq_true rfl, Nat.le_of_ble_eq_true rfl⟩) ?_
    refine kx_ci (y := nI (mC z mv)) (Inv.m4 hI (by first | assumption | omega)) ?_
    refine kx_ci (x := nI (mC z mv)) (y := nI (mt z mv w)) (congrArg nI (by unfold mt; split <;> omega)) ?_
    refine lv_istore (lv' := [(4, .int (nI (mt z mv w))), (3, .int (nI (mW z mv))), (0, .ref (a)), (1, .int (nI (mv))), (2, .int (nI (w)))]) hx hb dX8_writesOn_32 hl (by decide) rfl (fun ls hl => ?_)
    refine lv_iload_n hx hb dX8_writesOn_34 rfl (lv_at hl 1 rfl) ?_
    refine lv_istore (lv' := [(5, .int (nI (mW z mv))), (4, .int (nI (mt z mv w))), (3, .int (nI (mW z mv))), (0, .ref (a)), (1, .int (nI (mv))), (2, .int (nI (w)))]) hx hb dX8_writesOn_35 hl (by decide) rfl (fun ls hl => ?_)
    have J37 : ∀ (n37 : Nat) (k : Nat) (H : Heap) (locs : List Loc) (ls : Array Slot), (mt z mv w - (mW z mv + k)) < n37 → (mW z mv + k ≤ mt z mv w) → (MdC D (cs 0) a (wrK z mv (mW z mv) k) H) → va_S ((rgM a)) s.heap H locs → lv_has ls 6 [(0, .ref (a)), (1, .int (nI (mv))), (4, .int (nI (mt z mv w))), (5, .int (nI (mW z mv + k)))] → W p l e ({ frames := 2, cells := 0, slots := 0, locals := 45 } : Room) s m args below meth c H locs 0 0 (MQ below (QcM (some (.int (bI (decide (mt z mv w = mC z mv))))) (fun H => MdC D (cs 0) a (writesF z mv w) H) (rgM a)) args s 0 0 ((rgM a))) (F0 m 37 ls []) := by
      intro n37; induction n37 with
      | zero => intro k H locs ls hmu37 hk hM hS hl; exact absurd hmu37 (Nat.not_lt_zero _)
      | succ n37 ih37 =>
        intro k H locs ls hmu37 hk hM hS hl
        have hIy := wrK_inv hI hm (mW z mv) k
        have hMy := (wrK_stay hI hm (mW z mv) k).M
        have hty := (wrK_stay hI hm (mW z mv) k).tgt hI hm (mW z mv + k)
        have ht48 := hI.tgt48 hm (mW z mv + k)
        refine lv_iload hx hb dX8_writesOn_37 (lv_at hl 3 rfl) ?_
        refine lv_iload hx hb dX8_writesOn_39 (lv_at hl 2 rfl) ?_
        refine kn_icmp_ge (tgt := 81) hx hb dX8_writesOn_41 (by decide) (by omega) (by omega) (fun c_2 => ?_) (fun c_2 => ?_)
        · refine lv_aload_n hx hb dX8_writesOn_81 rfl (lv_at hl 0 rfl) ?_
          refine lv_iload_n hx hb dX8_writesOn_82 rfl (lv_at hl 1 rfl) ?_
          refine lv_bipush (v := nI 6) hx hb dX8_writesOn_83 (by decide) ?_
          refine lv_iload hx hb dX8_writesOn_85 (lv_at hl 2 rfl) ?_
          refine kx_retM (va_runV (As := [.int (nI (mv)), .int (nI (6)), .int (nI (mt z mv w))]) (rest := []) ⟨hx, hb, hml, hown, hts⟩ (k_X8_setMovePart l D cs a (wrK z mv (mW z mv) k) mv 6 (nI (mt z mv w)) (by first | assumption | omega) (by first | assumption | omega)) (cwV 3 hts gX8_writesOn_X8_setMovePart rfl rfl rfl (by decide +kernel) ⟨Nat.le_of_ble_eq_true rfl, Nat.le_of_ble_eq_true rfl⟩) (kx_preV hK hN hM.1 rfl hM) rfl rfl hl.1 rfl (lv_room (Nat.le_of_ble_eq_true rfl)) dX8_writesOn_87 ⟨Nat.le_of_ble_eq_true rfl, Nat.le_of_ble_eq_true rfl⟩) hS (fun q _ h => h) (fun q h => h) (fun H locs hM hk hS => ?_)
          clear hk
          have hM : MdC D (cs 0) a (writesF z mv w) H := (by rw [show k = mt z mv w - mW z mv by omega] at hM; exact hM)
          refine lv_iload hx hb dX8_writesOn_90 (lv_at hl 2 rfl) ?_
          refine lv_aload_n hx hb dX8_writesOn_92 rfl (lv_at hl 0 rfl) ?_
          refine lv_iload_n hx hb dX8_writesOn_93 rfl (lv_at hl 1 rfl) ?_
          refine lv_iconst (v := nI 4) hx hb dX8_writesOn_94 (by decide) ?_
          refine kx_retP (va_runV (As := [.int (nI (mv)), .int (nI (4))]) (rest := [.int (nI (mt z mv w))]) ⟨hx, hb, hml, hown, hts⟩ (k_X8_movePart l D cs a (writesF z mv w) mv 4 (by first | assumption | omega) (by first | assumption | omega)) (cwV 2 hts gX8_writesOn_X8_movePart rfl rfl rfl (by decide +kernel) ⟨Nat.le_of_ble_eq_true rfl, Nat.le_of_ble_eq_true rfl⟩) (kx_preV hK hN hM.1 rfl hM) rfl rfl hl.1 rfl (lv_room (Nat.le_of_ble_eq_true rfl)) dX8_writesOn_95 ⟨Nat.le_of_ble_eq_true rfl, Nat.le_of_ble_eq_true rfl⟩) ?_
          refine kx_ci (y := nI (mC z mv)) ((writesF_out hI hm w (by omega) (by omega)).trans (hI.m4 hm)) ?_
          refine kn_icmp_ne (tgt := 105) hx hb dX8_writesOn_98 (by decide) (by omega) (by omega) (fun c_3 => ?_) (fun c_3 => ?_)
          · refine lv_iconst (v := nI 0) hx hb dX8_writesOn_105 (by decide) ?_
            exact kx_zretM hx hb hrt hlk (by simp [bI_t, bI_f, *]) hM hS dX8_writesOn_106
          · refine lv_iconst (v := nI 1) hx hb dX8_writesOn_101 (by decide) ?_
            refine lv_goto (tgt := 106) hx hb dX8_writesOn_102 (by decide) ?_
            exact kx_zretM hx hb hrt hlk (by simp [bI_t, bI_f, *]) hM hS dX8_writesOn_106
        · refine lv_aload_n hx hb dX8_writesOn_44 rfl (lv_at hl 0 rfl) ?_
          refine kx_get (v := .ref (a + 1)) hx hb hts hinX8 hown hK hM.1 rfl 1 (by decide) (by decide +kernel) rfl dX8_writesOn_45 ?_
          refine lv_bipush (v := nI 8) hx hb dX8_writesOn_48 (by decide) ?_
          refine lv_aload_n hx hb dX8_writesOn_50 rfl (lv_at hl 0 rfl) ?_
          refine lv_iload_n hx hb dX8_writesOn_51 rfl (lv_at hl 1 rfl) ?_
          refine lv_iload hx hb dX8_writesOn_52 (lv_at hl 3 rfl) ?_
          refine kx_retP (va_runV (As := [.int (nI (mv)), .int (nI (mW z mv + k))]) (rest := [.int (nI (8)), .ref (a + 1)]) ⟨hx, hb, hml, hown, hts⟩ (k_X8_targetCell l D cs a (wrK z mv (mW z mv) k) mv (mW z mv + k) hIy (by first | assumption | omega) (by first | assumption | omega)) (cwV 2 hts gX8_writesOn_X8_targetCell rfl rfl rfl (by decide +kernel) ⟨Nat.le_of_ble_eq_true rfl, Nat.le_of_ble_eq_true rfl⟩) (kx_preV hK hN hM.1 rfl hM) rfl rfl hl.1 rfl (lv_room (Nat.le_of_ble_eq_true rfl)) dX8_writesOn_54 ⟨Nat.le_of_ble_eq_true rfl, Nat.le_of_ble_eq_true rfl⟩) ?_
          refine kx_ci (y := nI (tgtC z mv (mW z mv + k))) (congrArg nI hty) ?_
          refine kn_add hx hb dX8_writesOn_57 ?_
          refine lv_aload_n hx hb dX8_writesOn_58 rfl (lv_at hl 0 rfl) ?_
          refine kx_get (v := .ref (a + 1)) hx hb hts hinX8 hown hK hM.1 rfl 1 (by decide) (by decide +kernel) rfl dX8_writesOn_59 ?_
          refine lv_sipush (v := nI 320) hx hb dX8_writesOn_62 (by decide) ?_
          refine lv_bipush (v := nI 16) hx hb dX8_writesOn_65 (by decide) ?_
          refine lv_iload_n hx hb dX8_writesOn_67 rfl (lv_at hl 1 rfl) ?_
          refine kn_mul hx hb dX8_writesOn_68 ?_
          refine kn_add hx hb dX8_writesOn_69 ?_
          refine lv_iload hx hb dX8_writesOn_70 (lv_at hl 3 rfl) ?_
          refine kn_add hx hb dX8_writesOn_72 ?_
          refine kx_iald (i := 320 + (16 * mv) + (mW z mv + k)) hx hb hK hM.state 0 rfl (by omega) (by decide) dX8_writesOn_73 ?_
          refine kx_ci (y := z (320 + 16 * mv + (mW z mv + k))) (wrK_out hI hm _ (by omega) k) ?_
          refine kx_iast (i := 8 + (tgtC z mv (mW z mv + k))) hx hb hK hM.state hS ⟨by omega, by omega⟩ 0 rfl (by omega) (by decide) dX8_writesOn_74 (fun H locs hc hU hS => ?_)
          have hM := hM.put_state (by omega) hc hU
          clear hc hU
          have hM : MdC D (cs 0) a (wrK z mv (mW z mv) (k + 1)) H := hM
          refine lv_iinc (v := nI (mW z mv + k + 1)) (lv' := [(5, .int (nI (mW z mv + k + 1))), (0, .ref (a)), (1, .int (nI (mv))), (4, .int (nI (mt z mv w)))]) (k := 3) hx hb dX8_writesOn_75 hl rfl (nI_add _ _) (by decide) rfl (fun ls hl => ?_)
          refine lv_goto (tgt := 37) hx hb dX8_writesOn_78 (by decide) ?_
          exact ih37 (k + 1) _ _ _ (by omega) (by omega) hM hS (lv_sub hl [1, 2, 3, 0] rfl)
    exact J37 _ 0 _ _ _ (Nat.lt_succ_self _) (by omega) hM hS (lv_sub hl [3, 4, 1, 0] rfl)
  · refine lv_iload_n hx hb dX8_writesOn_20 rfl (lv_at hl 0 rfl) ?_
    refine lv_iload_n hx hb dX8_writesOn_21 rfl (lv_at hl 3 rfl) ?_
    refine kn_add hx hb dX8_writesOn_22 ?_
    refine lv_goto (tgt := 32) hx hb dX8_writesOn_23 (by decide) ?_
    refine kx_ci (x := nI (mW z mv + w)) (y := nI (mt z mv w)) (congrArg nI (by unfold mt; split <;> omega)) ?_
    refine lv_istore (lv' := [(4, .int (nI (mt z mv w))), (3, .int (nI (mW z mv))), (0, .ref (a)), (1, .int (nI (mv))), (2, .int (nI (w)))]) hx hb dX8_writesOn_32 hl (by decide) rfl (fun ls hl => ?_)
    refine lv_iload_n hx hb dX8_writesOn_34 rfl (lv_at hl 1 rfl) ?_
    refine lv_istore (lv' := [(5, .int (nI (mW z mv))), (4, .int (nI (mt z mv w))), (3, .int (nI (mW z mv))), (0, .ref (a)), (1, .int (nI (mv))), (2, .int (nI (w)))]) hx hb dX8_writesOn_35 hl (by decide) rfl (fun ls hl => ?_)
    have J37 : ∀ (n37 : Nat) (k : Nat) (H : Heap) (locs : List Loc) (ls : Array Slot), (mt z mv w - (mW z mv + k)) < n37 → (mW z mv + k ≤ mt z mv w) → (MdC D (cs 0) a (wrK z mv (mW z mv) k) H) → va_S ((rgM a)) s.heap H locs → lv_has ls 6 [(0, .ref (a)), (1, .int (nI (mv))), (4, .int (nI (mt z mv w))), (5, .int (nI (mW z mv + k)))] → W p l e ({ frames := 2, cells := 0, slots := 0, locals := 45 } : Room) s m args below meth c H locs 0 0 (MQ below (QcM (some (.int (bI (decide (mt z mv w = mC z mv))))) (fun H => MdC D (cs 0) a (writesF z mv w) H) (rgM a)) args s 0 0 ((rgM a))) (F0 m 37 ls []) := by
      intro n37; induction n37 with
      | zero => intro k H locs ls hmu37 hk hM hS hl; exact absurd hmu37 (Nat.not_lt_zero _)
      | succ n37 ih37 =>
        intro k H locs ls hmu37 hk hM hS hl
        have hIy := wrK_inv hI hm (mW z mv) k
        have hMy := (wrK_stay hI hm (mW z mv) k).M
        have hty := (wrK_stay hI hm (mW z mv) k).tgt hI hm (mW z mv + k)
        have ht48 := hI.tgt48 hm (mW z mv + k)
        refine lv_iload hx hb dX8_writesOn_37 (lv_at hl 3 rfl) ?_
        refine lv_iload hx hb dX8_writesOn_39 (lv_at hl 2 rfl) ?_
        refine kn_icmp_ge (tgt := 81) hx hb dX8_writesOn_41 (by decide) (by omega) (by omega) (fun c_4 => ?_) (fun c_4 => ?_)
        · refine lv_aload_n hx hb dX8_writesOn_81 rfl (lv_at hl 0 rfl) ?_
          refine lv_iload_n hx hb dX8_writesOn_82 rfl (lv_at hl 1 rfl) ?_
          refine lv_bipush (v := nI 6) hx hb dX8_writesOn_83 (by decide) ?_
          refine lv_iload hx hb dX8_writesOn_85 (lv_at hl 2 rfl) ?_
          refine kx_retM (va_runV (As := [.int (nI (mv)), .int (nI (6)), .int (nI (mt z mv w))]) (rest := []) ⟨hx, hb, hml, hown, hts⟩ (k_X8_setMovePart l D cs a (wrK z mv (mW z mv) k) mv 6 (nI (mt z mv w)) (by first | assumption | omega) (by first | assumption | omega)) (cwV 3 hts gX8_writesOn_X8_setMovePart rfl rfl rfl (by decide +kernel) ⟨Nat.le_of_ble_eq_true rfl, Nat.le_of_ble_eq_true rfl⟩) (kx_preV hK hN hM.1 rfl hM) rfl rfl hl.1 rfl (lv_room (Nat.le_of_ble_eq_true rfl)) dX8_writesOn_87 ⟨Nat.le_of_ble_eq_true rfl, Nat.le_of_ble_eq_true rfl⟩) hS (fun q _ h => h) (fun q h => h) (fun H locs hM hk hS => ?_)
          clear hk
          have hM : MdC D (cs 0) a (writesF z mv w) H := (by rw [show k = mt z mv w - mW z mv by omega] at hM; exact hM)
          refine lv_iload hx hb dX8_writesOn_90 (lv_at hl 2 rfl) ?_
          refine lv_aload_n hx hb dX8_writesOn_92 rfl (lv_at hl 0 rfl) ?_
          refine lv_iload_n hx hb dX8_writesOn_93 rfl (lv_at hl 1 rfl) ?_
          refine lv_iconst (v := nI 4) hx hb dX8_writesOn_94 (by decide) ?_
          refine kx_retP (va_runV (As := [.int (nI (mv)), .int (nI (4))]) (rest := [.int (nI (mt z mv w))]) ⟨hx, hb, hml, hown, hts⟩ (k_X8_movePart l D cs a (writesF z mv w) mv 4 (by first | assumption | omega) (by first | assumption | omega)) (cwV 2 hts gX8_writesOn_X8_movePart rfl rfl rfl (by decide +kernel) ⟨Nat.le_of_ble_eq_true rfl, Nat.le_of_ble_eq_true rfl⟩) (kx_preV hK hN hM.1 rfl hM) rfl rfl hl.1 rfl (lv_room (Nat.le_of_ble_eq_true rfl)) dX8_writesOn_95 ⟨Nat.le_of_ble_eq_true rfl, Nat.le_of_ble_eq_true rfl⟩) ?_
          refine kx_ci (y := nI (mC z mv)) ((writesF_out hI hm w (by omega) (by omega)).trans (hI.m4 hm)) ?_
          refine kn_icmp_ne (tgt := 105) hx hb dX8_writesOn_98 (by decide) (by omega) (by omega) (fun c_5 => ?_) (fun c_5 => ?_)
          · refine lv_iconst (v := nI 0) hx hb dX8_writesOn_105 (by decide) ?_
            exact kx_zretM hx hb hrt hlk (by simp [bI_t, bI_f, *]) hM hS dX8_writesOn_106
          · refine lv_iconst (v := nI 1) hx hb dX8_writesOn_101 (by decide) ?_
            refine lv_goto (tgt := 106) hx hb dX8_writesOn_102 (by decide) ?_
            exact kx_zretM hx hb hrt hlk (by simp [bI_t, bI_f, *]) hM hS dX8_writesOn_106
        · refine lv_aload_n hx hb dX8_writesOn_44 rfl (lv_at hl 0 rfl) ?_
          refine kx_get (v := .ref (a + 1)) hx hb hts hinX8 hown hK hM.1 rfl 1 (by decide) (by decide +kernel) rfl dX8_writesOn_45 ?_
          refine lv_bipush (v := nI 8) hx hb dX8_writesOn_48 (by decide) ?_
          refine lv_aload_n hx hb dX8_writesOn_50 rfl (lv_at hl 0 rfl) ?_
          refine lv_iload_n hx hb dX8_writesOn_51 rfl (lv_at hl 1 rfl) ?_
          refine lv_iload hx hb dX8_writesOn_52 (lv_at hl 3 rfl) ?_
          refine kx_retP (va_runV (As := [.int (nI (mv)), .int (nI (mW z mv + k))]) (rest := [.int (nI (8)), .ref (a + 1)]) ⟨hx, hb, hml, hown, hts⟩ (k_X8_targetCell l D cs a (wrK z mv (mW z mv) k) mv (mW z mv + k) hIy (by first | assumption | omega) (by first | assumption | omega)) (cwV 2 hts gX8_writesOn_X8_targetCell rfl rfl rfl (by decide +kernel) ⟨Nat.le_of_ble_eq_true rfl, Nat.le_of_ble_eq_true rfl⟩) (kx_preV hK hN hM.1 rfl hM) rfl rfl hl.1 rfl (lv_room (Nat.le_of_ble_eq_true rfl)) dX8_writesOn_54 ⟨Nat.le_of_ble_eq_true rfl, Nat.le_of_ble_eq_true rfl⟩) ?_
          refine kx_ci (y := nI (tgtC z mv (mW z mv + k))) (congrArg nI hty) ?_
          refine kn_add hx hb dX8_writesOn_57 ?_
          refine lv_aload_n hx hb dX8_writesOn_58 rfl (lv_at hl 0 rfl) ?_
          refine kx_get (v := .ref (a + 1)) hx hb hts hinX8 hown hK hM.1 rfl 1 (by decide) (by decide +kernel) rfl dX8_writesOn_59 ?_
          refine lv_sipush (v := nI 320) hx hb dX8_writesOn_62 (by decide) ?_
          refine lv_bipush (v := nI 16) hx hb dX8_writesOn_65 (by decide) ?_
          refine lv_iload_n hx hb dX8_writesOn_67 rfl (lv_at hl 1 rfl) ?_
          refine kn_mul hx hb dX8_writesOn_68 ?_
          refine kn_add hx hb dX8_writesOn_69 ?_
          refine lv_iload hx hb dX8_writesOn_70 (lv_at hl 3 rfl) ?_
          refine kn_add hx hb dX8_writesOn_72 ?_
          refine kx_iald (i := 320 + (16 * mv) + (mW z mv + k)) hx hb hK hM.state 0 rfl (by omega) (by decide) dX8_writesOn_73 ?_
          refine kx_ci (y := z (320 + 16 * mv + (mW z mv + k))) (wrK_out hI hm _ (by omega) k) ?_
          refine kx_iast (i := 8 + (tgtC z mv (mW z mv + k))) hx hb hK hM.state hS ⟨by omega, by omega⟩ 0 rfl (by omega) (by decide) dX8_writesOn_74 (fun H locs hc hU hS => ?_)
          have hM := hM.put_state (by omega) hc hU
          clear hc hU
          have hM : MdC D (cs 0) a (wrK z mv (mW z mv) (k + 1)) H := hM
          refine lv_iinc (v := nI (mW z mv + k + 1)) (lv' := [(5, .int (nI (mW z mv + k + 1))), (0, .ref (a)), (1, .int (nI (mv))), (4, .int (nI (mt z mv w)))]) (k := 3) hx hb dX8_writesOn_75 hl rfl (nI_add _ _) (by decide) rfl (fun ls hl => ?_)
          refine lv_goto (tgt := 37) hx hb dX8_writesOn_78 (by decide) ?_
          exact ih37 (k + 1) _ _ _ (by omega) (by omega) hM hS (lv_sub hl [1, 2, 3, 0] rfl)
    exact J37 _ 0 _ _ _ (Nat.lt_succ_self _) (by omega) hM hS (lv_sub hl [3, 4, 1, 0] rfl)
set_option maxHeartbeats 1500000 in
set_option maxRecDepth 100000 in
theorem k_X8_signsByThemselves (l : Launch) (D : va_G) (cs : Nat → ClassId) (a : Nat) (z : Nat → Int32) (hI : Inv z) : Met l yX8_signsByThemselves wsX8_signsByThemselves ({ frames := 2, cells := 0, slots := 0, locals := 44 } : Room) (PcK D cs [.ref (a)] (fun H => MdC D (cs 0) a z H)) (QcM none (fun H => MdC D (cs 0) a (sgF z) H) (rgM a)) 0 0 ((rgM a)) := by
  refine kx_met (cc := cX8_signsByThemselves) (maxL := 5) (ret := none) (by decide) rfl (Nat.le_of_ble_eq_true rfl) ?_
  intro p e s m args below meth c hx hb hml hrt hts hown hlk hK hN hP ls hl
  have hl : lv_has ls 5 [(0, .ref (a))] := hl
  obtain ⟨H, hHe⟩ : ∃ H : Heap, H = s.heap := ⟨_, rfl⟩
  rw [← hHe] at hP ⊢
  have hS : va_S ((rgM a)) s.heap H [] := by rw [← hHe]; exact va_S.rf
  have hinX8 : ∀ w ∈ wsX80, w ∈ wsX8_signsByThemselves := by decide +kernel
  have hM := hP
  have h24 := hI.M24
  have h6 := hI.R6
  refine lv_iconst (v := nI 0) hx hb dX8_signsByThemselves_0 (by decide) ?_
  refine lv_istore_n (lv' := [(1, .int (nI (0))), (0, .ref (a))]) hx hb dX8_signsByThemselves_1 rfl hl (by decide) rfl (fun ls hl => ?_)
  have J2 : ∀ (n2 : Nat) (k : Nat) (H : Heap) (locs : List Loc) (ls : Array Slot), (Rn z - k) < n2 → (k ≤ Rn z) → (MdC D (cs 0) a (sgK z k) H) → va_S ((rgM a)) s.heap H locs → lv_has ls 5 [(0, .ref (a)), (1, .int (nI (k)))] → W p l e ({ frames := 2, cells := 0, slots := 0, locals := 44 } : Room) s m args below meth c H locs 0 0 (MQ below (QcM none (fun H => MdC D (cs 0) a (sgF z) H) (rgM a)) args s 0 0 ((rgM a))) (F0 m 2 ls []) := by
    intro n2; induction n2 with
    | zero => intro k H locs ls hmu2 hk hM hS hl; exact absurd hmu2 (Nat.not_lt_zero _)
    | succ n2 ih2 =>
      intro k H locs ls hmu2 hk hM hS hl
      obtain ⟨y, hyd⟩ : ∃ y, sgK z k = y := ⟨_, rfl⟩
      have hy : SI z y := hyd ▸ sgK_si hI k
      rw [hyd] at hM
      have hRy := hy.1.R
      have hMy := hy.1.M
      refine lv_iload_n hx hb dX8_signsByThemselves_2 rfl (lv_at hl 1 rfl) ?_
      refine lv_aload_n hx hb dX8_signsByThemselves_3 rfl (lv_at hl 0 rfl) ?_
      refine kx_get (v := .ref (a + 1)) hx hb hts hinX8 hown hK hM.1 rfl 1 (by decide) (by decide +kernel) rfl dX8_signsByThemselves_4 ?_
      refine lv_iconst (v := nI 3) hx hb dX8_signsByThemselves_7 (by decide) ?_
      refine kx_iald (i := 3) hx hb hK hM.state 0 rfl (by decide) (by decide) dX8_signsByThemselves_8 ?_
      refine kx_ci (y := nI (Rn y)) (hy.2).z3 ?_
      refine kn_icmp_ge (tgt := 124) hx hb dX8_signsByThemselves_9 (by decide) (by omega) (by omega) (fun c_1 => ?_) (fun c_1 => ?_)
      · exact kx_vretM hx hb hrt hlk (by rw [← hyd, show k = Rn z by omega] at hM; exact hM) hS dX8_signsByThemselves_124
      · refine lv_aload_n hx hb dX8_signsByThemselves_12 rfl (lv_at hl 0 rfl) ?_
        refine lv_iload_n hx hb dX8_signsByThemselves_13 rfl (lv_at hl 1 rfl) ?_
        refine lv_iconst (v := nI 3) hx hb dX8_signsByThemselves_14 (by decide) ?_
        refine kx_retP (va_runV (As := [.int (nI (k)), .int (nI (3))]) (rest := []) ⟨hx, hb, hml, hown, hts⟩ (k_X8_ringPart l D cs a y k 3 (by first | assumption | omega) (by first | assumption | omega)) (cwV 2 hts gX8_signsByThemselves_X8_ringPart rfl rfl rfl (by decide +kernel) ⟨Nat.le_of_ble_eq_true rfl, Nat.le_of_ble_eq_true rfl⟩) (kx_preV hK hN hM.1 rfl hM) rfl rfl hl.1 rfl (lv_room (Nat.le_of_ble_eq_true rfl)) dX8_signsByThemselves_15 ⟨Nat.le_of_ble_eq_true rfl, Nat.le_of_ble_eq_true rfl⟩) ?_
        refine lv_if_ne (tgt := 34) hx hb dX8_signsByThemselves_18 (by decide) (fun c_2 => ?_) (fun c_2 => ?_)
        · refine lv_iconst (v := nI 0) hx hb dX8_signsByThemselves_34 (by decide) ?_
          refine kx_ci (x := nI (0)) (y := bI (sgOn y k)) (by first | (simp [sgOn, bI_t, bI_f, *]; done) | (simp_all [sgOn, bI_t, bI_f]; done)) ?_
          refine lv_istore_n (lv' := [(2, .int (bI (sgOn y k))), (0, .ref (a)), (1, .int (nI (k)))]) hx hb dX8_signsByThemselves_35 rfl hl (by decide) rfl (fun ls hl => ?_)
          refine lv_iconst (v := nI 0) hx hb dX8_signsByThemselves_36 (by decide) ?_
          refine lv_istore_n (lv' := [(3, .int (nI (0))), (2, .int (bI (sgOn y k))), (0, .ref (a)), (1, .int (nI (k)))]) hx hb dX8_signsByThemselves_37 rfl hl (by decide) rfl (fun ls hl => ?_)
          have J38 : ∀ (n38 : Nat) (j : Nat) (H : Heap) (locs : List Loc) (ls : Array Slot), (Mn z - j) < n38 → (j ≤ Mn z) → (j = 0 ∨ sgOn y k = true) → (MdC D (cs 0) a (sgR k j y) H) → va_S ((rgM a)) s.heap H locs → lv_has ls 5 [(0, .ref (a)), (1, .int (nI (k))), (2, .int (bI (sgOn y k))), (3, .int (nI (j)))] → W p l e ({ frames := 2, cells := 0, slots := 0, locals := 44 } : Room) s m args below meth c H locs 0 0 (MQ below (QcM none (fun H => MdC D (cs 0) a (sgF z) H) (rgM a)) args s 0 0 ((rgM a))) (F0 m 38 ls []) := by
            intro n38; induction n38 with
            | zero => intro j H locs ls hmu38 hj hd hM hS hl; exact absurd hmu38 (Nat.not_lt_zero _)
            | succ n38 ih38 =>
              intro j H locs ls hmu38 hj hd hM hS hl
              obtain ⟨x, hxd⟩ : ∃ x, sgR k j y = x := ⟨_, rfl⟩
              have hx' : SI z x := hxd ▸ hy.tr (sgR_si hy.2 k j)
              rw [hxd] at hM
              have hRx := hx'.1.R
              have hMx := hx'.1.M
              refine lv_iload_n hx hb dX8_signsByThemselves_38 rfl (lv_at hl 3 rfl) ?_
              refine lv_aload_n hx hb dX8_signsByThemselves_39 rfl (lv_at hl 0 rfl) ?_
              refine kx_get (v := .ref (a + 1)) hx hb hts hinX8 hown hK hM.1 rfl 1 (by decide) (by decide +kernel) rfl dX8_signsByThemselves_40 ?_
              refine lv_iconst (v := nI 4) hx hb dX8_signsByThemselves_43 (by decide) ?_
              refine kx_iald (i := 4) hx hb hK hM.state 0 rfl (by decide) (by decide) dX8_signsByThemselves_44 ?_
              refine kx_ci (y := nI (Mn x)) (hx'.2).z4 ?_
              refine kn_icmp_ge (tgt := 118) hx hb dX8_signsByThemselves_45 (by decide) (by omega) (by omega) (fun c_3 => ?_) (fun c_3 => ?_)
              · have e9 : sgK z (k + 1) = x := by
                  show sgT (Mn z) k (sgK z k) = _
                  rw [hyd, sg_exit (k := k) (y := y) (j := j) hd (by first | exact Or.inl (by assumption) | exact Or.inr (by omega)), hxd]
                have hM : MdC D (cs 0) a (sgK z (k + 1)) H := by rw [e9]; exact hM
                refine lv_iinc (v := nI (k + 1)) (lv' := [(1, .int (nI (k + 1))), (0, .ref (a)), (2, .int (bI (sgOn y k))), (3, .int (nI (j)))]) (k := 1) hx hb dX8_signsByThemselves_118 hl rfl (nI_add _ _) (by decide) rfl (fun ls hl => ?_)
                refine lv_goto (tgt := 2) hx hb dX8_signsByThemselves_121 (by decide) ?_
                exact ih2 (k + 1) _ _ _ (by omega) (by omega) hM hS (lv_sub hl [1, 0] rfl)
              · have hjM : j < Mn x := by omega
                have hs3 := hx'.2.s3 hjM
                have hmt := hx'.2.mt hjM
                refine lv_iload_n hx hb dX8_signsByThemselves_48 rfl (lv_at hl 2 rfl) ?_
                refine kb_if_eq (tgt := 118) hx hb dX8_signsByThemselves_49 (by decide) (fun c_4 => ?_) (fun c_4 => ?_)
                · have e9 : sgK z (k + 1) = x := by
                    show sgT (Mn z) k (sgK z k) = _
                    rw [hyd, sg_exit (k := k) (y := y) (j := j) hd (by first | exact Or.inl (by assumption) | exact Or.inr (by omega)), hxd]
                  have hM : MdC D (cs 0) a (sgK z (k + 1)) H := by rw [e9]; exact hM
                  refine lv_iinc (v := nI (k + 1)) (lv' := [(1, .int (nI (k + 1))), (0, .ref (a)), (2, .int (bI (sgOn y k))), (3, .int (nI (j)))]) (k := 1) hx hb dX8_signsByThemselves_118 hl rfl (nI_add _ _) (by decide) rfl (fun ls hl => ?_)
                  refine lv_goto (tgt := 2) hx hb dX8_signsByThemselves_121 (by decide) ?_
                  exact ih2 (k + 1) _ _ _ (by omega) (by omega) hM hS (lv_sub hl [1, 0] rfl)
                · refine lv_aload_n hx hb dX8_signsByThemselves_52 rfl (lv_at hl 0 rfl) ?_
                  refine lv_iload_n hx hb dX8_signsByThemselves_53 rfl (lv_at hl 3 rfl) ?_
                  refine lv_iconst (v := nI 2) hx hb dX8_signsByThemselves_54 (by decide) ?_
                  refine kx_retP (va_runV (As := [.int (nI (j)), .int (nI (2))]) (rest := []) ⟨hx, hb, hml, hown, hts⟩ (k_X8_movePart l D cs a x j 2 (by first | assumption | omega) (by first | assumption | omega)) (cwV 2 hts gX8_signsByThemselves_X8_movePart rfl rfl rfl (by decide +kernel) ⟨Nat.le_of_ble_eq_true rfl, Nat.le_of_ble_eq_true rfl⟩) (kx_preV hK hN hM.1 rfl hM) rfl rfl hl.1 rfl (lv_room (Nat.le_of_ble_eq_true rfl)) dX8_signsByThemselves_55 ⟨Nat.le_of_ble_eq_true rfl, Nat.le_of_ble_eq_true rfl⟩) ?_
                  refine kx_ci (y := nI (mT x j)) (Inv.m2 hx'.2 (by first | assumption | omega)) ?_
                  refine lv_iload_n hx hb dX8_signsByThemselves_58 rfl (lv_at hl 1 rfl) ?_
                  refine kn_icmp_ne (tgt := 76) hx hb dX8_signsByThemselves_59 (by decide) (by omega) (by omega) (fun c_5 => ?_) (fun c_5 => ?_)
                  · refine lv_iconst (v := nI 0) hx hb dX8_signsByThemselves_76 (by decide) ?_
                    refine kx_ci (x := nI (0)) (y := bI (isC x k j)) (by first | (simp [isC, bI_t, bI_f, *]; done) | (exfalso; omega) | (exfalso; simp_all; done)) ?_
                    refine lv_istore (lv' := [(4, .int (bI (isC x k j))), (0, .ref (a)), (1, .int (nI (k))), (2, .int (bI (sgOn y k))), (3, .int (nI (j)))]) hx hb dX8_signsByThemselves_77 hl (by decide) rfl (fun ls hl => ?_)
                    refine lv_iload hx hb dX8_signsByThemselves_79 (lv_at hl 0 rfl) ?_
                    refine kb_if_eq (tgt := 112) hx hb dX8_signsByThemselves_81 (by decide) (fun c_6 => ?_) (fun c_6 => ?_)
                    · have e9 : sgR k (j + 1) y = x := by
                        show sgS k j (sgR k j y) = _
                        rw [hxd]; first | (simp [sgS, sgC, *]; done) | (exfalso; simp_all [isC]; done)
                      have hM : MdC D (cs 0) a (sgR k (j + 1) y) H := by rw [e9]; exact hM
                      refine lv_iinc (v := nI (j + 1)) (lv' := [(3, .int (nI (j + 1))), (4, .int (bI (isC x k j))), (0, .ref (a)), (1, .int (nI (k))), (2, .int (bI (sgOn y k)))]) (k := 4) hx hb dX8_signsByThemselves_112 hl rfl (nI_add _ _) (by decide) rfl (fun ls hl => ?_)
                      refine lv_goto (tgt := 38) hx hb dX8_signsByThemselves_115 (by decide) ?_
                      exact ih38 (j + 1) _ _ _ (by omega) (by omega) (Or.inr (by assumption)) hM hS (lv_sub hl [2, 3, 4, 0] rfl)
                    · refine lv_aload_n hx hb dX8_signsByThemselves_84 rfl (lv_at hl 1 rfl) ?_
                      refine kx_get (v := .ref (a + 1)) hx hb hts hinX8 hown hK hM.1 rfl 1 (by decide) (by decide +kernel) rfl dX8_signsByThemselves_85 ?_
                      refine lv_iconst (v := nI 0) hx hb dX8_signsByThemselves_88 (by decide) ?_
                      refine kx_iald (i := 0) hx hb hK hM.state 0 rfl (by decide) (by decide) dX8_signsByThemselves_89 ?_
                      refine lv_aload_n hx hb dX8_signsByThemselves_90 rfl (lv_at hl 1 rfl) ?_
                      refine lv_iload_n hx hb dX8_signsByThemselves_91 rfl (lv_at hl 4 rfl) ?_
                      refine lv_bipush (v := nI 8) hx hb dX8_signsByThemselves_92 (by decide) ?_
                      refine kx_retP (va_runV (As := [.int (nI (j)), .int (nI (8))]) (rest := [.int (x 0)]) ⟨hx, hb, hml, hown, hts⟩ (k_X8_movePart l D cs a x j 8 (by first | assumption | omega) (by first | assumption | omega)) (cwV 2 hts gX8_signsByThemselves_X8_movePart rfl rfl rfl (by decide +kernel) ⟨Nat.le_of_ble_eq_true rfl, Nat.le_of_ble_eq_true rfl⟩) (kx_preV hK hN hM.1 rfl hM) rfl rfl hl.1 rfl (lv_room (Nat.le_of_ble_eq_true rfl)) dX8_signsByThemselves_94 ⟨Nat.le_of_ble_eq_true rfl, Nat.le_of_ble_eq_true rfl⟩) ?_
                      refine lv_isub hx hb dX8_signsByThemselves_97 ?_
                      refine lv_aload_n hx hb dX8_signsByThemselves_98 rfl (lv_at hl 1 rfl) ?_
                      refine lv_iload_n hx hb dX8_signsByThemselves_99 rfl (lv_at hl 2 rfl) ?_
                      refine lv_iconst (v := nI 2) hx hb dX8_signsByThemselves_100 (by decide) ?_
                      refine kx_retP (va_runV (As := [.int (nI (k)), .int (nI (2))]) (rest := [.int ((x 0) - (x (80 + 10 * j + 8)))]) ⟨hx, hb, hml, hown, hts⟩ (k_X8_ringPart l D cs a x k 2 (by first | assumption | omega) (by first | assumption | omega)) (cwV 2 hts gX8_signsByThemselves_X8_ringPart rfl rfl rfl (by decide +kernel) ⟨Nat.le_of_ble_eq_true rfl, Nat.le_of_ble_eq_true rfl⟩) (kx_preV hK hN hM.1 rfl hM) rfl rfl hl.1 rfl (lv_room (Nat.le_of_ble_eq_true rfl)) dX8_signsByThemselves_101 ⟨Nat.le_of_ble_eq_true rfl, Nat.le_of_ble_eq_true rfl⟩) ?_
                      refine lv_icmp_lt (tgt := 112) hx hb dX8_signsByThemselves_104 (by decide) (fun hpat => ?_) (fun hpat => ?_)
                      · have e9 : sgR k (j + 1) y = x := by
                          show sgS k j (sgR k j y) = _
                          rw [hxd]; first | (simp [sgS, sgC, *]; done) | (exfalso; simp_all [isC]; done)
                        have hM : MdC D (cs 0) a (sgR k (j + 1) y) H := by rw [e9]; exact hM
                        refine lv_iinc (v := nI (j + 1)) (lv' := [(3, .int (nI (j + 1))), (4, .int (bI (isC x k j))), (0, .ref (a)), (1, .int (nI (k))), (2, .int (bI (sgOn y k)))]) (k := 4) hx hb dX8_signsByThemselves_112 hl rfl (nI_add _ _) (by decide) rfl (fun ls hl => ?_)
                        refine lv_goto (tgt := 38) hx hb dX8_signsByThemselves_115 (by decide) ?_
                        exact ih38 (j + 1) _ _ _ (by omega) (by omega) (Or.inr (by assumption)) hM hS (lv_sub hl [2, 3, 4, 0] rfl)
                      · refine lv_aload_n hx hb dX8_signsByThemselves_107 rfl (lv_at hl 1 rfl) ?_
                        refine lv_iload_n hx hb dX8_signsByThemselves_108 rfl (lv_at hl 4 rfl) ?_
                        refine kx_retM (va_runV (As := [.int (nI (j))]) (rest := []) ⟨hx, hb, hml, hown, hts⟩ (k_X8_signMove l D cs a x j (by first | assumption | omega)) (cwV 1 hts gX8_signsByThemselves_X8_signMove rfl rfl rfl (by decide +kernel) ⟨Nat.le_of_ble_eq_true rfl, Nat.le_of_ble_eq_true rfl⟩) (kx_preV hK hN hM.1 rfl hM) rfl rfl hl.1 rfl (lv_room (Nat.le_of_ble_eq_true rfl)) dX8_signsByThemselves_109 ⟨Nat.le_of_ble_eq_true rfl, Nat.le_of_ble_eq_true rfl⟩) hS (fun q _ h => h) (fun q h => h) (fun H locs hM hk hS => ?_)
                        clear hk
                        have e9 : sgR k (j + 1) y = signF x j := by
                          show sgS k j (sgR k j y) = _
                          rw [hxd]; first | (simp [sgS, sgC, *]; done) | (exfalso; simp_all [isC]; done)
                        have hM : MdC D (cs 0) a (sgR k (j + 1) y) H := by rw [e9]; exact hM
                        refine lv_iinc (v := nI (j + 1)) (lv' := [(3, .int (nI (j + 1))), (4, .int (bI (isC x k j))), (0, .ref (a)), (1, .int (nI (k))), (2, .int (bI (sgOn y k)))]) (k := 4) hx hb dX8_signsByThemselves_112 hl rfl (nI_add _ _) (by decide) rfl (fun ls hl => ?_)
                        refine lv_goto (tgt := 38) hx hb dX8_signsByThemselves_115 (by decide) ?_
                        exact ih38 (j + 1) _ _ _ (by omega) (by omega) (Or.inr (by assumption)) hM hS (lv_sub hl [2, 3, 4, 0] rfl)
                  · refine lv_aload_n hx hb dX8_signsByThemselves_62 rfl (lv_at hl 0 rfl) ?_
                    refine lv_iload_n hx hb dX8_signsByThemselves_63 rfl (lv_at hl 3 rfl) ?_
                    refine lv_iconst (v := nI 5) hx hb dX8_signsByThemselves_64 (by decide) ?_
                    refine kx_retP (va_runV (As := [.int (nI (j)), .int (nI (5))]) (rest := []) ⟨hx, hb, hml, hown, hts⟩ (k_X8_movePart l D cs a x j 5 (by first | assumption | omega) (by first | assumption | omega)) (cwV 2 hts gX8_signsByThemselves_X8_movePart rfl rfl rfl (by decide +kernel) ⟨Nat.le_of_ble_eq_true rfl, Nat.le_of_ble_eq_true rfl⟩) (kx_preV hK hN hM.1 rfl hM) rfl rfl hl.1 rfl (lv_room (Nat.le_of_ble_eq_true rfl)) dX8_signsByThemselves_65 ⟨Nat.le_of_ble_eq_true rfl, Nat.le_of_ble_eq_true rfl⟩) ?_
                    refine kx_ci (y := nI (mS x j)) (Inv.m5 hx'.2 (by first | assumption | omega)) ?_
                    refine lv_iconst (v := nI 2) hx hb dX8_signsByThemselves_68 (by decide) ?_
                    refine kn_icmp_ne (tgt := 76) hx hb dX8_signsByThemselves_69 (by decide) (by omega) (by decide) (fun c_7 => ?_) (fun c_7 => ?_)
                    · refine lv_iconst (v := nI 0) hx hb dX8_signsByThemselves_76 (by decide) ?_
                      refine kx_ci (x := nI (0)) (y := bI (isC x k j)) (by first | (simp [isC, bI_t, bI_f, *]; done) | (exfalso; omega) | (exfalso; simp_all; done)) ?_
                      refine lv_istore (lv' := [(4, .int (bI (isC x k j))), (0, .ref (a)), (1, .int (nI (k))), (2, .int (bI (sgOn y k))), (3, .int (nI (j)))]) hx hb dX8_signsByThemselves_77 hl (by decide) rfl (fun ls hl => ?_)
                      refine lv_iload hx hb dX8_signsByThemselves_79 (lv_at hl 0 rfl) ?_
                      refine kb_if_eq (tgt := 112) hx hb dX8_signsByThemselves_81 (by decide) (fun c_8 => ?_) (fun c_8 => ?_)
                      · have e9 : sgR k (j + 1) y = x := by
                          show sgS k j (sgR k j y) = _
                          rw [hxd]; first | (simp [sgS, sgC, *]; done) | (exfalso; simp_all [isC]; done)
                        have hM : MdC D (cs 0) a (sgR k (j + 1) y) H := by rw [e9]; exact hM
                        refine lv_iinc (v := nI (j + 1)) (lv' := [(3, .int (nI (j + 1))), (4, .int (bI (isC x k j))), (0, .ref (a)), (1, .int (nI (k))), (2, .int (bI (sgOn y k)))]) (k := 4) hx hb dX8_signsByThemselves_112 hl rfl (nI_add _ _) (by decide) rfl (fun ls hl => ?_)
                        refine lv_goto (tgt := 38) hx hb dX8_signsByThemselves_115 (by decide) ?_
                        exact ih38 (j + 1) _ _ _ (by omega) (by omega) (Or.inr (by assumption)) hM hS (lv_sub hl [2, 3, 4, 0] rfl)
                      · refine lv_aload_n hx hb dX8_signsByThemselves_84 rfl (lv_at hl 1 rfl) ?_
                        refine kx_get (v := .ref (a + 1)) hx hb hts hinX8 hown hK hM.1 rfl 1 (by decide) (by decide +kernel) rfl dX8_signsByThemselves_85 ?_
                        refine lv_iconst (v := nI 0) hx hb dX8_signsByThemselves_88 (by decide) ?_
                        refine kx_iald (i := 0) hx hb hK hM.state 0 rfl (by decide) (by decide) dX8_signsByThemselves_89 ?_
                        refine lv_aload_n hx hb dX8_signsByThemselves_90 rfl (lv_at hl 1 rfl) ?_
                        refine lv_iload_n hx hb dX8_signsByThemselves_91 rfl (lv_at hl 4 rfl) ?_
                        refine lv_bipush (v := nI 8) hx hb dX8_signsByThemselves_92 (by decide) ?_
                        refine kx_retP (va_runV (As := [.int (nI (j)), .int (nI (8))]) (rest := [.int (x 0)]) ⟨hx, hb, hml, hown, hts⟩ (k_X8_movePart l D cs a x j 8 (by first | assumption | omega) (by first | assumption | omega)) (cwV 2 hts gX8_signsByThemselves_X8_movePart rfl rfl rfl (by decide +kernel) ⟨Nat.le_of_ble_eq_true rfl, Nat.le_of_ble_eq_true rfl⟩) (kx_preV hK hN hM.1 rfl hM) rfl rfl hl.1 rfl (lv_room (Nat.le_of_ble_eq_true rfl)) dX8_signsByThemselves_94 ⟨Nat.le_of_ble_eq_true rfl, Nat.le_of_ble_eq_true rfl⟩) ?_
                        refine lv_isub hx hb dX8_signsByThemselves_97 ?_
                        refine lv_aload_n hx hb dX8_signsByThemselves_98 rfl (lv_at hl 1 rfl) ?_
                        refine lv_iload_n hx hb dX8_signsByThemselves_99 rfl (lv_at hl 2 rfl) ?_
                        refine lv_iconst (v := nI 2) hx hb dX8_signsByThemselves_100 (by decide) ?_
                        refine kx_retP (va_runV (As := [.int (nI (k)), .int (nI (2))]) (rest := [.int ((x 0) - (x (80 + 10 * j + 8)))]) ⟨hx, hb, hml, hown, hts⟩ (k_X8_ringPart l D cs a x k 2 (by first | assumption | omega) (by first | assumption | omega)) (cwV 2 hts gX8_signsByThemselves_X8_ringPart rfl rfl rfl (by decide +kernel) ⟨Nat.le_of_ble_eq_true rfl, Nat.le_of_ble_eq_true rfl⟩) (kx_preV hK hN hM.1 rfl hM) rfl rfl hl.1 rfl (lv_room (Nat.le_of_ble_eq_true rfl)) dX8_signsByThemselves_101 ⟨Nat.le_of_ble_eq_true rfl, Nat.le_of_ble_eq_true rfl⟩) ?_
                        refine lv_icmp_lt (tgt := 112) hx hb dX8_signsByThemselves_104 (by decide) (fun hpat => ?_) (fun hpat => ?_)
                        · have e9 : sgR k (j + 1) y = x := by
                            show sgS k j (sgR k j y) = _
                            rw [hxd]; first | (simp [sgS, sgC, *]; done) | (exfalso; simp_all [isC]; done)
                          have hM : MdC D (cs 0) a (sgR k (j + 1) y) H := by rw [e9]; exact hM
                          refine lv_iinc (v := nI (j + 1)) (lv' := [(3, .int (nI (j + 1))), (4, .int (bI (isC x k j))), (0, .ref (a)), (1, .int (nI (k))), (2, .int (bI (sgOn y k)))]) (k := 4) hx hb dX8_signsByThemselves_112 hl rfl (nI_add _ _) (by decide) rfl (fun ls hl => ?_)
                          refine lv_goto (tgt := 38) hx hb dX8_signsByThemselves_115 (by decide) ?_
                          exact ih38 (j + 1) _ _ _ (by omega) (by omega) (Or.inr (by assumption)) hM hS (lv_sub hl [2, 3, 4, 0] rfl)
                        · refine lv_aload_n hx hb dX8_signsByThemselves_107 rfl (lv_at hl 1 rfl) ?_
                          refine lv_iload_n hx hb dX8_signsByThemselves_108 rfl (lv_at hl 4 rfl) ?_
                          refine kx_retM (va_runV (As := [.int (nI (j))]) (rest := []) ⟨hx, hb, hml, hown, hts⟩ (k_X8_signMove l D cs a x j (by first | assumption | omega)) (cwV 1 hts gX8_signsByThemselves_X8_signMove rfl rfl rfl (by decide +kernel) ⟨Nat.le_of_ble_eq_true rfl, Nat.le_of_ble_eq_true rfl⟩) (kx_preV hK hN hM.1 rfl hM) rfl rfl hl.1 rfl (lv_room (Nat.le_of_ble_eq_true rfl)) dX8_signsByThemselves_109 ⟨Nat.le_of_ble_eq_true rfl, Nat.le_of_ble_eq_true rfl⟩) hS (fun q _ h => h) (fun q h => h) (fun H locs hM hk hS => ?_)
                          clear hk
                          have e9 : sgR k (j + 1) y = signF x j := by
                            show sgS k j (sgR k j y) = _
                            rw [hxd]; first | (simp [sgS, sgC, *]; done) | (exfalso; simp_all [isC]; done)
                          have hM : MdC D (cs 0) a (sgR k (j + 1) y) H := by rw [e9]; exact hM
                          refine lv_iinc (v := nI (j + 1)) (lv' := [(3, .int (nI (j + 1))), (4, .int (bI (isC x k j))), (0, .ref (a)), (1, .int (nI (k))), (2, .int (bI (sgOn y k)))]) (k := 4) hx hb dX8_signsByThemselves_112 hl rfl (nI_add _ _) (by decide) rfl (fun ls hl => ?_)
                          refine lv_goto (tgt := 38) hx hb dX8_signsByThemselves_115 (by decide) ?_
                          exact ih38 (j + 1) _ _ _ (by omega) (by omega) (Or.inr (by assumption)) hM hS (lv_sub hl [2, 3, 4, 0] rfl)
                    · refine lv_iconst (v := nI 1) hx hb dX8_signsByThemselves_72 (by decide) ?_
                      refine lv_goto (tgt := 77) hx hb dX8_signsByThemselves_73 (by decide) ?_
                      refine kx_ci (x := nI (1)) (y := bI (isC x k j)) (by first | (simp [isC, bI_t, bI_f, *]; done) | (exfalso; omega) | (exfalso; simp_all; done)) ?_
                      refine lv_istore (lv' := [(4, .int (bI (isC x k j))), (0, .ref (a)), (1, .int (nI (k))), (2, .int (bI (sgOn y k))), (3, .int (nI (j)))]) hx hb dX8_signsByThemselves_77 hl (by decide) rfl (fun ls hl => ?_)
                      refine lv_iload hx hb dX8_signsByThemselves_79 (lv_at hl 0 rfl) ?_
                      refine kb_if_eq (tgt := 112) hx hb dX8_signsByThemselves_81 (by decide) (fun c_9 => ?_) (fun c_9 => ?_)
                      · have e9 : sgR k (j + 1) y = x := by
                          show sgS k j (sgR k j y) = _
                          rw [hxd]; first | (simp [sgS, sgC, *]; done) | (exfalso; simp_all [isC]; done)
                        have hM : MdC D (cs 0) a (sgR k (j + 1) y) H := by rw [e9]; exact hM
                        refine lv_iinc (v := nI (j + 1)) (lv' := [(3, .int (nI (j + 1))), (4, .int (bI (isC x k j))), (0, .ref (a)), (1, .int (nI (k))), (2, .int (bI (sgOn y k)))]) (k := 4) hx hb dX8_signsByThemselves_112 hl rfl (nI_add _ _) (by decide) rfl (fun ls hl => ?_)
                        refine lv_goto (tgt := 38) hx hb dX8_signsByThemselves_115 (by decide) ?_
                        exact ih38 (j + 1) _ _ _ (by omega) (by omega) (Or.inr (by assumption)) hM hS (lv_sub hl [2, 3, 4, 0] rfl)
                      · refine lv_aload_n hx hb dX8_signsByThemselves_84 rfl (lv_at hl 1 rfl) ?_
                        refine kx_get (v := .ref (a + 1)) hx hb hts hinX8 hown hK hM.1 rfl 1 (by decide) (by decide +kernel) rfl dX8_signsByThemselves_85 ?_
                        refine lv_iconst (v := nI 0) hx hb dX8_signsByThemselves_88 (by decide) ?_
                        refine kx_iald (i := 0) hx hb hK hM.state 0 rfl (by decide) (by decide) dX8_signsByThemselves_89 ?_
                        refine lv_aload_n hx hb dX8_signsByThemselves_90 rfl (lv_at hl 1 rfl) ?_
                        refine lv_iload_n hx hb dX8_signsByThemselves_91 rfl (lv_at hl 4 rfl) ?_
                        refine lv_bipush (v := nI 8) hx hb dX8_signsByThemselves_92 (by decide) ?_
                        refine kx_retP (va_runV (As := [.int (nI (j)), .int (nI (8))]) (rest := [.int (x 0)]) ⟨hx, hb, hml, hown, hts⟩ (k_X8_movePart l D cs a x j 8 (by first | assumption | omega) (by first | assumption | omega)) (cwV 2 hts gX8_signsByThemselves_X8_movePart rfl rfl rfl (by decide +kernel) ⟨Nat.le_of_ble_eq_true rfl, Nat.le_of_ble_eq_true rfl⟩) (kx_preV hK hN hM.1 rfl hM) rfl rfl hl.1 rfl (lv_room (Nat.le_of_ble_eq_true rfl)) dX8_signsByThemselves_94 ⟨Nat.le_of_ble_eq_true rfl, Nat.le_of_ble_eq_true rfl⟩) ?_
                        refine lv_isub hx hb dX8_signsByThemselves_97 ?_
                        refine lv_aload_n hx hb dX8_signsByThemselves_98 rfl (lv_at hl 1 rfl) ?_
                        refine lv_iload_n hx hb dX8_signsByThemselves_99 rfl (lv_at hl 2 rfl) ?_
                        refine lv_iconst (v := nI 2) hx hb dX8_signsByThemselves_100 (by decide) ?_
                        refine kx_retP (va_runV (As := [.int (nI (k)), .int (nI (2))]) (rest := [.int ((x 0) - (x (80 + 10 * j + 8)))]) ⟨hx, hb, hml, hown, hts⟩ (k_X8_ringPart l D cs a x k 2 (by first | assumption | omega) (by first | assumption | omega)) (cwV 2 hts gX8_signsByThemselves_X8_ringPart rfl rfl rfl (by decide +kernel) ⟨Nat.le_of_ble_eq_true rfl, Nat.le_of_ble_eq_true rfl⟩) (kx_preV hK hN hM.1 rfl hM) rfl rfl hl.1 rfl (lv_room (Nat.le_of_ble_eq_true rfl)) dX8_signsByThemselves_101 ⟨Nat.le_of_ble_eq_true rfl, Nat.le_of_ble_eq_true rfl⟩) ?_
                        refine lv_icmp_lt (tgt := 112) hx hb dX8_signsByThemselves_104 (by decide) (fun hpat => ?_) (fun hpat => ?_)
                        · have e9 : sgR k (j + 1) y = x := by
                            show sgS k j (sgR k j y) = _
                            rw [hxd]; first | (simp [sgS, sgC, *]; done) | (exfalso; simp_all [isC]; done)
                          have hM : MdC D (cs 0) a (sgR k (j + 1) y) H := by rw [e9]; exact hM
                          refine lv_iinc (v := nI (j + 1)) (lv' := [(3, .int (nI (j + 1))), (4, .int (bI (isC x k j))), (0, .ref (a)), (1, .int (nI (k))), (2, .int (bI (sgOn y k)))]) (k := 4) hx hb dX8_signsByThemselves_112 hl rfl (nI_add _ _) (by decide) rfl (fun ls hl => ?_)
                          refine lv_goto (tgt := 38) hx hb dX8_signsByThemselves_115 (by decide) ?_
                          exact ih38 (j + 1) _ _ _ (by omega) (by omega) (Or.inr (by assumption)) hM hS (lv_sub hl [2, 3, 4, 0] rfl)
                        · refine lv_aload_n hx hb dX8_signsByThemselves_107 rfl (lv_at hl 1 rfl) ?_
                          refine lv_iload_n hx hb dX8_signsByThemselves_108 rfl (lv_at hl 4 rfl) ?_
                          refine kx_retM (va_runV (As := [.int (nI (j))]) (rest := []) ⟨hx, hb, hml, hown, hts⟩ (k_X8_signMove l D cs a x j (by first | assumption | omega)) (cwV 1 hts gX8_signsByThemselves_X8_signMove rfl rfl rfl (by decide +kernel) ⟨Nat.le_of_ble_eq_true rfl, Nat.le_of_ble_eq_true rfl⟩) (kx_preV hK hN hM.1 rfl hM) rfl rfl hl.1 rfl (lv_room (Nat.le_of_ble_eq_true rfl)) dX8_signsByThemselves_109 ⟨Nat.le_of_ble_eq_true rfl, Nat.le_of_ble_eq_true rfl⟩) hS (fun q _ h => h) (fun q h => h) (fun H locs hM hk hS => ?_)
                          clear hk
                          have e9 : sgR k (j + 1) y = signF x j := by
                            show sgS k j (sgR k j y) = _
                            rw [hxd]; first | (simp [sgS, sgC, *]; done) | (exfalso; simp_all [isC]; done)
                          have hM : MdC D (cs 0) a (sgR k (j + 1) y) H := by rw [e9]; exact hM
                          refine lv_iinc (v := nI (j + 1)) (lv' := [(3, .int (nI (j + 1))), (4, .int (bI (isC x k j))), (0, .ref (a)), (1, .int (nI (k))), (2, .int (bI (sgOn y k)))]) (k := 4) hx hb dX8_signsByThemselves_112 hl rfl (nI_add _ _) (by decide) rfl (fun ls hl => ?_)
                          refine lv_goto (tgt := 38) hx hb dX8_signsByThemselves_115 (by decide) ?_
                          exact ih38 (j + 1) _ _ _ (by omega) (by omega) (Or.inr (by assumption)) hM hS (lv_sub hl [2, 3, 4, 0] rfl)
          exact J38 _ 0 _ _ _ (Nat.lt_succ_self _) (by omega) (Or.inl rfl) hM hS (lv_sub hl [2, 3, 1, 0] rfl)
        · refine lv_aload_n hx hb dX8_signsByThemselves_21 rfl (lv_at hl 0 rfl) ?_
          refine lv_iload_n hx hb dX8_signsByThemselves_22 rfl (lv_at hl 1 rfl) ?_
          refine lv_iconst (v := nI 2) hx hb dX8_signsByThemselves_23 (by decide) ?_
          refine kx_retP (va_runV (As := [.int (nI (k)), .int (nI (2))]) (rest := []) ⟨hx, hb, hml, hown, hts⟩ (k_X8_ringPart l D cs a y k 2 (by first | assumption | omega) (by first | assumption | omega)) (cwV 2 hts gX8_signsByThemselves_X8_ringPart rfl rfl rfl (by decide +kernel) ⟨Nat.le_of_ble_eq_true rfl, Nat.le_of_ble_eq_true rfl⟩) (kx_preV hK hN hM.1 rfl hM) rfl rfl hl.1 rfl (lv_room (Nat.le_of_ble_eq_true rfl)) dX8_signsByThemselves_24 ⟨Nat.le_of_ble_eq_true rfl, Nat.le_of_ble_eq_true rfl⟩) ?_
          refine lv_if_le (tgt := 34) hx hb dX8_signsByThemselves_27 (by decide) (fun c_10 => ?_) (fun c_10 => ?_)
          · refine lv_iconst (v := nI 0) hx hb dX8_signsByThemselves_34 (by decide) ?_
            refine kx_ci (x := nI (0)) (y := bI (sgOn y k)) (by first | (simp [sgOn, bI_t, bI_f, *]; done) | (simp_all [sgOn, bI_t, bI_f]; done)) ?_
            refine lv_istore_n (lv' := [(2, .int (bI (sgOn y k))), (0, .ref (a)), (1, .int (nI (k)))]) hx hb dX8_signsByThemselves_35 rfl hl (by decide) rfl (fun ls hl => ?_)
            refine lv_iconst (v := nI 0) hx hb dX8_signsByThemselves_36 (by decide) ?_
            refine lv_istore_n (lv' := [(3, .int (nI (0))), (2, .int (bI (sgOn y k))), (0, .ref (a)), (1, .int (nI (k)))]) hx hb dX8_signsByThemselves_37 rfl hl (by decide) rfl (fun ls hl => ?_)
            have J38 : ∀ (n38 : Nat) (j : Nat) (H : Heap) (locs : List Loc) (ls : Array Slot), (Mn z - j) < n38 → (j ≤ Mn z) → (j = 0 ∨ sgOn y k = true) → (MdC D (cs 0) a (sgR k j y) H) → va_S ((rgM a)) s.heap H locs → lv_has ls 5 [(0, .ref (a)), (1, .int (nI (k))), (2, .int (bI (sgOn y k))), (3, .int (nI (j)))] → W p l e ({ frames := 2, cells := 0, slots := 0, locals := 44 } : Room) s m args below meth c H locs 0 0 (MQ below (QcM none (fun H => MdC D (cs 0) a (sgF z) H) (rgM a)) args s 0 0 ((rgM a))) (F0 m 38 ls []) := by
              intro n38; induction n38 with
              | zero => intro j H locs ls hmu38 hj hd hM hS hl; exact absurd hmu38 (Nat.not_lt_zero _)
              | succ n38 ih38 =>
                intro j H locs ls hmu38 hj hd hM hS hl
                obtain ⟨x, hxd⟩ : ∃ x, sgR k j y = x := ⟨_, rfl⟩
                have hx' : SI z x := hxd ▸ hy.tr (sgR_si hy.2 k j)
                rw [hxd] at hM
                have hRx := hx'.1.R
                have hMx := hx'.1.M
                refine lv_iload_n hx hb dX8_signsByThemselves_38 rfl (lv_at hl 3 rfl) ?_
                refine lv_aload_n hx hb dX8_signsByThemselves_39 rfl (lv_at hl 0 rfl) ?_
                refine kx_get (v := .ref (a + 1)) hx hb hts hinX8 hown hK hM.1 rfl 1 (by decide) (by decide +kernel) rfl dX8_signsByThemselves_40 ?_
                refine lv_iconst (v := nI 4) hx hb dX8_signsByThemselves_43 (by decide) ?_
                refine kx_iald (i := 4) hx hb hK hM.state 0 rfl (by decide) (by decide) dX8_signsByThemselves_44 ?_
                refine kx_ci (y := nI (Mn x)) (hx'.2).z4 ?_
                refine kn_icmp_ge (tgt := 118) hx hb dX8_signsByThemselves_45 (by decide) (by omega) (by omega) (fun c_11 => ?_) (fun c_11 => ?_)
                · have e9 : sgK z (k + 1) = x := by
                    show sgT (Mn z) k (sgK z k) = _
                    rw [hyd, sg_exit (k := k) (y := y) (j := j) hd (by first | exact Or.inl (by assumption) | exact Or.inr (by omega)), hxd]
                  have hM : MdC D (cs 0) a (sgK z (k + 1)) H := by rw [e9]; exact hM
                  refine lv_iinc (v := nI (k + 1)) (lv' := [(1, .int (nI (k + 1))), (0, .ref (a)), (2, .int (bI (sgOn y k))), (3, .int (nI (j)))]) (k := 1) hx hb dX8_signsByThemselves_118 hl rfl (nI_add _ _) (by decide) rfl (fun ls hl => ?_)
                  refine lv_goto (tgt := 2) hx hb dX8_signsByThemselves_121 (by decide) ?_
                  exact ih2 (k + 1) _ _ _ (by omega) (by omega) hM hS (lv_sub hl [1, 0] rfl)
                · have hjM : j < Mn x := by omega
                  have hs3 := hx'.2.s3 hjM
                  have hmt := hx'.2.mt hjM
                  refine lv_iload_n hx hb dX8_signsByThemselves_48 rfl (lv_at hl 2 rfl) ?_
                  refine kb_if_eq (tgt := 118) hx hb dX8_signsByThemselves_49 (by decide) (fun c_12 => ?_) (fun c_12 => ?_)
                  · have e9 : sgK z (k + 1) = x := by
                      show sgT (Mn z) k (sgK z k) = _
                      rw [hyd, sg_exit (k := k) (y := y) (j := j) hd (by first | exact Or.inl (by assumption) | exact Or.inr (by omega)), hxd]
                    have hM : MdC D (cs 0) a (sgK z (k + 1)) H := by rw [e9]; exact hM
                    refine lv_iinc (v := nI (k + 1)) (lv' := [(1, .int (nI (k + 1))), (0, .ref (a)), (2, .int (bI (sgOn y k))), (3, .int (nI (j)))]) (k := 1) hx hb dX8_signsByThemselves_118 hl rfl (nI_add _ _) (by decide) rfl (fun ls hl => ?_)
                    refine lv_goto (tgt := 2) hx hb dX8_signsByThemselves_121 (by decide) ?_
                    exact ih2 (k + 1) _ _ _ (by omega) (by omega) hM hS (lv_sub hl [1, 0] rfl)
                  · refine lv_aload_n hx hb dX8_signsByThemselves_52 rfl (lv_at hl 0 rfl) ?_
                    refine lv_iload_n hx hb dX8_signsByThemselves_53 rfl (lv_at hl 3 rfl) ?_
                    refine lv_iconst (v := nI 2) hx hb dX8_signsByThemselves_54 (by decide) ?_
                    refine kx_retP (va_runV (As := [.int (nI (j)), .int (nI (2))]) (rest := []) ⟨hx, hb, hml, hown, hts⟩ (k_X8_movePart l D cs a x j 2 (by first | assumption | omega) (by first | assumption | omega)) (cwV 2 hts gX8_signsByThemselves_X8_movePart rfl rfl rfl (by decide +kernel) ⟨Nat.le_of_ble_eq_true rfl, Nat.le_of_ble_eq_true rfl⟩) (kx_preV hK hN hM.1 rfl hM) rfl rfl hl.1 rfl (lv_room (Nat.le_of_ble_eq_true rfl)) dX8_signsByThemselves_55 ⟨Nat.le_of_ble_eq_true rfl, Nat.le_of_ble_eq_true rfl⟩) ?_
                    refine kx_ci (y := nI (mT x j)) (Inv.m2 hx'.2 (by first | assumption | omega)) ?_
                    refine lv_iload_n hx hb dX8_signsByThemselves_58 rfl (lv_at hl 1 rfl) ?_
                    refine kn_icmp_ne (tgt := 76) hx hb dX8_signsByThemselves_59 (by decide) (by omega) (by omega) (fun c_13 => ?_) (fun c_13 => ?_)
                    · refine lv_iconst (v := nI 0) hx hb dX8_signsByThemselves_76 (by decide) ?_
                      refine kx_ci (x := nI (0)) (y := bI (isC x k j)) (by first | (simp [isC, bI_t, bI_f, *]; done) | (exfalso; omega) | (exfalso; simp_all; done)) ?_
                      refine lv_istore (lv' := [(4, .int (bI (isC x k j))), (0, .ref (a)), (1, .int (nI (k))), (2, .int (bI (sgOn y k))), (3, .int (nI (j)))]) hx hb dX8_signsByThemselves_77 hl (by decide) rfl (fun ls hl => ?_)
                      refine lv_iload hx hb dX8_signsByThemselves_79 (lv_at hl 0 rfl) ?_
                      refine kb_if_eq (tgt := 112) hx hb dX8_signsByThemselves_81 (by decide) (fun c_14 => ?_) (fun c_14 => ?_)
                      · have e9 : sgR k (j + 1) y = x := by
                          show sgS k j (sgR k j y) = _
                          rw [hxd]; first | (simp [sgS, sgC, *]; done) | (exfalso; simp_all [isC]; done)
                        have hM : MdC D (cs 0) a (sgR k (j + 1) y) H := by rw [e9]; exact hM
                        refine lv_iinc (v := nI (j + 1)) (lv' := [(3, .int (nI (j + 1))), (4, .int (bI (isC x k j))), (0, .ref (a)), (1, .int (nI (k))), (2, .int (bI (sgOn y k)))]) (k := 4) hx hb dX8_signsByThemselves_112 hl rfl (nI_add _ _) (by decide) rfl (fun ls hl => ?_)
                        refine lv_goto (tgt := 38) hx hb dX8_signsByThemselves_115 (by decide) ?_
                        exact ih38 (j + 1) _ _ _ (by omega) (by omega) (Or.inr (by assumption)) hM hS (lv_sub hl [2, 3, 4, 0] rfl)
                      · refine lv_aload_n hx hb dX8_signsByThemselves_84 rfl (lv_at hl 1 rfl) ?_
                        refine kx_get (v := .ref (a + 1)) hx hb hts hinX8 hown hK hM.1 rfl 1 (by decide) (by decide +kernel) rfl dX8_signsByThemselves_85 ?_
                        refine lv_iconst (v := nI 0) hx hb dX8_signsByThemselves_88 (by decide) ?_
                        refine kx_iald (i := 0) hx hb hK hM.state 0 rfl (by decide) (by decide) dX8_signsByThemselves_89 ?_
                        refine lv_aload_n hx hb dX8_signsByThemselves_90 rfl (lv_at hl 1 rfl) ?_
                        refine lv_iload_n hx hb dX8_signsByThemselves_91 rfl (lv_at hl 4 rfl) ?_
                        refine lv_bipush (v := nI 8) hx hb dX8_signsByThemselves_92 (by decide) ?_
                        refine kx_retP (va_runV (As := [.int (nI (j)), .int (nI (8))]) (rest := [.int (x 0)]) ⟨hx, hb, hml, hown, hts⟩ (k_X8_movePart l D cs a x j 8 (by first | assumption | omega) (by first | assumption | omega)) (cwV 2 hts gX8_signsByThemselves_X8_movePart rfl rfl rfl (by decide +kernel) ⟨Nat.le_of_ble_eq_true rfl, Nat.le_of_ble_eq_true rfl⟩) (kx_preV hK hN hM.1 rfl hM) rfl rfl hl.1 rfl (lv_room (Nat.le_of_ble_eq_true rfl)) dX8_signsByThemselves_94 ⟨Nat.le_of_ble_eq_true rfl, Nat.le_of_ble_eq_true rfl⟩) ?_
                        refine lv_isub hx hb dX8_signsByThemselves_97 ?_
                        refine lv_aload_n hx hb dX8_signsByThemselves_98 rfl (lv_at hl 1 rfl) ?_
                        refine lv_iload_n hx hb dX8_signsByThemselves_99 rfl (lv_at hl 2 rfl) ?_
                        refine lv_iconst (v := nI 2) hx hb dX8_signsByThemselves_100 (by decide) ?_
                        refine kx_retP (va_runV (As := [.int (nI (k)), .int (nI (2))]) (rest := [.int ((x 0) - (x (80 + 10 * j + 8)))]) ⟨hx, hb, hml, hown, hts⟩ (k_X8_ringPart l D cs a x k 2 (by first | assumption | omega) (by first | assumption | omega)) (cwV 2 hts gX8_signsByThemselves_X8_ringPart rfl rfl rfl (by decide +kernel) ⟨Nat.le_of_ble_eq_true rfl, Nat.le_of_ble_eq_true rfl⟩) (kx_preV hK hN hM.1 rfl hM) rfl rfl hl.1 rfl (lv_room (Nat.le_of_ble_eq_true rfl)) dX8_signsByThemselves_101 ⟨Nat.le_of_ble_eq_true rfl, Nat.le_of_ble_eq_true rfl⟩) ?_
                        refine lv_icmp_lt (tgt := 112) hx hb dX8_signsByThemselves_104 (by decide) (fun hpat => ?_) (fun hpat => ?_)
                        · have e9 : sgR k (j + 1) y = x := by
                            show sgS k j (sgR k j y) = _
                            rw [hxd]; first | (simp [sgS, sgC, *]; done) | (exfalso; simp_all [isC]; done)
                          have hM : MdC D (cs 0) a (sgR k (j + 1) y) H := by rw [e9]; exact hM
                          refine lv_iinc (v := nI (j + 1)) (lv' := [(3, .int (nI (j + 1))), (4, .int (bI (isC x k j))), (0, .ref (a)), (1, .int (nI (k))), (2, .int (bI (sgOn y k)))]) (k := 4) hx hb dX8_signsByThemselves_112 hl rfl (nI_add _ _) (by decide) rfl (fun ls hl => ?_)
                          refine lv_goto (tgt := 38) hx hb dX8_signsByThemselves_115 (by decide) ?_
                          exact ih38 (j + 1) _ _ _ (by omega) (by omega) (Or.inr (by assumption)) hM hS (lv_sub hl [2, 3, 4, 0] rfl)
                        · refine lv_aload_n hx hb dX8_signsByThemselves_107 rfl (lv_at hl 1 rfl) ?_
                          refine lv_iload_n hx hb dX8_signsByThemselves_108 rfl (lv_at hl 4 rfl) ?_
                          refine kx_retM (va_runV (As := [.int (nI (j))]) (rest := []) ⟨hx, hb, hml, hown, hts⟩ (k_X8_signMove l D cs a x j (by first | assumption | omega)) (cwV 1 hts gX8_signsByThemselves_X8_signMove rfl rfl rfl (by decide +kernel) ⟨Nat.le_of_ble_eq_true rfl, Nat.le_of_ble_eq_true rfl⟩) (kx_preV hK hN hM.1 rfl hM) rfl rfl hl.1 rfl (lv_room (Nat.le_of_ble_eq_true rfl)) dX8_signsByThemselves_109 ⟨Nat.le_of_ble_eq_true rfl, Nat.le_of_ble_eq_true rfl⟩) hS (fun q _ h => h) (fun q h => h) (fun H locs hM hk hS => ?_)
                          clear hk
                          have e9 : sgR k (j + 1) y = signF x j := by
                            show sgS k j (sgR k j y) = _
                            rw [hxd]; first | (simp [sgS, sgC, *]; done) | (exfalso; simp_all [isC]; done)
                          have hM : MdC D (cs 0) a (sgR k (j + 1) y) H := by rw [e9]; exact hM
                          refine lv_iinc (v := nI (j + 1)) (lv' := [(3, .int (nI (j + 1))), (4, .int (bI (isC x k j))), (0, .ref (a)), (1, .int (nI (k))), (2, .int (bI (sgOn y k)))]) (k := 4) hx hb dX8_signsByThemselves_112 hl rfl (nI_add _ _) (by decide) rfl (fun ls hl => ?_)
                          refine lv_goto (tgt := 38) hx hb dX8_signsByThemselves_115 (by decide) ?_
                          exact ih38 (j + 1) _ _ _ (by omega) (by omega) (Or.inr (by assumption)) hM hS (lv_sub hl [2, 3, 4, 0] rfl)
                    · refine lv_aload_n hx hb dX8_signsByThemselves_62 rfl (lv_at hl 0 rfl) ?_
                      refine lv_iload_n hx hb dX8_signsByThemselves_63 rfl (lv_at hl 3 rfl) ?_
                      refine lv_iconst (v := nI 5) hx hb dX8_signsByThemselves_64 (by decide) ?_
                      refine kx_retP (va_runV (As := [.int (nI (j)), .int (nI (5))]) (rest := []) ⟨hx, hb, hml, hown, hts⟩ (k_X8_movePart l D cs a x j 5 (by first | assumption | omega) (by first | assumption | omega)) (cwV 2 hts gX8_signsByThemselves_X8_movePart rfl rfl rfl (by decide +kernel) ⟨Nat.le_of_ble_eq_true rfl, Nat.le_of_ble_eq_true rfl⟩) (kx_preV hK hN hM.1 rfl hM) rfl rfl hl.1 rfl (lv_room (Nat.le_of_ble_eq_true rfl)) dX8_signsByThemselves_65 ⟨Nat.le_of_ble_eq_true rfl, Nat.le_of_ble_eq_true rfl⟩) ?_
                      refine kx_ci (y := nI (mS x j)) (Inv.m5 hx'.2 (by first | assumption | omega)) ?_
                      refine lv_iconst (v := nI 2) hx hb dX8_signsByThemselves_68 (by decide) ?_
                      refine kn_icmp_ne (tgt := 76) hx hb dX8_signsByThemselves_69 (by decide) (by omega) (by decide) (fun c_15 => ?_) (fun c_15 => ?_)
                      · refine lv_iconst (v := nI 0) hx hb dX8_signsByThemselves_76 (by decide) ?_
                        refine kx_ci (x := nI (0)) (y := bI (isC x k j)) (by first | (simp [isC, bI_t, bI_f, *]; done) | (exfalso; omega) | (exfalso; simp_all; done)) ?_
                        refine lv_istore (lv' := [(4, .int (bI (isC x k j))), (0, .ref (a)), (1, .int (nI (k))), (2, .int (bI (sgOn y k))), (3, .int (nI (j)))]) hx hb dX8_signsByThemselves_77 hl (by decide) rfl (fun ls hl => ?_)
                        refine lv_iload hx hb dX8_signsByThemselves_79 (lv_at hl 0 rfl) ?_
                        refine kb_if_eq (tgt := 112) hx hb dX8_signsByThemselves_81 (by decide) (fun c_16 => ?_) (fun c_16 => ?_)
                        · have e9 : sgR k (j + 1) y = x := by
                            show sgS k j (sgR k j y) = _
                            rw [hxd]; first | (simp [sgS, sgC, *]; done) | (exfalso; simp_all [isC]; done)
                          have hM : MdC D (cs 0) a (sgR k (j + 1) y) H := by rw [e9]; exact hM
                          refine lv_iinc (v := nI (j + 1)) (lv' := [(3, .int (nI (j + 1))), (4, .int (bI (isC x k j))), (0, .ref (a)), (1, .int (nI (k))), (2, .int (bI (sgOn y k)))]) (k := 4) hx hb dX8_signsByThemselves_112 hl rfl (nI_add _ _) (by decide) rfl (fun ls hl => ?_)
                          refine lv_goto (tgt := 38) hx hb dX8_signsByThemselves_115 (by decide) ?_
                          exact ih38 (j + 1) _ _ _ (by omega) (by omega) (Or.inr (by assumption)) hM hS (lv_sub hl [2, 3, 4, 0] rfl)
                        · refine lv_aload_n hx hb dX8_signsByThemselves_84 rfl (lv_at hl 1 rfl) ?_
                          refine kx_get (v := .ref (a + 1)) hx hb hts hinX8 hown hK hM.1 rfl 1 (by decide) (by decide +kernel) rfl dX8_signsByThemselves_85 ?_
                          refine lv_iconst (v := nI 0) hx hb dX8_signsByThemselves_88 (by decide) ?_
                          refine kx_iald (i := 0) hx hb hK hM.state 0 rfl (by decide) (by decide) dX8_signsByThemselves_89 ?_
                          refine lv_aload_n hx hb dX8_signsByThemselves_90 rfl (lv_at hl 1 rfl) ?_
                          refine lv_iload_n hx hb dX8_signsByThemselves_91 rfl (lv_at hl 4 rfl) ?_
                          refine lv_bipush (v := nI 8) hx hb dX8_signsByThemselves_92 (by decide) ?_
                          refine kx_retP (va_runV (As := [.int (nI (j)), .int (nI (8))]) (rest := [.int (x 0)]) ⟨hx, hb, hml, hown, hts⟩ (k_X8_movePart l D cs a x j 8 (by first | assumption | omega) (by first | assumption | omega)) (cwV 2 hts gX8_signsByThemselves_X8_movePart rfl rfl rfl (by decide +kernel) ⟨Nat.le_of_ble_eq_true rfl, Nat.le_of_ble_eq_true rfl⟩) (kx_preV hK hN hM.1 rfl hM) rfl rfl hl.1 rfl (lv_room (Nat.le_of_ble_eq_true rfl)) dX8_signsByThemselves_94 ⟨Nat.le_of_ble_eq_true rfl, Nat.le_of_ble_eq_true rfl⟩) ?_
                          refine lv_isub hx hb dX8_signsByThemselves_97 ?_
                          refine lv_aload_n hx hb dX8_signsByThemselves_98 rfl (lv_at hl 1 rfl) ?_
                          refine lv_iload_n hx hb dX8_signsByThemselves_99 rfl (lv_at hl 2 rfl) ?_
                          refine lv_iconst (v := nI 2) hx hb dX8_signsByThemselves_100 (by decide) ?_
                          refine kx_retP (va_runV (As := [.int (nI (k)), .int (nI (2))]) (rest := [.int ((x 0) - (x (80 + 10 * j + 8)))]) ⟨hx, hb, hml, hown, hts⟩ (k_X8_ringPart l D cs a x k 2 (by first | assumption | omega) (by first | assumption | omega)) (cwV 2 hts gX8_signsByThemselves_X8_ringPart rfl rfl rfl (by decide +kernel) ⟨Nat.le_of_ble_eq_true rfl, Nat.le_of_ble_eq_true rfl⟩) (kx_preV hK hN hM.1 rfl hM) rfl rfl hl.1 rfl (lv_room (Nat.le_of_ble_eq_true rfl)) dX8_signsByThemselves_101 ⟨Nat.le_of_ble_eq_true rfl, Nat.le_of_ble_eq_true rfl⟩) ?_
                          refine lv_icmp_lt (tgt := 112) hx hb dX8_signsByThemselves_104 (by decide) (fun hpat => ?_) (fun hpat => ?_)
                          · have e9 : sgR k (j + 1) y = x := by
                              show sgS k j (sgR k j y) = _
                              rw [hxd]; first | (simp [sgS, sgC, *]; done) | (exfalso; simp_all [isC]; done)
                            have hM : MdC D (cs 0) a (sgR k (j + 1) y) H := by rw [e9]; exact hM
                            refine lv_iinc (v := nI (j + 1)) (lv' := [(3, .int (nI (j + 1))), (4, .int (bI (isC x k j))), (0, .ref (a)), (1, .int (nI (k))), (2, .int (bI (sgOn y k)))]) (k := 4) hx hb dX8_signsByThemselves_112 hl rfl (nI_add _ _) (by decide) rfl (fun ls hl => ?_)
                            refine lv_goto (tgt := 38) hx hb dX8_signsByThemselves_115 (by decide) ?_
                            exact ih38 (j + 1) _ _ _ (by omega) (by omega) (Or.inr (by assumption)) hM hS (lv_sub hl [2, 3, 4, 0] rfl)
                          · refine lv_aload_n hx hb dX8_signsByThemselves_107 rfl (lv_at hl 1 rfl) ?_
                            refine lv_iload_n hx hb dX8_signsByThemselves_108 rfl (lv_at hl 4 rfl) ?_
                            refine kx_retM (va_runV (As := [.int (nI (j))]) (rest := []) ⟨hx, hb, hml, hown, hts⟩ (k_X8_signMove l D cs a x j (by first | assumption | omega)) (cwV 1 hts gX8_signsByThemselves_X8_signMove rfl rfl rfl (by decide +kernel) ⟨Nat.le_of_ble_eq_true rfl, Nat.le_of_ble_eq_true rfl⟩) (kx_preV hK hN hM.1 rfl hM) rfl rfl hl.1 rfl (lv_room (Nat.le_of_ble_eq_true rfl)) dX8_signsByThemselves_109 ⟨Nat.le_of_ble_eq_true rfl, Nat.le_of_ble_eq_true rfl⟩) hS (fun q _ h => h) (fun q h => h) (fun H locs hM hk hS => ?_)
                            clear hk
                            have e9 : sgR k (j + 1) y = signF x j := by
                              show sgS k j (sgR k j y) = _
                              rw [hxd]; first | (simp [sgS, sgC, *]; done) | (exfalso; simp_all [isC]; done)
                            have hM : MdC D (cs 0) a (sgR k (j + 1) y) H := by rw [e9]; exact hM
                            refine lv_iinc (v := nI (j + 1)) (lv' := [(3, .int (nI (j + 1))), (4, .int (bI (isC x k j))), (0, .ref (a)), (1, .int (nI (k))), (2, .int (bI (sgOn y k)))]) (k := 4) hx hb dX8_signsByThemselves_112 hl rfl (nI_add _ _) (by decide) rfl (fun ls hl => ?_)
                            refine lv_goto (tgt := 38) hx hb dX8_signsByThemselves_115 (by decide) ?_
                            exact ih38 (j + 1) _ _ _ (by omega) (by omega) (Or.inr (by assumption)) hM hS (lv_sub hl [2, 3, 4, 0] rfl)
                      · refine lv_iconst (v := nI 1) hx hb dX8_signsByThemselves_72 (by decide) ?_
                        refine lv_goto (tgt := 77) hx hb dX8_signsByThemselves_73 (by decide) ?_
                        refine kx_ci (x := nI (1)) (y := bI (isC x k j)) (by first | (simp [isC, bI_t, bI_f, *]; done) | (exfalso; omega) | (exfalso; simp_all; done)) ?_
                        refine lv_istore (lv' := [(4, .int (bI (isC x k j))), (0, .ref (a)), (1, .int (nI (k))), (2, .int (bI (sgOn y k))), (3, .int (nI (j)))]) hx hb dX8_signsByThemselves_77 hl (by decide) rfl (fun ls hl => ?_)
                        refine lv_iload hx hb dX8_signsByThemselves_79 (lv_at hl 0 rfl) ?_
                        refine kb_if_eq (tgt := 112) hx hb dX8_signsByThemselves_81 (by decide) (fun c_17 => ?_) (fun c_17 => ?_)
                        · have e9 : sgR k (j + 1) y = x := by
                            show sgS k j (sgR k j y) = _
                            rw [hxd]; first | (simp [sgS, sgC, *]; done) | (exfalso; simp_all [isC]; done)
                          have hM : MdC D (cs 0) a (sgR k (j + 1) y) H := by rw [e9]; exact hM
                          refine lv_iinc (v := nI (j + 1)) (lv' := [(3, .int (nI (j + 1))), (4, .int (bI (isC x k j))), (0, .ref (a)), (1, .int (nI (k))), (2, .int (bI (sgOn y k)))]) (k := 4) hx hb dX8_signsByThemselves_112 hl rfl (nI_add _ _) (by decide) rfl (fun ls hl => ?_)
                          refine lv_goto (tgt := 38) hx hb dX8_signsByThemselves_115 (by decide) ?_
                          exact ih38 (j + 1) _ _ _ (by omega) (by omega) (Or.inr (by assumption)) hM hS (lv_sub hl [2, 3, 4, 0] rfl)
                        · refine lv_aload_n hx hb dX8_signsByThemselves_84 rfl (lv_at hl 1 rfl) ?_
                          refine kx_get (v := .ref (a + 1)) hx hb hts hinX8 hown hK hM.1 rfl 1 (by decide) (by decide +kernel) rfl dX8_signsByThemselves_85 ?_
                          refine lv_iconst (v := nI 0) hx hb dX8_signsByThemselves_88 (by decide) ?_
                          refine kx_iald (i := 0) hx hb hK hM.state 0 rfl (by decide) (by decide) dX8_signsByThemselves_89 ?_
                          refine lv_aload_n hx hb dX8_signsByThemselves_90 rfl (lv_at hl 1 rfl) ?_
                          refine lv_iload_n hx hb dX8_signsByThemselves_91 rfl (lv_at hl 4 rfl) ?_
                          refine lv_bipush (v := nI 8) hx hb dX8_signsByThemselves_92 (by decide) ?_
                          refine kx_retP (va_runV (As := [.int (nI (j)), .int (nI (8))]) (rest := [.int (x 0)]) ⟨hx, hb, hml, hown, hts⟩ (k_X8_movePart l D cs a x j 8 (by first | assumption | omega) (by first | assumption | omega)) (cwV 2 hts gX8_signsByThemselves_X8_movePart rfl rfl rfl (by decide +kernel) ⟨Nat.le_of_ble_eq_true rfl, Nat.le_of_ble_eq_true rfl⟩) (kx_preV hK hN hM.1 rfl hM) rfl rfl hl.1 rfl (lv_room (Nat.le_of_ble_eq_true rfl)) dX8_signsByThemselves_94 ⟨Nat.le_of_ble_eq_true rfl, Nat.le_of_ble_eq_true rfl⟩) ?_
                          refine lv_isub hx hb dX8_signsByThemselves_97 ?_
                          refine lv_aload_n hx hb dX8_signsByThemselves_98 rfl (lv_at hl 1 rfl) ?_
                          refine lv_iload_n hx hb dX8_signsByThemselves_99 rfl (lv_at hl 2 rfl) ?_
                          refine lv_iconst (v := nI 2) hx hb dX8_signsByThemselves_100 (by decide) ?_
                          refine kx_retP (va_runV (As := [.int (nI (k)), .int (nI (2))]) (rest := [.int ((x 0) - (x (80 + 10 * j + 8)))]) ⟨hx, hb, hml, hown, hts⟩ (k_X8_ringPart l D cs a x k 2 (by first | assumption | omega) (by first | assumption | omega)) (cwV 2 hts gX8_signsByThemselves_X8_ringPart rfl rfl rfl (by decide +kernel) ⟨Nat.le_of_ble_eq_true rfl, Nat.le_of_ble_eq_true rfl⟩) (kx_preV hK hN hM.1 rfl hM) rfl rfl hl.1 rfl (lv_room (Nat.le_of_ble_eq_true rfl)) dX8_signsByThemselves_101 ⟨Nat.le_of_ble_eq_true rfl, Nat.le_of_ble_eq_true rfl⟩) ?_
                          refine lv_icmp_lt (tgt := 112) hx hb dX8_signsByThemselves_104 (by decide) (fun hpat => ?_) (fun hpat => ?_)
                          · have e9 : sgR k (j + 1) y = x := by
                              show sgS k j (sgR k j y) = _
                              rw [hxd]; first | (simp [sgS, sgC, *]; done) | (exfalso; simp_all [isC]; done)
                            have hM : MdC D (cs 0) a (sgR k (j + 1) y) H := by rw [e9]; exact hM
                            refine lv_iinc (v := nI (j + 1)) (lv' := [(3, .int (nI (j + 1))), (4, .int (bI (isC x k j))), (0, .ref (a)), (1, .int (nI (k))), (2, .int (bI (sgOn y k)))]) (k := 4) hx hb dX8_signsByThemselves_112 hl rfl (nI_add _ _) (by decide) rfl (fun ls hl => ?_)
                            refine lv_goto (tgt := 38) hx hb dX8_signsByThemselves_115 (by decide) ?_
                            exact ih38 (j + 1) _ _ _ (by omega) (by omega) (Or.inr (by assumption)) hM hS (lv_sub hl [2, 3, 4, 0] rfl)
                          · refine lv_aload_n hx hb dX8_signsByThemselves_107 rfl (lv_at hl 1 rfl) ?_
                            refine lv_iload_n hx hb dX8_signsByThemselves_108 rfl (lv_at hl 4 rfl) ?_
                            refine kx_retM (va_runV (As := [.int (nI (j))]) (rest := []) ⟨hx, hb, hml, hown, hts⟩ (k_X8_signMove l D cs a x j (by first | assumption | omega)) (cwV 1 hts gX8_signsByThemselves_X8_signMove rfl rfl rfl (by decide +kernel) ⟨Nat.le_of_ble_eq_true rfl, Nat.le_of_ble_eq_true rfl⟩) (kx_preV hK hN hM.1 rfl hM) rfl rfl hl.1 rfl (lv_room (Nat.le_of_ble_eq_true rfl)) dX8_signsByThemselves_109 ⟨Nat.le_of_ble_eq_true rfl, Nat.le_of_ble_eq_true rfl⟩) hS (fun q _ h => h) (fun q h => h) (fun H locs hM hk hS => ?_)
                            clear hk
                            have e9 : sgR k (j + 1) y = signF x j := by
                              show sgS k j (sgR k j y) = _
                              rw [hxd]; first | (simp [sgS, sgC, *]; done) | (exfalso; simp_all [isC]; done)
                            have hM : MdC D (cs 0) a (sgR k (j + 1) y) H := by rw [e9]; exact hM
                            refine lv_iinc (v := nI (j + 1)) (lv' := [(3, .int (nI (j + 1))), (4, .int (bI (isC x k j))), (0, .ref (a)), (1, .int (nI (k))), (2, .int (bI (sgOn y k)))]) (k := 4) hx hb dX8_signsByThemselves_112 hl rfl (nI_add _ _) (by decide) rfl (fun ls hl => ?_)
                            refine lv_goto (tgt := 38) hx hb dX8_signsByThemselves_115 (by decide) ?_
                            exact ih38 (j + 1) _ _ _ (by omega) (by omega) (Or.inr (by assumption)) hM hS (lv_sub hl [2, 3, 4, 0] rfl)
            exact J38 _ 0 _ _ _ (Nat.lt_succ_self _) (by omega) (Or.inl rfl) hM hS (lv_sub hl [2, 3, 1, 0] rfl)
          · refine lv_iconst (v := nI 1) hx hb dX8_signsByThemselves_30 (by decide) ?_
            refine lv_goto (tgt := 35) hx hb dX8_signsByThemselves_31 (by decide) ?_
            refine kx_ci (x := nI (1)) (y := bI (sgOn y k)) (by first | (simp [sgOn, bI_t, bI_f, *]; done) | (simp_all [sgOn, bI_t, bI_f]; done)) ?_
            refine lv_istore_n (lv' := [(2, .int (bI (sgOn y k))), (0, .ref (a)), (1, .int (nI (k)))]) hx hb dX8_signsByThemselves_35 rfl hl (by decide) rfl (fun ls hl => ?_)
            refine lv_iconst (v := nI 0) hx hb dX8_signsByThemselves_36 (by decide) ?_
            refine lv_istore_n (lv' := [(3, .int (nI (0))), (2, .int (bI (sgOn y k))), (0, .ref (a)), (1, .int (nI (k)))]) hx hb dX8_signsByThemselves_37 rfl hl (by decide) rfl (fun ls hl => ?_)
            have J38 : ∀ (n38 : Nat) (j : Nat) (H : Heap) (locs : List Loc) (ls : Array Slot), (Mn z - j) < n38 → (j ≤ Mn z) → (j = 0 ∨ sgOn y k = true) → (MdC D (cs 0) a (sgR k j y) H) → va_S ((rgM a)) s.heap H locs → lv_has ls 5 [(0, .ref (a)), (1, .int (nI (k))), (2, .int (bI (sgOn y k))), (3, .int (nI (j)))] → W p l e ({ frames := 2, cells := 0, slots := 0, locals := 44 } : Room) s m args below meth c H locs 0 0 (MQ below (QcM none (fun H => MdC D (cs 0) a (sgF z) H) (rgM a)) args s 0 0 ((rgM a))) (F0 m 38 ls []) := by
              intro n38; induction n38 with
              | zero => intro j H locs ls hmu38 hj hd hM hS hl; exact absurd hmu38 (Nat.not_lt_zero _)
              | succ n38 ih38 =>
                intro j H locs ls hmu38 hj hd hM hS hl
                obtain ⟨x, hxd⟩ : ∃ x, sgR k j y = x := ⟨_, rfl⟩
                have hx' : SI z x := hxd ▸ hy.tr (sgR_si hy.2 k j)
                rw [hxd] at hM
                have hRx := hx'.1.R
                have hMx := hx'.1.M
                refine lv_iload_n hx hb dX8_signsByThemselves_38 rfl (lv_at hl 3 rfl) ?_
                refine lv_aload_n hx hb dX8_signsByThemselves_39 rfl (lv_at hl 0 rfl) ?_
                refine kx_get (v := .ref (a + 1)) hx hb hts hinX8 hown hK hM.1 rfl 1 (by decide) (by decide +kernel) rfl dX8_signsByThemselves_40 ?_
                refine lv_iconst (v := nI 4) hx hb dX8_signsByThemselves_43 (by decide) ?_
                refine kx_iald (i := 4) hx hb hK hM.state 0 rfl (by decide) (by decide) dX8_signsByThemselves_44 ?_
                refine kx_ci (y := nI (Mn x)) (hx'.2).z4 ?_
                refine kn_icmp_ge (tgt := 118) hx hb dX8_signsByThemselves_45 (by decide) (by omega) (by omega) (fun c_18 => ?_) (fun c_18 => ?_)
                · have e9 : sgK z (k + 1) = x := by
                    show sgT (Mn z) k (sgK z k) = _
                    rw [hyd, sg_exit (k := k) (y := y) (j := j) hd (by first | exact Or.inl (by assumption) | exact Or.inr (by omega)), hxd]
                  have hM : MdC D (cs 0) a (sgK z (k + 1)) H := by rw [e9]; exact hM
                  refine lv_iinc (v := nI (k + 1)) (lv' := [(1, .int (nI (k + 1))), (0, .ref (a)), (2, .int (bI (sgOn y k))), (3, .int (nI (j)))]) (k := 1) hx hb dX8_signsByThemselves_118 hl rfl (nI_add _ _) (by decide) rfl (fun ls hl => ?_)
                  refine lv_goto (tgt := 2) hx hb dX8_signsByThemselves_121 (by decide) ?_
                  exact ih2 (k + 1) _ _ _ (by omega) (by omega) hM hS (lv_sub hl [1, 0] rfl)
                · have hjM : j < Mn x := by omega
                  have hs3 := hx'.2.s3 hjM
                  have hmt := hx'.2.mt hjM
                  refine lv_iload_n hx hb dX8_signsByThemselves_48 rfl (lv_at hl 2 rfl) ?_
                  refine kb_if_eq (tgt := 118) hx hb dX8_signsByThemselves_49 (by decide) (fun c_19 => ?_) (fun c_19 => ?_)
                  · have e9 : sgK z (k + 1) = x := by
                      show sgT (Mn z) k (sgK z k) = _
                      rw [hyd, sg_exit (k := k) (y := y) (j := j) hd (by first | exact Or.inl (by assumption) | exact Or.inr (by omega)), hxd]
                    have hM : MdC D (cs 0) a (sgK z (k + 1)) H := by rw [e9]; exact hM
                    refine lv_iinc (v := nI (k + 1)) (lv' := [(1, .int (nI (k + 1))), (0, .ref (a)), (2, .int (bI (sgOn y k))), (3, .int (nI (j)))]) (k := 1) hx hb dX8_signsByThemselves_118 hl rfl (nI_add _ _) (by decide) rfl (fun ls hl => ?_)
                    refine lv_goto (tgt := 2) hx hb dX8_signsByThemselves_121 (by decide) ?_
                    exact ih2 (k + 1) _ _ _ (by omega) (by omega) hM hS (lv_sub hl [1, 0] rfl)
                  · refine lv_aload_n hx hb dX8_signsByThemselves_52 rfl (lv_at hl 0 rfl) ?_
                    refine lv_iload_n hx hb dX8_signsByThemselves_53 rfl (lv_at hl 3 rfl) ?_
                    refine lv_iconst (v := nI 2) hx hb dX8_signsByThemselves_54 (by decide) ?_
                    refine kx_retP (va_runV (As := [.int (nI (j)), .int (nI (2))]) (rest := []) ⟨hx, hb, hml, hown, hts⟩ (k_X8_movePart l D cs a x j 2 (by first | assumption | omega) (by first | assumption | omega)) (cwV 2 hts gX8_signsByThemselves_X8_movePart rfl rfl rfl (by decide +kernel) ⟨Nat.le_of_ble_eq_true rfl, Nat.le_of_ble_eq_true rfl⟩) (kx_preV hK hN hM.1 rfl hM) rfl rfl hl.1 rfl (lv_room (Nat.le_of_ble_eq_true rfl)) dX8_signsByThemselves_55 ⟨Nat.le_of_ble_eq_true rfl, Nat.le_of_ble_eq_true rfl⟩) ?_
                    refine kx_ci (y := nI (mT x j)) (Inv.m2 hx'.2 (by first | assumption | omega)) ?_
                    refine lv_iload_n hx hb dX8_signsByThemselves_58 rfl (lv_at hl 1 rfl) ?_
                    refine kn_icmp_ne (tgt := 76) hx hb dX8_signsByThemselves_59 (by decide) (by omega) (by omega) (fun c_20 => ?_) (fun c_20 => ?_)
                    · refine lv_iconst (v := nI 0) hx hb dX8_signsByThemselves_76 (by decide) ?_
                      refine kx_ci (x := nI (0)) (y := bI (isC x k j)) (by first | (simp [isC, bI_t, bI_f, *]; done) | (exfalso; omega) | (exfalso; simp_all; done)) ?_
                      refine lv_istore (lv' := [(4, .int (bI (isC x k j))), (0, .ref (a)), (1, .int (nI (k))), (2, .int (bI (sgOn y k))), (3, .int (nI (j)))]) hx hb dX8_signsByThemselves_77 hl (by decide) rfl (fun ls hl => ?_)
                      refine lv_iload hx hb dX8_signsByThemselves_79 (lv_at hl 0 rfl) ?_
                      refine kb_if_eq (tgt := 112) hx hb dX8_signsByThemselves_81 (by decide) (fun c_21 => ?_) (fun c_21 => ?_)
                      · have e9 : sgR k (j + 1) y = x := by
                          show sgS k j (sgR k j y) = _
                          rw [hxd]; first | (simp [sgS, sgC, *]; done) | (exfalso; simp_all [isC]; done)
                        have hM : MdC D (cs 0) a (sgR k (j + 1) y) H := by rw [e9]; exact hM
                        refine lv_iinc (v := nI (j + 1)) (lv' := [(3, .int (nI (j + 1))), (4, .int (bI (isC x k j))), (0, .ref (a)), (1, .int (nI (k))), (2, .int (bI (sgOn y k)))]) (k := 4) hx hb dX8_signsByThemselves_112 hl rfl (nI_add _ _) (by decide) rfl (fun ls hl => ?_)
                        refine lv_goto (tgt := 38) hx hb dX8_signsByThemselves_115 (by decide) ?_
                        exact ih38 (j + 1) _ _ _ (by omega) (by omega) (Or.inr (by assumption)) hM hS (lv_sub hl [2, 3, 4, 0] rfl)
                      · refine lv_aload_n hx hb dX8_signsByThemselves_84 rfl (lv_at hl 1 rfl) ?_
                        refine kx_get (v := .ref (a + 1)) hx hb hts hinX8 hown hK hM.1 rfl 1 (by decide) (by decide +kernel) rfl dX8_signsByThemselves_85 ?_
                        refine lv_iconst (v := nI 0) hx hb dX8_signsByThemselves_88 (by decide) ?_
                        refine kx_iald (i := 0) hx hb hK hM.state 0 rfl (by decide) (by decide) dX8_signsByThemselves_89 ?_
                        refine lv_aload_n hx hb dX8_signsByThemselves_90 rfl (lv_at hl 1 rfl) ?_
                        refine lv_iload_n hx hb dX8_signsByThemselves_91 rfl (lv_at hl 4 rfl) ?_
                        refine lv_bipush (v := nI 8) hx hb dX8_signsByThemselves_92 (by decide) ?_
                        refine kx_retP (va_runV (As := [.int (nI (j)), .int (nI (8))]) (rest := [.int (x 0)]) ⟨hx, hb, hml, hown, hts⟩ (k_X8_movePart l D cs a x j 8 (by first | assumption | omega) (by first | assumption | omega)) (cwV 2 hts gX8_signsByThemselves_X8_movePart rfl rfl rfl (by decide +kernel) ⟨Nat.le_of_ble_eq_true rfl, Nat.le_of_ble_eq_true rfl⟩) (kx_preV hK hN hM.1 rfl hM) rfl rfl hl.1 rfl (lv_room (Nat.le_of_ble_eq_true rfl)) dX8_signsByThemselves_94 ⟨Nat.le_of_ble_eq_true rfl, Nat.le_of_ble_eq_true rfl⟩) ?_
                        refine lv_isub hx hb dX8_signsByThemselves_97 ?_
                        refine lv_aload_n hx hb dX8_signsByThemselves_98 rfl (lv_at hl 1 rfl) ?_
                        refine lv_iload_n hx hb dX8_signsByThemselves_99 rfl (lv_at hl 2 rfl) ?_
                        refine lv_iconst (v := nI 2) hx hb dX8_signsByThemselves_100 (by decide) ?_
                        refine kx_retP (va_runV (As := [.int (nI (k)), .int (nI (2))]) (rest := [.int ((x 0) - (x (80 + 10 * j + 8)))]) ⟨hx, hb, hml, hown, hts⟩ (k_X8_ringPart l D cs a x k 2 (by first | assumption | omega) (by first | assumption | omega)) (cwV 2 hts gX8_signsByThemselves_X8_ringPart rfl rfl rfl (by decide +kernel) ⟨Nat.le_of_ble_eq_true rfl, Nat.le_of_ble_eq_true rfl⟩) (kx_preV hK hN hM.1 rfl hM) rfl rfl hl.1 rfl (lv_room (Nat.le_of_ble_eq_true rfl)) dX8_signsByThemselves_101 ⟨Nat.le_of_ble_eq_true rfl, Nat.le_of_ble_eq_true rfl⟩) ?_
                        refine lv_icmp_lt (tgt := 112) hx hb dX8_signsByThemselves_104 (by decide) (fun hpat => ?_) (fun hpat => ?_)
                        · have e9 : sgR k (j + 1) y = x := by
                            show sgS k j (sgR k j y) = _
                            rw [hxd]; first | (simp [sgS, sgC, *]; done) | (exfalso; simp_all [isC]; done)
                          have hM : MdC D (cs 0) a (sgR k (j + 1) y) H := by rw [e9]; exact hM
                          refine lv_iinc (v := nI (j + 1)) (lv' := [(3, .int (nI (j + 1))), (4, .int (bI (isC x k j))), (0, .ref (a)), (1, .int (nI (k))), (2, .int (bI (sgOn y k)))]) (k := 4) hx hb dX8_signsByThemselves_112 hl rfl (nI_add _ _) (by decide) rfl (fun ls hl => ?_)
                          refine lv_goto (tgt := 38) hx hb dX8_signsByThemselves_115 (by decide) ?_
                          exact ih38 (j + 1) _ _ _ (by omega) (by omega) (Or.inr (by assumption)) hM hS (lv_sub hl [2, 3, 4, 0] rfl)
                        · refine lv_aload_n hx hb dX8_signsByThemselves_107 rfl (lv_at hl 1 rfl) ?_
                          refine lv_iload_n hx hb dX8_signsByThemselves_108 rfl (lv_at hl 4 rfl) ?_
                          refine kx_retM (va_runV (As := [.int (nI (j))]) (rest := []) ⟨hx, hb, hml, hown, hts⟩ (k_X8_signMove l D cs a x j (by first | assumption | omega)) (cwV 1 hts gX8_signsByThemselves_X8_signMove rfl rfl rfl (by decide +kernel) ⟨Nat.le_of_ble_eq_true rfl, Nat.le_of_ble_eq_true rfl⟩) (kx_preV hK hN hM.1 rfl hM) rfl rfl hl.1 rfl (lv_room (Nat.le_of_ble_eq_true rfl)) dX8_signsByThemselves_109 ⟨Nat.le_of_ble_eq_true rfl, Nat.le_of_ble_eq_true rfl⟩) hS (fun q _ h => h) (fun q h => h) (fun H locs hM hk hS => ?_)
                          clear hk
                          have e9 : sgR k (j + 1) y = signF x j := by
                            show sgS k j (sgR k j y) = _
                            rw [hxd]; first | (simp [sgS, sgC, *]; done) | (exfalso; simp_all [isC]; done)
                          have hM : MdC D (cs 0) a (sgR k (j + 1) y) H := by rw [e9]; exact hM
                          refine lv_iinc (v := nI (j + 1)) (lv' := [(3, .int (nI (j + 1))), (4, .int (bI (isC x k j))), (0, .ref (a)), (1, .int (nI (k))), (2, .int (bI (sgOn y k)))]) (k := 4) hx hb dX8_signsByThemselves_112 hl rfl (nI_add _ _) (by decide) rfl (fun ls hl => ?_)
                          refine lv_goto (tgt := 38) hx hb dX8_signsByThemselves_115 (by decide) ?_
                          exact ih38 (j + 1) _ _ _ (by omega) (by omega) (Or.inr (by assumption)) hM hS (lv_sub hl [2, 3, 4, 0] rfl)
                    · refine lv_aload_n hx hb dX8_signsByThemselves_62 rfl (lv_at hl 0 rfl) ?_
                      refine lv_iload_n hx hb dX8_signsByThemselves_63 rfl (lv_at hl 3 rfl) ?_
                      refine lv_iconst (v := nI 5) hx hb dX8_signsByThemselves_64 (by decide) ?_
                      refine kx_retP (va_runV (As := [.int (nI (j)), .int (nI (5))]) (rest := []) ⟨hx, hb, hml, hown, hts⟩ (k_X8_movePart l D cs a x j 5 (by first | assumption | omega) (by first | assumption | omega)) (cwV 2 hts gX8_signsByThemselves_X8_movePart rfl rfl rfl (by decide +kernel) ⟨Nat.le_of_ble_eq_true rfl, Nat.le_of_ble_eq_true rfl⟩) (kx_preV hK hN hM.1 rfl hM) rfl rfl hl.1 rfl (lv_room (Nat.le_of_ble_eq_true rfl)) dX8_signsByThemselves_65 ⟨Nat.le_of_ble_eq_true rfl, Nat.le_of_ble_eq_true rfl⟩) ?_
                      refine kx_ci (y := nI (mS x j)) (Inv.m5 hx'.2 (by first | assumption | omega)) ?_
                      refine lv_iconst (v := nI 2) hx hb dX8_signsByThemselves_68 (by decide) ?_
                      refine kn_icmp_ne (tgt := 76) hx hb dX8_signsByThemselves_69 (by decide) (by omega) (by decide) (fun c_22 => ?_) (fun c_22 => ?_)
                      · refine lv_iconst (v := nI 0) hx hb dX8_signsByThemselves_76 (by decide) ?_
                        refine kx_ci (x := nI (0)) (y := bI (isC x k j)) (by first | (simp [isC, bI_t, bI_f, *]; done) | (exfalso; omega) | (exfalso; simp_all; done)) ?_
                        refine lv_istore (lv' := [(4, .int (bI (isC x k j))), (0, .ref (a)), (1, .int (nI (k))), (2, .int (bI (sgOn y k))), (3, .int (nI (j)))]) hx hb dX8_signsByThemselves_77 hl (by decide) rfl (fun ls hl => ?_)
                        refine lv_iload hx hb dX8_signsByThemselves_79 (lv_at hl 0 rfl) ?_
                        refine kb_if_eq (tgt := 112) hx hb dX8_signsByThemselves_81 (by decide) (fun c_23 => ?_) (fun c_23 => ?_)
                        · have e9 : sgR k (j + 1) y = x := by
                            show sgS k j (sgR k j y) = _
                            rw [hxd]; first | (simp [sgS, sgC, *]; done) | (exfalso; simp_all [isC]; done)
                          have hM : MdC D (cs 0) a (sgR k (j + 1) y) H := by rw [e9]; exact hM
                          refine lv_iinc (v := nI (j + 1)) (lv' := [(3, .int (nI (j + 1))), (4, .int (bI (isC x k j))), (0, .ref (a)), (1, .int (nI (k))), (2, .int (bI (sgOn y k)))]) (k := 4) hx hb dX8_signsByThemselves_112 hl rfl (nI_add _ _) (by decide) rfl (fun ls hl => ?_)
                          refine lv_goto (tgt := 38) hx hb dX8_signsByThemselves_115 (by decide) ?_
                          exact ih38 (j + 1) _ _ _ (by omega) (by omega) (Or.inr (by assumption)) hM hS (lv_sub hl [2, 3, 4, 0] rfl)
                        · refine lv_aload_n hx hb dX8_signsByThemselves_84 rfl (lv_at hl 1 rfl) ?_
                          refine kx_get (v := .ref (a + 1)) hx hb hts hinX8 hown hK hM.1 rfl 1 (by decide) (by decide +kernel) rfl dX8_signsByThemselves_85 ?_
                          refine lv_iconst (v := nI 0) hx hb dX8_signsByThemselves_88 (by decide) ?_
                          refine kx_iald (i := 0) hx hb hK hM.state 0 rfl (by decide) (by decide) dX8_signsByThemselves_89 ?_
                          refine lv_aload_n hx hb dX8_signsByThemselves_90 rfl (lv_at hl 1 rfl) ?_
                          refine lv_iload_n hx hb dX8_signsByThemselves_91 rfl (lv_at hl 4 rfl) ?_
                          refine lv_bipush (v := nI 8) hx hb dX8_signsByThemselves_92 (by decide) ?_
                          refine kx_retP (va_runV (As := [.int (nI (j)), .int (nI (8))]) (rest := [.int (x 0)]) ⟨hx, hb, hml, hown, hts⟩ (k_X8_movePart l D cs a x j 8 (by first | assumption | omega) (by first | assumption | omega)) (cwV 2 hts gX8_signsByThemselves_X8_movePart rfl rfl rfl (by decide +kernel) ⟨Nat.le_of_ble_eq_true rfl, Nat.le_of_ble_eq_true rfl⟩) (kx_preV hK hN hM.1 rfl hM) rfl rfl hl.1 rfl (lv_room (Nat.le_of_ble_eq_true rfl)) dX8_signsByThemselves_94 ⟨Nat.le_of_ble_eq_true rfl, Nat.le_of_ble_eq_true rfl⟩) ?_
                          refine lv_isub hx hb dX8_signsByThemselves_97 ?_
                          refine lv_aload_n hx hb dX8_signsByThemselves_98 rfl (lv_at hl 1 rfl) ?_
                          refine lv_iload_n hx hb dX8_signsByThemselves_99 rfl (lv_at hl 2 rfl) ?_
                          refine lv_iconst (v := nI 2) hx hb dX8_signsByThemselves_100 (by decide) ?_
                          refine kx_retP (va_runV (As := [.int (nI (k)), .int (nI (2))]) (rest := [.int ((x 0) - (x (80 + 10 * j + 8)))]) ⟨hx, hb, hml, hown, hts⟩ (k_X8_ringPart l D cs a x k 2 (by first | assumption | omega) (by first | assumption | omega)) (cwV 2 hts gX8_signsByThemselves_X8_ringPart rfl rfl rfl (by decide +kernel) ⟨Nat.le_of_ble_eq_true rfl, Nat.le_of_ble_eq_true rfl⟩) (kx_preV hK hN hM.1 rfl hM) rfl rfl hl.1 rfl (lv_room (Nat.le_of_ble_eq_true rfl)) dX8_signsByThemselves_101 ⟨Nat.le_of_ble_eq_true rfl, Nat.le_of_ble_eq_true rfl⟩) ?_
                          refine lv_icmp_lt (tgt := 112) hx hb dX8_signsByThemselves_104 (by decide) (fun hpat => ?_) (fun hpat => ?_)
                          · have e9 : sgR k (j + 1) y = x := by
                              show sgS k j (sgR k j y) = _
                              rw [hxd]; first | (simp [sgS, sgC, *]; done) | (exfalso; simp_all [isC]; done)
                            have hM : MdC D (cs 0) a (sgR k (j + 1) y) H := by rw [e9]; exact hM
                            refine lv_iinc (v := nI (j + 1)) (lv' := [(3, .int (nI (j + 1))), (4, .int (bI (isC x k j))), (0, .ref (a)), (1, .int (nI (k))), (2, .int (bI (sgOn y k)))]) (k := 4) hx hb dX8_signsByThemselves_112 hl rfl (nI_add _ _) (by decide) rfl (fun ls hl => ?_)
                            refine lv_goto (tgt := 38) hx hb dX8_signsByThemselves_115 (by decide) ?_
                            exact ih38 (j + 1) _ _ _ (by omega) (by omega) (Or.inr (by assumption)) hM hS (lv_sub hl [2, 3, 4, 0] rfl)
                          · refine lv_aload_n hx hb dX8_signsByThemselves_107 rfl (lv_at hl 1 rfl) ?_
                            refine lv_iload_n hx hb dX8_signsByThemselves_108 rfl (lv_at hl 4 rfl) ?_
                            refine kx_retM (va_runV (As := [.int (nI (j))]) (rest := []) ⟨hx, hb, hml, hown, hts⟩ (k_X8_signMove l D cs a x j (by first | assumption | omega)) (cwV 1 hts gX8_signsByThemselves_X8_signMove rfl rfl rfl (by decide +kernel) ⟨Nat.le_of_ble_eq_true rfl, Nat.le_of_ble_eq_true rfl⟩) (kx_preV hK hN hM.1 rfl hM) rfl rfl hl.1 rfl (lv_room (Nat.le_of_ble_eq_true rfl)) dX8_signsByThemselves_109 ⟨Nat.le_of_ble_eq_true rfl, Nat.le_of_ble_eq_true rfl⟩) hS (fun q _ h => h) (fun q h => h) (fun H locs hM hk hS => ?_)
                            clear hk
                            have e9 : sgR k (j + 1) y = signF x j := by
                              show sgS k j (sgR k j y) = _
                              rw [hxd]; first | (simp [sgS, sgC, *]; done) | (exfalso; simp_all [isC]; done)
                            have hM : MdC D (cs 0) a (sgR k (j + 1) y) H := by rw [e9]; exact hM
                            refine lv_iinc (v := nI (j + 1)) (lv' := [(3, .int (nI (j + 1))), (4, .int (bI (isC x k j))), (0, .ref (a)), (1, .int (nI (k))), (2, .int (bI (sgOn y k)))]) (k := 4) hx hb dX8_signsByThemselves_112 hl rfl (nI_add _ _) (by decide) rfl (fun ls hl => ?_)
                            refine lv_goto (tgt := 38) hx hb dX8_signsByThemselves_115 (by decide) ?_
                            exact ih38 (j + 1) _ _ _ (by omega) (by omega) (Or.inr (by assumption)) hM hS (lv_sub hl [2, 3, 4, 0] rfl)
                      · refine lv_iconst (v := nI 1) hx hb dX8_signsByThemselves_72 (by decide) ?_
                        refine lv_goto (tgt := 77) hx hb dX8_signsByThemselves_73 (by decide) ?_
                        refine kx_ci (x := nI (1)) (y := bI (isC x k j)) (by first | (simp [isC, bI_t, bI_f, *]; done) | (exfalso; omega) | (exfalso; simp_all; done)) ?_
                        refine lv_istore (lv' := [(4, .int (bI (isC x k j))), (0, .ref (a)), (1, .int (nI (k))), (2, .int (bI (sgOn y k))), (3, .int (nI (j)))]) hx hb dX8_signsByThemselves_77 hl (by decide) rfl (fun ls hl => ?_)
                        refine lv_iload hx hb dX8_signsByThemselves_79 (lv_at hl 0 rfl) ?_
                        refine kb_if_eq (tgt := 112) hx hb dX8_signsByThemselves_81 (by decide) (fun c_24 => ?_) (fun c_24 => ?_)
                        · have e9 : sgR k (j + 1) y = x := by
                            show sgS k j (sgR k j y) = _
                            rw [hxd]; first | (simp [sgS, sgC, *]; done) | (exfalso; simp_all [isC]; done)
                          have hM : MdC D (cs 0) a (sgR k (j + 1) y) H := by rw [e9]; exact hM
                          refine lv_iinc (v := nI (j + 1)) (lv' := [(3, .int (nI (j + 1))), (4, .int (bI (isC x k j))), (0, .ref (a)), (1, .int (nI (k))), (2, .int (bI (sgOn y k)))]) (k := 4) hx hb dX8_signsByThemselves_112 hl rfl (nI_add _ _) (by decide) rfl (fun ls hl => ?_)
                          refine lv_goto (tgt := 38) hx hb dX8_signsByThemselves_115 (by decide) ?_
                          exact ih38 (j + 1) _ _ _ (by omega) (by omega) (Or.inr (by assumption)) hM hS (lv_sub hl [2, 3, 4, 0] rfl)
                        · refine lv_aload_n hx hb dX8_signsByThemselves_84 rfl (lv_at hl 1 rfl) ?_
                          refine kx_get (v := .ref (a + 1)) hx hb hts hinX8 hown hK hM.1 rfl 1 (by decide) (by decide +kernel) rfl dX8_signsByThemselves_85 ?_
                          refine lv_iconst (v := nI 0) hx hb dX8_signsByThemselves_88 (by decide) ?_
                          refine kx_iald (i := 0) hx hb hK hM.state 0 rfl (by decide) (by decide) dX8_signsByThemselves_89 ?_
                          refine lv_aload_n hx hb dX8_signsByThemselves_90 rfl (lv_at hl 1 rfl) ?_
                          refine lv_iload_n hx hb dX8_signsByThemselves_91 rfl (lv_at hl 4 rfl) ?_
                          refine lv_bipush (v := nI 8) hx hb dX8_signsByThemselves_92 (by decide) ?_
                          refine kx_retP (va_runV (As := [.int (nI (j)), .int (nI (8))]) (rest := [.int (x 0)]) ⟨hx, hb, hml, hown, hts⟩ (k_X8_movePart l D cs a x j 8 (by first | assumption | omega) (by first | assumption | omega)) (cwV 2 hts gX8_signsByThemselves_X8_movePart rfl rfl rfl (by decide +kernel) ⟨Nat.le_of_ble_eq_true rfl, Nat.le_of_ble_eq_true rfl⟩) (kx_preV hK hN hM.1 rfl hM) rfl rfl hl.1 rfl (lv_room (Nat.le_of_ble_eq_true rfl)) dX8_signsByThemselves_94 ⟨Nat.le_of_ble_eq_true rfl, Nat.le_of_ble_eq_true rfl⟩) ?_
                          refine lv_isub hx hb dX8_signsByThemselves_97 ?_
                          refine lv_aload_n hx hb dX8_signsByThemselves_98 rfl (lv_at hl 1 rfl) ?_
                          refine lv_iload_n hx hb dX8_signsByThemselves_99 rfl (lv_at hl 2 rfl) ?_
                          refine lv_iconst (v := nI 2) hx hb dX8_signsByThemselves_100 (by decide) ?_
                          refine kx_retP (va_runV (As := [.int (nI (k)), .int (nI (2))]) (rest := [.int ((x 0) - (x (80 + 10 * j + 8)))]) ⟨hx, hb, hml, hown, hts⟩ (k_X8_ringPart l D cs a x k 2 (by first | assumption | omega) (by first | assumption | omega)) (cwV 2 hts gX8_signsByThemselves_X8_ringPart rfl rfl rfl (by decide +kernel) ⟨Nat.le_of_ble_eq_true rfl, Nat.le_of_ble_eq_true rfl⟩) (kx_preV hK hN hM.1 rfl hM) rfl rfl hl.1 rfl (lv_room (Nat.le_of_ble_eq_true rfl)) dX8_signsByThemselves_101 ⟨Nat.le_of_ble_eq_true rfl, Nat.le_of_ble_eq_true rfl⟩) ?_
                          refine lv_icmp_lt (tgt := 112) hx hb dX8_signsByThemselves_104 (by decide) (fun hpat => ?_) (fun hpat => ?_)
                          · have e9 : sgR k (j + 1) y = x := by
                              show sgS k j (sgR k j y) = _
                              rw [hxd]; first | (simp [sgS, sgC, *]; done) | (exfalso; simp_all [isC]; done)
                            have hM : MdC D (cs 0) a (sgR k (j + 1) y) H := by rw [e9]; exact hM
                            refine lv_iinc (v := nI (j + 1)) (lv' := [(3, .int (nI (j + 1))), (4, .int (bI (isC x k j))), (0, .ref (a)), (1, .int (nI (k))), (2, .int (bI (sgOn y k)))]) (k := 4) hx hb dX8_signsByThemselves_112 hl rfl (nI_add _ _) (by decide) rfl (fun ls hl => ?_)
                            refine lv_goto (tgt := 38) hx hb dX8_signsByThemselves_115 (by decide) ?_
                            exact ih38 (j + 1) _ _ _ (by omega) (by omega) (Or.inr (by assumption)) hM hS (lv_sub hl [2, 3, 4, 0] rfl)
                          · refine lv_aload_n hx hb dX8_signsByThemselves_107 rfl (lv_at hl 1 rfl) ?_
                            refine lv_iload_n hx hb dX8_signsByThemselves_108 rfl (lv_at hl 4 rfl) ?_
                            refine kx_retM (va_runV (As := [.int (nI (j))]) (rest := []) ⟨hx, hb, hml, hown, hts⟩ (k_X8_signMove l D cs a x j (by first | assumption | omega)) (cwV 1 hts gX8_signsByThemselves_X8_signMove rfl rfl rfl (by decide +kernel) ⟨Nat.le_of_ble_eq_true rfl, Nat.le_of_ble_eq_true rfl⟩) (kx_preV hK hN hM.1 rfl hM) rfl rfl hl.1 rfl (lv_room (Nat.le_of_ble_eq_true rfl)) dX8_signsByThemselves_109 ⟨Nat.le_of_ble_eq_true rfl, Nat.le_of_ble_eq_true rfl⟩) hS (fun q _ h => h) (fun q h => h) (fun H locs hM hk hS => ?_)
                            clear hk
                            have e9 : sgR k (j + 1) y = signF x j := by
                              show sgS k j (sgR k j y) = _
                              rw [hxd]; first | (simp [sgS, sgC, *]; done) | (exfalso; simp_all [isC]; done)
                            have hM : MdC D (cs 0) a (sgR k (j + 1) y) H := by rw [e9]; exact hM
                            refine lv_iinc (v := nI (j + 1)) (lv' := [(3, .int (nI (j + 1))), (4, .int (bI (isC x k j))), (0, .ref (a)), (1, .int (nI (k))), (2, .int (bI (sgOn y k)))]) (k := 4) hx hb dX8_signsByThemselves_112 hl rfl (nI_add _ _) (by decide) rfl (fun ls hl => ?_)
                            refine lv_goto (tgt := 38) hx hb dX8_signsByThemselves_115 (by decide) ?_
                            exact ih38 (j + 1) _ _ _ (by omega) (by omega) (Or.inr (by assumption)) hM hS (lv_sub hl [2, 3, 4, 0] rfl)
            exact J38 _ 0 _ _ _ (Nat.lt_succ_self _) (by omega) (Or.inl rfl) hM hS (lv_sub hl [2, 3, 1, 0] rfl)
  exact J2 _ 0 _ _ _ (Nat.lt_succ_self _) (by omega) hM hS (lv_sub hl [1, 0] rfl)
