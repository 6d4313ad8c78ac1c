set_option maxHeartbeats 2500000 in
set_option maxRecDepth 100000 in
theorem k_X3_copyFrom (l : Launch) (D : va_G) (cs : Nat → ClassId) (q : Nat) (e : Nat → Int32) (g : Nat → Int64) (q2 : Nat) (e2 : Nat → Int32) (g2 : Nat → Int64) (mv m2 : Nat) (hm : mv < 24) (hm2 : m2 < 24) (hd : q + 59 ≤ q2 ∨ q2 + 59 ≤ q) : Met l yX3_copyFrom wsX3_copyFrom ({ frames := 1, cells := 0, slots := 0, locals := 48 } : Room) (PcK D cs [.ref (q + 11 + 2 * mv), .ref (q2 + 11 + 2 * m2)] (fun H => StC D cs q e g H ∧ StC D cs q2 e2 g2 H)) (QcM none (fun H => StC D cs q (mv2 e e2 mv m2) (mg2 g g2 mv m2) H) (rgS q)) 0 0 ((rgS q)) := by
  refine kx_met (cc := cX3_copyFrom) (maxL := 2) (ret := none) (by decide) rfl (Nat.le_of_ble_eq_true rfl) ?_
  intro p en s m args below meth c hx hb hml hrt hts hown hlk hK hN hP ls hl
  have hl : lv_has ls 2 [(0, .ref (q + 11 + 2 * mv)), (1, .ref (q2 + 11 + 2 * m2))] := hl
  obtain ⟨H, hHe⟩ : ∃ H : Heap, H = s.heap := ⟨_, rfl⟩
  rw [← hHe] at hP ⊢
  have hS : va_S ((rgS q)) s.heap H [] := by rw [← hHe]; exact va_S.rf
  have hinX3 : ∀ w ∈ wsX30, w ∈ wsX3_copyFrom := by decide +kernel
  have hM := hP.1
  have hM2 := hP.2
  refine lv_aload_n hx hb dX3_copyFrom_0 rfl (lv_at hl 0 rfl) ?_
  refine lv_aload_n hx hb dX3_copyFrom_1 rfl (lv_at hl 1 rfl) ?_
  refine kx_get (v := .int (e2 (80 + 10 * m2 + 0))) hx hb hts hinX3 hown hK (hM2.mv (m := m2) (by omega)) rfl 0 (by decide) (by decide +kernel) rfl dX3_copyFrom_2 ?_
  refine kx_put hx hb hts hinX3 tyX3_ok nmX3 hown hK (hM.mv (m := mv) (by omega)) rfl hS ⟨by omega, by omega⟩ 0 (by decide) (by decide +kernel) rfl rfl rfl (Nat.le_of_ble_eq_true rfl) dX3_copyFrom_5 (fun H locs hc hU hS => ?_)
  have hM := hM.put_from (m := mv) (by omega) hc hU
  have hM2 := hM2.off hU (by omega)
  clear hc hU
  refine lv_aload_n hx hb dX3_copyFrom_8 rfl (lv_at hl 0 rfl) ?_
  refine lv_aload_n hx hb dX3_copyFrom_9 rfl (lv_at hl 1 rfl) ?_
  refine kx_get (v := .int (e2 (80 + 10 * m2 + 1))) hx hb hts hinX3 hown hK (hM2.mv (m := m2) (by omega)) rfl 1 (by decide) (by decide +kernel) rfl dX3_copyFrom_10 ?_
  refine kx_put hx hb hts hinX3 tyX3_ok nmX3 hown hK (hM.mv (m := mv) (by omega)) rfl hS ⟨by omega, by omega⟩ 1 (by decide) (by decide +kernel) rfl rfl rfl (Nat.le_of_ble_eq_true rfl) dX3_copyFrom_13 (fun H locs hc hU hS => ?_)
  have hM := hM.put_fromPlace (m := mv) (by omega) hc hU
  have hM2 := hM2.off hU (by omega)
  clear hc hU
  refine lv_aload_n hx hb dX3_copyFrom_16 rfl (lv_at hl 0 rfl) ?_
  refine lv_aload_n hx hb dX3_copyFrom_17 rfl (lv_at hl 1 rfl) ?_
  refine kx_get (v := .int (e2 (80 + 10 * m2 + 2))) hx hb hts hinX3 hown hK (hM2.mv (m := m2) (by omega)) rfl 2 (by decide) (by decide +kernel) rfl dX3_copyFrom_18 ?_
  refine kx_put hx hb hts hinX3 tyX3_ok nmX3 hown hK (hM.mv (m := mv) (by omega)) rfl hS ⟨by omega, by omega⟩ 2 (by decide) (by decide +kernel) rfl rfl rfl (Nat.le_of_ble_eq_true rfl) dX3_copyFrom_21 (fun H locs hc hU hS => ?_)
  have hM := hM.put_to (m := mv) (by omega) hc hU
  have hM2 := hM2.off hU (by omega)
  clear hc hU
  refine lv_aload_n hx hb dX3_copyFrom_24 rfl (lv_at hl 0 rfl) ?_
  refine lv_aload_n hx hb dX3_copyFrom_25 rfl (lv_at hl 1 rfl) ?_
  refine kx_get (v := .int (e2 (80 + 10 * m2 + 3))) hx hb hts hinX3 hown hK (hM2.mv (m := m2) (by omega)) rfl 3 (by decide) (by decide +kernel) rfl dX3_copyFrom_26 ?_
  refine kx_put hx hb hts hinX3 tyX3_ok nmX3 hown hK (hM.mv (m := mv) (by omega)) rfl hS ⟨by omega, by omega⟩ 3 (by decide) (by decide +kernel) rfl rfl rfl (Nat.le_of_ble_eq_true rfl) dX3_copyFrom_29 (fun H locs hc hU hS => ?_)
  have hM := hM.put_toPlace (m := mv) (by omega) hc hU
  have hM2 := hM2.off hU (by omega)
  clear hc hU
  refine lv_aload_n hx hb dX3_copyFrom_32 rfl (lv_at hl 0 rfl) ?_
  refine lv_aload_n hx hb dX3_copyFrom_33 rfl (lv_at hl 1 rfl) ?_
  refine kx_get (v := .int (e2 (80 + 10 * m2 + 4))) hx hb hts hinX3 hown hK (hM2.mv (m := m2) (by omega)) rfl 4 (by decide) (by decide +kernel) rfl dX3_copyFrom_34 ?_
  refine kx_put hx hb hts hinX3 tyX3_ok nmX3 hown hK (hM.mv (m := mv) (by omega)) rfl hS ⟨by omega, by omega⟩ 4 (by decide) (by decide +kernel) rfl rfl rfl (Nat.le_of_ble_eq_true rfl) dX3_copyFrom_37 (fun H locs hc hU hS => ?_)
  have hM := hM.put_count (m := mv) (by omega) hc hU
  have hM2 := hM2.off hU (by omega)
  clear hc hU
  refine lv_aload_n hx hb dX3_copyFrom_40 rfl (lv_at hl 0 rfl) ?_
  refine lv_aload_n hx hb dX3_copyFrom_41 rfl (lv_at hl 1 rfl) ?_
  refine kx_get (v := .long (g2 (2 * m2))) hx hb hts hinX3 hown hK (hM2.mv (m := m2) (by omega)) rfl 5 (by decide) (by decide +kernel) rfl dX3_copyFrom_42 ?_
  refine kx_put hx hb hts hinX3 tyX3_ok nmX3 hown hK (hM.mv (m := mv) (by omega)) rfl hS ⟨by omega, by omega⟩ 5 (by decide) (by decide +kernel) rfl rfl rfl (Nat.le_of_ble_eq_true rfl) dX3_copyFrom_45 (fun H locs hc hU hS => ?_)
  have hM := hM.put_sources (m := mv) (by omega) hc hU
  have hM2 := hM2.off hU (by omega)
  clear hc hU
  refine lv_aload_n hx hb dX3_copyFrom_48 rfl (lv_at hl 0 rfl) ?_
  refine lv_aload_n hx hb dX3_copyFrom_49 rfl (lv_at hl 1 rfl) ?_
  refine kx_get (v := .long (g2 (2 * m2 + 1))) hx hb hts hinX3 hown hK (hM2.mv (m := m2) (by omega)) rfl 6 (by decide) (by decide +kernel) rfl dX3_copyFrom_50 ?_
  refine kx_put hx hb hts hinX3 tyX3_ok nmX3 hown hK (hM.mv (m := mv) (by omega)) rfl hS ⟨by omega, by omega⟩ 6 (by decide) (by decide +kernel) rfl rfl rfl (Nat.le_of_ble_eq_true rfl) dX3_copyFrom_53 (fun H locs hc hU hS => ?_)
  have hM := hM.put_targets (m := mv) (by omega) hc hU
  have hM2 := hM2.off hU (by omega)
  clear hc hU
  refine lv_aload_n hx hb dX3_copyFrom_56 rfl (lv_at hl 0 rfl) ?_
  refine lv_aload_n hx hb dX3_copyFrom_57 rfl (lv_at hl 1 rfl) ?_
  refine kx_get (v := .int (e2 (80 + 10 * m2 + 5))) hx hb hts hinX3 hown hK (hM2.mv (m := m2) (by omega)) rfl 7 (by decide) (by decide +kernel) rfl dX3_copyFrom_58 ?_
  refine kx_put hx hb hts hinX3 tyX3_ok nmX3 hown hK (hM.mv (m := mv) (by omega)) rfl hS ⟨by omega, by omega⟩ 7 (by decide) (by decide +kernel) rfl rfl rfl (Nat.le_of_ble_eq_true rfl) dX3_copyFrom_61 (fun H locs hc hU hS => ?_)
  have hM := hM.put_phase (m := mv) (by omega) hc hU
  have hM2 := hM2.off hU (by omega)
  clear hc hU
  refine lv_aload_n hx hb dX3_copyFrom_64 rfl (lv_at hl 0 rfl) ?_
  refine lv_aload_n hx hb dX3_copyFrom_65 rfl (lv_at hl 1 rfl) ?_
  refine kx_get (v := .int (e2 (80 + 10 * m2 + 6))) hx hb hts hinX3 hown hK (hM2.mv (m := m2) (by omega)) rfl 8 (by decide) (by decide +kernel) rfl dX3_copyFrom_66 ?_
  refine kx_put hx hb hts hinX3 tyX3_ok nmX3 hown hK (hM.mv (m := mv) (by omega)) rfl hS ⟨by omega, by omega⟩ 8 (by decide) (by decide +kernel) rfl rfl rfl (Nat.le_of_ble_eq_true rfl) dX3_copyFrom_69 (fun H locs hc hU hS => ?_)
  have hM := hM.put_written (m := mv) (by omega) hc hU
  have hM2 := hM2.off hU (by omega)
  clear hc hU
  refine lv_aload_n hx hb dX3_copyFrom_72 rfl (lv_at hl 0 rfl) ?_
  refine lv_aload_n hx hb dX3_copyFrom_73 rfl (lv_at hl 1 rfl) ?_
  refine kx_get (v := .int (e2 (80 + 10 * m2 + 7))) hx hb hts hinX3 hown hK (hM2.mv (m := m2) (by omega)) rfl 9 (by decide) (by decide +kernel) rfl dX3_copyFrom_74 ?_
  refine kx_put hx hb hts hinX3 tyX3_ok nmX3 hown hK (hM.mv (m := mv) (by omega)) rfl hS ⟨by omega, by omega⟩ 9 (by decide) (by decide +kernel) rfl rfl rfl (Nat.le_of_ble_eq_true rfl) dX3_copyFrom_77 (fun H locs hc hU hS => ?_)
  have hM := hM.put_started (m := mv) (by omega) hc hU
  have hM2 := hM2.off hU (by omega)
  clear hc hU
  refine lv_aload_n hx hb dX3_copyFrom_80 rfl (lv_at hl 0 rfl) ?_
  refine lv_aload_n hx hb dX3_copyFrom_81 rfl (lv_at hl 1 rfl) ?_
  refine kx_get (v := .int (e2 (80 + 10 * m2 + 8))) hx hb hts hinX3 hown hK (hM2.mv (m := m2) (by omega)) rfl 10 (by decide) (by decide +kernel) rfl dX3_copyFrom_82 ?_
  refine kx_put hx hb hts hinX3 tyX3_ok nmX3 hown hK (hM.mv (m := mv) (by omega)) rfl hS ⟨by omega, by omega⟩ 10 (by decide) (by decide +kernel) rfl rfl rfl (Nat.le_of_ble_eq_true rfl) dX3_copyFrom_85 (fun H locs hc hU hS => ?_)
  have hM := hM.put_copied (m := mv) (by omega) hc hU
  have hM2 := hM2.off hU (by omega)
  clear hc hU
  refine lv_aload_n hx hb dX3_copyFrom_88 rfl (lv_at hl 0 rfl) ?_
  refine lv_aload_n hx hb dX3_copyFrom_89 rfl (lv_at hl 1 rfl) ?_
  refine kx_get (v := .int (e2 (80 + 10 * m2 + 9))) hx hb hts hinX3 hown hK (hM2.mv (m := m2) (by omega)) rfl 11 (by decide) (by decide +kernel) rfl dX3_copyFrom_90 ?_
  refine kx_put hx hb hts hinX3 tyX3_ok nmX3 hown hK (hM.mv (m := mv) (by omega)) rfl hS ⟨by omega, by omega⟩ 11 (by decide) (by decide +kernel) rfl rfl rfl (Nat.le_of_ble_eq_true rfl) dX3_copyFrom_93 (fun H locs hc hU hS => ?_)
  have hM := hM.put_signed (m := mv) (by omega) hc hU
  have hM2 := hM2.off hU (by omega)
  clear hc hU
  refine lv_aload_n hx hb dX3_copyFrom_96 rfl (lv_at hl 1 rfl) ?_
  refine kx_get (v := .ref (q2 + 12 + 2 * m2)) hx hb hts hinX3 hown hK (hM2.mv (m := m2) (by omega)) rfl 12 (by decide) (by decide +kernel) rfl dX3_copyFrom_97 ?_
  refine lv_iconst (v := nI 0) hx hb dX3_copyFrom_100 (by decide) ?_
  refine lv_aload_n hx hb dX3_copyFrom_101 rfl (lv_at hl 0 rfl) ?_
  refine kx_get (v := .ref (q + 12 + 2 * mv)) hx hb hts hinX3 hown hK (hM.mv (m := mv) (by omega)) rfl 12 (by decide) (by decide +kernel) rfl dX3_copyFrom_102 ?_
  refine lv_iconst (v := nI 0) hx hb dX3_copyFrom_105 (by decide) ?_
  refine lv_bipush (v := nI 16) hx hb dX3_copyFrom_106 (by decide) ?_
  refine kx_copyi (sp := 0) (dp := 0) (n := 16) hx hb (hml.trans hl.1.symm) hown (hts (.methodLink RX3 53 arraycopyName) (by decide +kernel)) (hts (.native arraycopyName) (by decide +kernel)) (hts (.static arraycopyName) (by decide +kernel)) (hts (.initialized "java/lang/System") (by decide +kernel)) hK (hM2.tk (m := m2) (by omega)) (hM.tk (m := mv) (by omega)) hS ⟨by omega, by omega⟩ 0 0 rfl rfl (by decide) (by decide) (by decide) (by decide) (by decide) (Nat.le_of_ble_eq_true rfl) (Nat.le_of_ble_eq_true rfl) dX3_copyFrom_108 (fun H locs hc hU hS => ?_)
  have hM := hM.cp_taken (m := mv) (by omega) hc hU
  have hM2 := hM2.off hU (by omega)
  clear hc hU
  exact kx_vretM hx hb hrt hlk (by rw [← mv2_is e e2 hm]; exact hM) hS dX3_copyFrom_111
set_option maxHeartbeats 2500000 in
set_option maxRecDepth 100000 in
theorem k_X4_copyFrom (l : Launch) (D : va_G) (cs : Nat → ClassId) (q : Nat) (e : Nat → Int32) (g : Nat → Int64) (q2 : Nat) (e2 : Nat → Int32) (g2 : Nat → Int64) (r : Nat) (hI2 : Inv e2) (hr : r < Rn e2) (hd : q + 59 ≤ q2 ∨ q2 + 59 ≤ q) : Met l yX4_copyFrom wsX4_copyFrom ({ frames := 0, cells := 0, slots := 0, locals := 0 } : Room) (PcK D cs [.ref (q + 5 + r), .ref (q2 + 5 + r)] (fun H => StC D cs q e g H ∧ StC D cs q2 e2 g2 H)) (QcM none (fun H => StC D cs q (rg2 e e2 r) g H) (rgS q)) 0 0 ((rgS q)) := by
  refine kx_met (cc := cX4_copyFrom) (maxL := 2) (ret := none) (by decide) rfl (Nat.le_of_ble_eq_true rfl) ?_
  intro p en s m args below meth c hx hb hml hrt hts hown hlk hK hN hP ls hl
  have hl : lv_has ls 2 [(0, .ref (q + 5 + r)), (1, .ref (q2 + 5 + r))] := hl
  obtain ⟨H, hHe⟩ : ∃ H : Heap, H = s.heap := ⟨_, rfl⟩
  rw [← hHe] at hP ⊢
  have hS : va_S ((rgS q)) s.heap H [] := by rw [← hHe]; exact va_S.rf
  have hinX4 : ∀ w ∈ wsX40, w ∈ wsX4_copyFrom := by decide +kernel
  have hM := hP.1
  have hM2 := hP.2
  have h6 := hI2.R6
  refine lv_aload_n hx hb dX4_copyFrom_0 rfl (lv_at hl 0 rfl) ?_
  refine lv_aload_n hx hb dX4_copyFrom_1 rfl (lv_at hl 1 rfl) ?_
  refine kx_get (v := .int (e2 (56 + 4 * r + 0))) hx hb hts hinX4 hown hK (hM2.rg (r := r) (by omega)) rfl 0 (by decide) (by decide +kernel) rfl dX4_copyFrom_2 ?_
  refine kx_put hx hb hts hinX4 tyX4_ok nmX4 hown hK (hM.rg (r := r) (by omega)) rfl hS ⟨by omega, by omega⟩ 0 (by decide) (by decide +kernel) rfl rfl rfl (Nat.le_of_ble_eq_true rfl) dX4_copyFrom_5 (fun H locs hc hU hS => ?_)
  have hM := hM.put_first (r := r) (by omega) hc hU
  have hM2 := hM2.off hU (by omega)
  clear hc hU
  refine lv_aload_n hx hb dX4_copyFrom_8 rfl (lv_at hl 0 rfl) ?_
  refine lv_aload_n hx hb dX4_copyFrom_9 rfl (lv_at hl 1 rfl) ?_
  refine kx_get (v := .int (e2 (56 + 4 * r + 1))) hx hb hts hinX4 hown hK (hM2.rg (r := r) (by omega)) rfl 1 (by decide) (by decide +kernel) rfl dX4_copyFrom_10 ?_
  refine kx_put hx hb hts hinX4 tyX4_ok nmX4 hown hK (hM.rg (r := r) (by omega)) rfl hS ⟨by omega, by omega⟩ 1 (by decide) (by decide +kernel) rfl rfl rfl (Nat.le_of_ble_eq_true rfl) dX4_copyFrom_13 (fun H locs hc hU hS => ?_)
  have hM := hM.put_length (r := r) (by omega) hc hU
  have hM2 := hM2.off hU (by omega)
  clear hc hU
  refine lv_aload_n hx hb dX4_copyFrom_16 rfl (lv_at hl 0 rfl) ?_
  refine lv_aload_n hx hb dX4_copyFrom_17 rfl (lv_at hl 1 rfl) ?_
  refine kx_get (v := .int (e2 (56 + 4 * r + 2))) hx hb hts hinX4 hown hK (hM2.rg (r := r) (by omega)) rfl 2 (by decide) (by decide +kernel) rfl dX4_copyFrom_18 ?_
  refine kx_put hx hb hts hinX4 tyX4_ok nmX4 hown hK (hM.rg (r := r) (by omega)) rfl hS ⟨by omega, by omega⟩ 2 (by decide) (by decide +kernel) rfl rfl rfl (Nat.le_of_ble_eq_true rfl) dX4_copyFrom_21 (fun H locs hc hU hS => ?_)
  have hM := hM.put_patience (r := r) (by omega) hc hU
  have hM2 := hM2.off hU (by omega)
  clear hc hU
  refine lv_aload_n hx hb dX4_copyFrom_24 rfl (lv_at hl 0 rfl) ?_
  refine lv_aload_n hx hb dX4_copyFrom_25 rfl (lv_at hl 1 rfl) ?_
  refine kx_get (v := .int (e2 (56 + 4 * r + 3))) hx hb hts hinX4 hown hK (hM2.rg (r := r) (by omega)) rfl 3 (by decide) (by decide +kernel) rfl dX4_copyFrom_26 ?_
  refine kx_ci (x := e2 (56 + 4 * r + 3)) (y := bI (stkB e2 r)) (stk_is hI2 (by first | assumption | omega)) ?_
  refine kx_put hx hb hts hinX4 tyX4_ok nmX4 hown hK (hM.rg (r := r) (by omega)) rfl hS ⟨by omega, by omega⟩ 3 (by decide) (by decide +kernel) rfl (bI_nar _) (bI_fit _) (Nat.le_of_ble_eq_true rfl) dX4_copyFrom_29 (fun H locs hc hU hS => ?_)
  have hM := hM.put_strikes (r := r) (by omega) hc hU
  have hM2 := hM2.off hU (by omega)
  clear hc hU
  exact kx_vretM hx hb hrt hlk (by rw [← rg2_is e e2 hI2 hr]; exact hM) hS dX4_copyFrom_32
set_option maxHeartbeats 2500000 in
set_option maxRecDepth 100000 in
theorem k_X5_copyFrom (l : Launch) (D : va_G) (cs : Nat → ClassId) (q : Nat) (e : Nat → Int32) (g : Nat → Int64) (q2 : Nat) (e2 : Nat → Int32) (g2 : Nat → Int64) (hI2 : Inv e2) (hd : q + 59 ≤ q2 ∨ q2 + 59 ≤ q) : Met l yX5_copyFrom wsX5_copyFrom ({ frames := 2, cells := 0, slots := 0, locals := 69 } : Room) (PcK D cs [.ref (q), .ref (q2)] (fun H => StC D cs q e g H ∧ StC D cs q2 e2 g2 H)) (QcM none (fun H => StC D cs q (cfF e e2) (cgM g g2 (Mn e2)) H) (rgS q)) 0 0 ((rgS q)) := by
  refine kx_met (cc := cX5_copyFrom) (maxL := 3) (ret := none) (by decide) rfl (Nat.le_of_ble_eq_true rfl) ?_
  intro p en s m args below meth c hx hb hml hrt hts hown hlk hK hN hP ls hl
  have hl : lv_has ls 3 [(0, .ref (q)), (1, .ref (q2))] := hl
  obtain ⟨H, hHe⟩ : ∃ H : Heap, H = s.heap := ⟨_, rfl⟩
  rw [← hHe] at hP ⊢
  have hS : va_S ((rgS q)) s.heap H [] := by rw [← hHe]; exact va_S.rf
  have hinX5 : ∀ w ∈ wsX50, w ∈ wsX5_copyFrom := by decide +kernel
  have hM := hP.1
  have hM2 := hP.2
  have h6 := hI2.R6
  have h24 := hI2.M24
  refine lv_aload_n hx hb dX5_copyFrom_0 rfl (lv_at hl 1 rfl) ?_
  refine kx_get (v := .ref (q2 + 1)) hx hb hts hinX5 hown hK hM2.obj rfl 0 (by decide) (by decide +kernel) rfl dX5_copyFrom_1 ?_
  refine lv_iconst (v := nI 0) hx hb dX5_copyFrom_4 (by decide) ?_
  refine lv_aload_n hx hb dX5_copyFrom_5 rfl (lv_at hl 0 rfl) ?_
  refine kx_get (v := .ref (q + 1)) hx hb hts hinX5 hown hK hM.obj rfl 0 (by decide) (by decide +kernel) rfl dX5_copyFrom_6 ?_
  refine lv_iconst (v := nI 0) hx hb dX5_copyFrom_9 (by decide) ?_
  refine lv_bipush (v := nI 48) hx hb dX5_copyFrom_10 (by decide) ?_
  refine kx_copyi (sp := 0) (dp := 0) (n := 48) hx hb (hml.trans hl.1.symm) hown (hts (.methodLink RX5 39 arraycopyName) (by decide +kernel)) (hts (.native arraycopyName) (by decide +kernel)) (hts (.static arraycopyName) (by decide +kernel)) (hts (.initialized "java/lang/System") (by decide +kernel)) hK hM2.cells hM.cells hS ⟨by omega, by omega⟩ 0 0 rfl rfl (by decide) (by decide) (by decide) (by decide) (by decide) (Nat.le_of_ble_eq_true rfl) (Nat.le_of_ble_eq_true rfl) dX5_copyFrom_12 (fun H locs hc hU hS => ?_)
  have hM := hM.cp_cells hc hU
  have hM2 := hM2.off hU (by omega)
  clear hc hU
  refine lv_aload_n hx hb dX5_copyFrom_15 rfl (lv_at hl 0 rfl) ?_
  refine lv_aload_n hx hb dX5_copyFrom_16 rfl (lv_at hl 1 rfl) ?_
  refine kx_get (v := .int (e2 3)) hx hb hts hinX5 hown hK hM2.obj rfl 4 (by decide) (by decide +kernel) rfl dX5_copyFrom_17 ?_
  refine kx_ci (x := e2 3) (y := nI (Rn e2)) (Inv.z3 hI2) ?_
  refine kx_put hx hb hts hinX5 tyX5_ok nmX5 hown hK hM.obj rfl hS ⟨by omega, by omega⟩ 4 (by decide) (by decide +kernel) rfl rfl rfl (Nat.le_of_ble_eq_true rfl) dX5_copyFrom_20 (fun H locs hc hU hS => ?_)
  have hM := hM.put_ringCount hc hU
  have hM2 := hM2.off hU (by omega)
  clear hc hU
  refine lv_iconst (v := nI 0) hx hb dX5_copyFrom_23 (by decide) ?_
  refine lv_istore_n (lv' := [(2, .int (nI (0))), (0, .ref (q)), (1, .ref (q2))]) hx hb dX5_copyFrom_24 rfl hl (by decide) rfl (fun ls hl => ?_)
  have J25 : ∀ (fu25 : Nat) (k : Nat) (H : Heap) (locs : List Loc) (ls : Array Slot), (Rn e2 - k) < fu25 → (k ≤ Rn e2) → (StC D cs q (cfR e e2 k) g H) → (StC D cs q2 e2 g2 H) → va_S ((rgS q)) s.heap H locs → lv_has ls 3 [(0, .ref (q)), (1, .ref (q2)), (2, .int (nI (k)))] → W p l en ({ frames := 2, cells := 0, slots := 0, locals := 69 } : Room) s m args below meth c H locs 0 0 (MQ below (QcM none (fun H => StC D cs q (cfF e e2) (cgM g g2 (Mn e2)) H) (rgS q)) args s 0 0 ((rgS q))) (F0 m 25 ls []) := by
    intro fu25; induction fu25 with
    | zero => intro k H locs ls hmu25 hk hM hM2 hS hl; exact absurd hmu25 (Nat.not_lt_zero _)
    | succ fu25 ih25 =>
      intro k H locs ls hmu25 hk hM hM2 hS hl
      refine lv_iload_n hx hb dX5_copyFrom_25 rfl (lv_at hl 2 rfl) ?_
      refine lv_aload_n hx hb dX5_copyFrom_26 rfl (lv_at hl 0 rfl) ?_
      refine kx_get (v := .int ((cfR e e2 k) 3)) hx hb hts hinX5 hown hK hM.obj rfl 4 (by decide) (by decide +kernel) rfl dX5_copyFrom_27 ?_
      refine kx_ci (x := (cfR e e2 k) 3) (y := nI (Rn e2)) (cfR_3 e e2 k) ?_
      refine kn_icmp_ge (tgt := 54) hx hb dX5_copyFrom_30 (by decide) (by omega) (by omega) (fun c_1 => ?_) (fun c_1 => ?_)
      · have hkk : k = Rn e2 := by omega
        subst hkk
        refine lv_aload_n hx hb dX5_copyFrom_54 rfl (lv_at hl 0 rfl) ?_
        refine lv_aload_n hx hb dX5_copyFrom_55 rfl (lv_at hl 1 rfl) ?_
        refine kx_get (v := .int (e2 4)) hx hb hts hinX5 hown hK hM2.obj rfl 5 (by decide) (by decide +kernel) rfl dX5_copyFrom_56 ?_
        refine kx_ci (x := e2 4) (y := nI (Mn e2)) (Inv.z4 hI2) ?_
        refine kx_put hx hb hts hinX5 tyX5_ok nmX5 hown hK hM.obj rfl hS ⟨by omega, by omega⟩ 5 (by decide) (by decide +kernel) rfl rfl rfl (Nat.le_of_ble_eq_true rfl) dX5_copyFrom_59 (fun H locs hc hU hS => ?_)
        have hM := hM.put_moveCount hc hU
        have hM2 := hM2.off hU (by omega)
        clear hc hU
        refine lv_iconst (v := nI 0) hx hb dX5_copyFrom_62 (by decide) ?_
        refine lv_istore_n (lv' := [(2, .int (nI (0))), (0, .ref (q)), (1, .ref (q2))]) hx hb dX5_copyFrom_63 rfl hl (by decide) rfl (fun ls hl => ?_)
        have J64 : ∀ (fu64 : Nat) (k : Nat) (H : Heap) (locs : List Loc) (ls : Array Slot), (Mn e2 - k) < fu64 → (k ≤ Mn e2) → (StC D cs q (cfM e e2 k) (cgM g g2 k) H) → (StC D cs q2 e2 g2 H) → va_S ((rgS q)) s.heap H locs → lv_has ls 3 [(0, .ref (q)), (1, .ref (q2)), (2, .int (nI (k)))] → W p l en ({ frames := 2, cells := 0, slots := 0, locals := 69 } : Room) s m args below meth c H locs 0 0 (MQ below (QcM none (fun H => StC D cs q (cfF e e2) (cgM g g2 (Mn e2)) H) (rgS q)) args s 0 0 ((rgS q))) (F0 m 64 ls []) := by
          intro fu64; induction fu64 with
          | zero => intro k H locs ls hmu64 hk hM hM2 hS hl; exact absurd hmu64 (Nat.not_lt_zero _)
          | succ fu64 ih64 =>
            intro k H locs ls hmu64 hk hM hM2 hS hl
            refine lv_iload_n hx hb dX5_copyFrom_64 rfl (lv_at hl 2 rfl) ?_
            refine lv_aload_n hx hb dX5_copyFrom_65 rfl (lv_at hl 0 rfl) ?_
            refine kx_get (v := .int ((cfM e e2 k) 4)) hx hb hts hinX5 hown hK hM.obj rfl 5 (by decide) (by decide +kernel) rfl dX5_copyFrom_66 ?_
            refine kx_ci (x := (cfM e e2 k) 4) (y := nI (Mn e2)) (cfM_4 e e2 k) ?_
            refine kn_icmp_ge (tgt := 93) hx hb dX5_copyFrom_69 (by decide) (by omega) (by omega) (fun c_2 => ?_) (fun c_2 => ?_)
            · have hkk : k = Mn e2 := by omega
              subst hkk
              refine lv_aload_n hx hb dX5_copyFrom_93 rfl (lv_at hl 0 rfl) ?_
              refine lv_aload_n hx hb dX5_copyFrom_94 rfl (lv_at hl 1 rfl) ?_
              refine kx_get (v := .int (e2 1)) hx hb hts hinX5 hown hK hM2.obj rfl 6 (by decide) (by decide +kernel) rfl dX5_copyFrom_95 ?_
              refine kx_put hx hb hts hinX5 tyX5_ok nmX5 hown hK hM.obj rfl hS ⟨by omega, by omega⟩ 6 (by decide) (by decide +kernel) rfl rfl rfl (Nat.le_of_ble_eq_true rfl) dX5_copyFrom_98 (fun H locs hc hU hS => ?_)
              have hM := hM.put_speed hc hU
              have hM2 := hM2.off hU (by omega)
              clear hc hU
              refine lv_aload_n hx hb dX5_copyFrom_101 rfl (lv_at hl 0 rfl) ?_
              refine lv_aload_n hx hb dX5_copyFrom_102 rfl (lv_at hl 1 rfl) ?_
              refine kx_get (v := .int (e2 2)) hx hb hts hinX5 hown hK hM2.obj rfl 7 (by decide) (by decide +kernel) rfl dX5_copyFrom_103 ?_
              refine kx_put hx hb hts hinX5 tyX5_ok nmX5 hown hK hM.obj rfl hS ⟨by omega, by omega⟩ 7 (by decide) (by decide +kernel) rfl rfl rfl (Nat.le_of_ble_eq_true rfl) dX5_copyFrom_106 (fun H locs hc hU hS => ?_)
              have hM := hM.put_lanes hc hU
              have hM2 := hM2.off hU (by omega)
              clear hc hU
              refine lv_aload_n hx hb dX5_copyFrom_109 rfl (lv_at hl 0 rfl) ?_
              refine lv_aload_n hx hb dX5_copyFrom_110 rfl (lv_at hl 1 rfl) ?_
              refine kx_get (v := .int (e2 0)) hx hb hts hinX5 hown hK hM2.obj rfl 8 (by decide) (by decide +kernel) rfl dX5_copyFrom_111 ?_
              refine kx_put hx hb hts hinX5 tyX5_ok nmX5 hown hK hM.obj rfl hS ⟨by omega, by omega⟩ 8 (by decide) (by decide +kernel) rfl rfl rfl (Nat.le_of_ble_eq_true rfl) dX5_copyFrom_114 (fun H locs hc hU hS => ?_)
              have hM := hM.put_tick hc hU
              have hM2 := hM2.off hU (by omega)
              clear hc hU
              refine lv_aload_n hx hb dX5_copyFrom_117 rfl (lv_at hl 0 rfl) ?_
              refine lv_aload_n hx hb dX5_copyFrom_118 rfl (lv_at hl 1 rfl) ?_
              refine kx_get (v := .int (e2 5)) hx hb hts hinX5 hown hK hM2.obj rfl 9 (by decide) (by decide +kernel) rfl dX5_copyFrom_119 ?_
              refine kx_put hx hb hts hinX5 tyX5_ok nmX5 hown hK hM.obj rfl hS ⟨by omega, by omega⟩ 9 (by decide) (by decide +kernel) rfl rfl rfl (Nat.le_of_ble_eq_true rfl) dX5_copyFrom_122 (fun H locs hc hU hS => ?_)
              have hM := hM.put_copiedInAll hc hU
              have hM2 := hM2.off hU (by omega)
              clear hc hU
              refine lv_aload_n hx hb dX5_copyFrom_125 rfl (lv_at hl 0 rfl) ?_
              refine lv_aload_n hx hb dX5_copyFrom_126 rfl (lv_at hl 1 rfl) ?_
              refine kx_get (v := .int (e2 6)) hx hb hts hinX5 hown hK hM2.obj rfl 10 (by decide) (by decide +kernel) rfl dX5_copyFrom_127 ?_
              refine kx_put hx hb hts hinX5 tyX5_ok nmX5 hown hK hM.obj rfl hS ⟨by omega, by omega⟩ 10 (by decide) (by decide +kernel) rfl rfl rfl (Nat.le_of_ble_eq_true rfl) dX5_copyFrom_130 (fun H locs hc hU hS => ?_)
              have hM := hM.put_signedInAll hc hU
              have hM2 := hM2.off hU (by omega)
              clear hc hU
              refine lv_aload_n hx hb dX5_copyFrom_133 rfl (lv_at hl 0 rfl) ?_
              refine lv_aload_n hx hb dX5_copyFrom_134 rfl (lv_at hl 1 rfl) ?_
              refine kx_get (v := .int (e2 7)) hx hb hts hinX5 hown hK hM2.obj rfl 11 (by decide) (by decide +kernel) rfl dX5_copyFrom_135 ?_
              refine kx_put hx hb hts hinX5 tyX5_ok nmX5 hown hK hM.obj rfl hS ⟨by omega, by omega⟩ 11 (by decide) (by decide +kernel) rfl rfl rfl (Nat.le_of_ble_eq_true rfl) dX5_copyFrom_138 (fun H locs hc hU hS => ?_)
              have hM := hM.put_sweptInAll hc hU
              have hM2 := hM2.off hU (by omega)
              clear hc hU
              exact kx_vretM hx hb hrt hlk (by rw [← cfF_is e hI2]; exact hM) hS dX5_copyFrom_141
            · refine lv_aload_n hx hb dX5_copyFrom_72 rfl (lv_at hl 0 rfl) ?_
              refine kx_get (v := .ref (q + 3)) hx hb hts hinX5 hown hK hM.obj rfl 2 (by decide) (by decide +kernel) rfl dX5_copyFrom_73 ?_
              refine lv_iload_n hx hb dX5_copyFrom_76 rfl (lv_at hl 2 rfl) ?_
              refine kx_aald (i := k) hx hb hK hM.moves 3 rfl (by omega) (by decide) rfl dX5_copyFrom_77 ?_
              refine lv_aload_n hx hb dX5_copyFrom_78 rfl (lv_at hl 1 rfl) ?_
              refine kx_get (v := .ref (q2 + 3)) hx hb hts hinX5 hown hK hM2.obj rfl 2 (by decide) (by decide +kernel) rfl dX5_copyFrom_79 ?_
              refine lv_iload_n hx hb dX5_copyFrom_82 rfl (lv_at hl 2 rfl) ?_
              refine kx_aald (i := k) hx hb hK hM2.moves 3 rfl (by omega) (by decide) rfl dX5_copyFrom_83 ?_
              refine kx_retM (va_runV (As := [.ref (q2 + 11 + 2 * k)]) (rest := []) ⟨hx, hb, hml, hown, hts⟩ (k_X3_copyFrom l D cs q (cfM e e2 k) (cgM g g2 k) q2 e2 g2 k k (by omega) (by omega) (by first | assumption | omega)) (cwV 1 hts gX5_copyFrom_X3_copyFrom rfl rfl rfl (by decide +kernel) ⟨Nat.le_of_ble_eq_true rfl, Nat.le_of_ble_eq_true rfl⟩) (kx_preV hK hN (hM.mv (m := k) (by omega)) rfl ⟨hM, hM2⟩) rfl rfl hl.1 rfl (lv_room (Nat.le_of_ble_eq_true rfl)) dX5_copyFrom_84 ⟨Nat.le_of_ble_eq_true rfl, Nat.le_of_ble_eq_true rfl⟩) hS (fun x _ h => by first | exact h | exact ⟨by have h1 := h.1; have h2 := h.2; omega, by have h1 := h.1; have h2 := h.2; omega⟩) (fun x h => by first | exact h | exact ⟨by have h1 := h.1; have h2 := h.2; omega, by have h1 := h.1; have h2 := h.2; omega⟩) (fun H locs hMN hk hS => ?_)
              have hM2 := hM2.frame hk (fun x h1 h2 h => by have h3 := h.1; have h4 := h.2; omega)
              have hM := hMN
              clear hk hMN
              have hM : StC D cs q (cfM e e2 (k + 1)) (cgM g g2 (k + 1)) H := (by rw [← cfM_s e e2 (by omega), ← cgM_s]; exact hM)
              refine lv_iinc (v := nI (k + 1)) (lv' := [(2, .int (nI (k + 1))), (0, .ref (q)), (1, .ref (q2))]) (k := 2) hx hb dX5_copyFrom_87 hl rfl (nI_add _ _) (by decide) rfl (fun ls hl => ?_)
              refine lv_goto (tgt := 64) hx hb dX5_copyFrom_90 (by decide) ?_
              exact ih64 (k + 1) _ _ _ (by omega) (by omega) hM hM2 hS (lv_sub hl [1, 2, 0] rfl)
        exact J64 _ 0 _ _ _ (Nat.lt_succ_self _) (by omega) (by rw [cfM_0, cgM_0]; exact hM) hM2 hS (lv_sub hl [1, 2, 0] rfl)
      · refine lv_aload_n hx hb dX5_copyFrom_33 rfl (lv_at hl 0 rfl) ?_
        refine kx_get (v := .ref (q + 2)) hx hb hts hinX5 hown hK hM.obj rfl 1 (by decide) (by decide +kernel) rfl dX5_copyFrom_34 ?_
        refine lv_iload_n hx hb dX5_copyFrom_37 rfl (lv_at hl 2 rfl) ?_
        refine kx_aald (i := k) hx hb hK hM.rings 2 rfl (by omega) (by decide) rfl dX5_copyFrom_38 ?_
        refine lv_aload_n hx hb dX5_copyFrom_39 rfl (lv_at hl 1 rfl) ?_
        refine kx_get (v := .ref (q2 + 2)) hx hb hts hinX5 hown hK hM2.obj rfl 1 (by decide) (by decide +kernel) rfl dX5_copyFrom_40 ?_
        refine lv_iload_n hx hb dX5_copyFrom_43 rfl (lv_at hl 2 rfl) ?_
        refine kx_aald (i := k) hx hb hK hM2.rings 2 rfl (by omega) (by decide) rfl dX5_copyFrom_44 ?_
        refine kx_retM (va_runV (As := [.ref (q2 + 5 + k)]) (rest := []) ⟨hx, hb, hml, hown, hts⟩ (k_X4_copyFrom l D cs q (cfR e e2 k) g q2 e2 g2 k hI2 (by omega) (by first | assumption | omega)) (cwV 1 hts gX5_copyFrom_X4_copyFrom rfl rfl rfl (by decide +kernel) ⟨Nat.le_of_ble_eq_true rfl, Nat.le_of_ble_eq_true rfl⟩) (kx_preV hK hN (hM.rg (r := k) (by omega)) rfl ⟨hM, hM2⟩) rfl rfl hl.1 rfl (lv_room (Nat.le_of_ble_eq_true rfl)) dX5_copyFrom_45 ⟨Nat.le_of_ble_eq_true rfl, Nat.le_of_ble_eq_true rfl⟩) hS (fun x _ h => by first | exact h | exact ⟨by have h1 := h.1; have h2 := h.2; omega, by have h1 := h.1; have h2 := h.2; omega⟩) (fun x h => by first | exact h | exact ⟨by have h1 := h.1; have h2 := h.2; omega, by have h1 := h.1; have h2 := h.2; omega⟩) (fun H locs hMN hk hS => ?_)
        have hM2 := hM2.frame hk (fun x h1 h2 h => by have h3 := h.1; have h4 := h.2; omega)
        have hM := hMN
        clear hk hMN
        have hM : StC D cs q (cfR e e2 (k + 1)) g H := (by rw [← cfR_s]; exact hM)
        refine lv_iinc (v := nI (k + 1)) (lv' := [(2, .int (nI (k + 1))), (0, .ref (q)), (1, .ref (q2))]) (k := 2) hx hb dX5_copyFrom_48 hl rfl (nI_add _ _) (by decide) rfl (fun ls hl => ?_)
        refine lv_goto (tgt := 25) hx hb dX5_copyFrom_51 (by decide) ?_
        exact ih25 (k + 1) _ _ _ (by omega) (by omega) hM hM2 hS (lv_sub hl [1, 2, 0] rfl)
  exact J25 _ 0 _ _ _ (Nat.lt_succ_self _) (by omega) (by rw [cfR_0]; exact hM) hM2 hS (lv_sub hl [1, 2, 0] rfl)
set_option maxHeartbeats 2500000 in
set_option maxRecDepth 100000 in
theorem k_X5_start (l : Launch) (D : va_G) (cs : Nat → ClassId) (q : Nat) (e : Nat → Int32) (g : Nat → Int64) (mv : Nat) (hI : Inv e) (hm : mv < Mn e) : Met l yX5_start wsX5_start ({ frames := 1, cells := 0, slots := 0, locals := 21 } : Room) (PcK D cs [.ref (q), .ref (q + 11 + 2 * mv)] (fun H => StC D cs q e g H)) (QcM none (fun H => StC D cs q (startF e mv) g H) (rgS q)) 0 0 ((rgS q)) := by
  refine kx_met (cc := cX5_start) (maxL := 4) (ret := none) (by decide) rfl (Nat.le_of_ble_eq_true rfl) ?_
  intro p en s m args below meth c hx hb hml hrt hts hown hlk hK hN hP ls hl
  have hl : lv_has ls 4 [(0, .ref (q)), (1, .ref (q + 11 + 2 * mv))] := hl
  obtain ⟨H, hHe⟩ : ∃ H : Heap, H = s.heap := ⟨_, rfl⟩
  rw [← hHe] at hP ⊢
  have hS : va_S ((rgS q)) s.heap H [] := by rw [← hHe]; exact va_S.rf
  have hinX3 : ∀ w ∈ wsX30, w ∈ wsX5_start := by decide +kernel
  have hinX5 : ∀ w ∈ wsX50, w ∈ wsX5_start := by decide +kernel
  have hM := hP
  have h24 := hI.M24
  have h6 := hI.R6
  have hs3 := hI.s3 hm
  have hc16 := hI.c16 hm
  have hwc := hI.wc hm
  have hmf := hI.mf hm
  have hma := hI.ma hm
  refine lv_aload_n hx hb dX5_start_0 rfl (lv_at hl 0 rfl) ?_
  refine kx_get (v := .ref (q + 2)) hx hb hts hinX5 hown hK hM.obj rfl 1 (by decide) (by decide +kernel) rfl dX5_start_1 ?_
  refine lv_aload_n hx hb dX5_start_4 rfl (lv_at hl 1 rfl) ?_
  refine kx_get (v := .int (e (80 + 10 * mv + 0))) hx hb hts hinX3 hown hK (hM.mv (m := mv) (by omega)) rfl 0 (by decide) (by decide +kernel) rfl dX5_start_5 ?_
  refine kx_ci (x := e (80 + 10 * mv + 0)) (y := nI (mF e mv)) (Inv.m0 hI (by first | assumption | omega)) ?_
  refine kx_aald (i := mF e mv) hx hb hK hM.rings 2 rfl (by omega) (by decide) rfl dX5_start_8 ?_
  refine lv_astore_n (lv' := [(2, .ref (q + 5 + (mF e mv))), (0, .ref (q)), (1, .ref (q + 11 + 2 * mv))]) hx hb dX5_start_9 rfl hl (by decide) rfl (fun ls hl => ?_)
  refine lv_iconst (v := nI 0) hx hb dX5_start_10 (by decide) ?_
  refine lv_istore_n (lv' := [(3, .int (nI (0))), (2, .ref (q + 5 + (mF e mv))), (0, .ref (q)), (1, .ref (q + 11 + 2 * mv))]) hx hb dX5_start_11 rfl hl (by decide) rfl (fun ls hl => ?_)
  have J12 : ∀ (fu12 : Nat) (k : Nat) (H : Heap) (locs : List Loc) (ls : Array Slot), (mC e mv - k) < fu12 → (k ≤ mC e mv) → (StC D cs q (tkK e mv k) g H) → va_S ((rgS q)) s.heap H locs → lv_has ls 4 [(0, .ref (q)), (1, .ref (q + 11 + 2 * mv)), (2, .ref (q + 5 + mF e mv)), (3, .int (nI (k)))] → W p l en ({ frames := 1, cells := 0, slots := 0, locals := 21 } : Room) s m args below meth c H locs 0 0 (MQ below (QcM none (fun H => StC D cs q (startF e mv) g H) (rgS q)) args s 0 0 ((rgS q))) (F0 m 12 ls []) := by
    intro fu12; induction fu12 with
    | zero => intro k H locs ls hmu12 hk hM hS hl; exact absurd hmu12 (Nat.not_lt_zero _)
    | succ fu12 ih12 =>
      intro k H locs ls hmu12 hk hM hS hl
      have hIy := tkK_inv hI mv k
      have hRy := (tkK_stay e (m := mv) k).R
      have hs48 := hI.src48 hm k
      refine lv_iload_n hx hb dX5_start_12 rfl (lv_at hl 3 rfl) ?_
      refine lv_aload_n hx hb dX5_start_13 rfl (lv_at hl 1 rfl) ?_
      refine kx_get (v := .int ((tkK e mv k) (80 + 10 * mv + 4))) hx hb hts hinX3 hown hK (hM.mv (m := mv) (by omega)) rfl 4 (by decide) (by decide +kernel) rfl dX5_start_14 ?_
      refine kx_ci (x := (tkK e mv k) (80 + 10 * mv + 4)) (y := nI (mC e mv)) ((tkK_lo e (by omega)).trans (hI.m4 hm)) ?_
      refine kn_icmp_ge (tgt := 47) hx hb dX5_start_17 (by decide) (by omega) (by omega) (fun c_1 => ?_) (fun c_1 => ?_)
      · have hkk : k = mC e mv := by omega
        subst hkk
        refine lv_aload_n hx hb dX5_start_47 rfl (lv_at hl 1 rfl) ?_
        refine lv_iconst (v := nI 1) hx hb dX5_start_48 (by decide) ?_
        refine kx_put hx hb hts hinX3 tyX3_ok nmX3 hown hK (hM.mv (m := mv) (by omega)) rfl hS ⟨by omega, by omega⟩ 7 (by decide) (by decide +kernel) rfl rfl rfl (Nat.le_of_ble_eq_true rfl) dX5_start_49 (fun H locs hc hU hS => ?_)
        have hM := hM.put_phase (m := mv) (by omega) hc hU
        clear hc hU
        refine lv_aload_n hx hb dX5_start_52 rfl (lv_at hl 1 rfl) ?_
        refine lv_aload_n hx hb dX5_start_53 rfl (lv_at hl 0 rfl) ?_
        refine kx_get (v := .int ((upd (tkK e mv (mC e mv)) (80 + 10 * mv + 5) (nI (1))) 0)) hx hb hts hinX5 hown hK hM.obj rfl 8 (by decide) (by decide +kernel) rfl dX5_start_54 ?_
        refine kx_ci (x := (upd (tkK e mv (mC e mv)) (80 + 10 * mv + 5) (nI (1))) 0) (y := e 0) (by rw [upd_at, if_neg (by omega)]; exact tkK_lo e (by omega)) ?_
        refine kx_put hx hb hts hinX3 tyX3_ok nmX3 hown hK (hM.mv (m := mv) (by omega)) rfl hS ⟨by omega, by omega⟩ 9 (by decide) (by decide +kernel) rfl rfl rfl (Nat.le_of_ble_eq_true rfl) dX5_start_57 (fun H locs hc hU hS => ?_)
        have hM := hM.put_started (m := mv) (by omega) hc hU
        clear hc hU
        exact kx_vretM hx hb hrt hlk (by rw [← tkK_end e (by omega)]; exact hM) hS dX5_start_60
      · refine lv_aload_n hx hb dX5_start_20 rfl (lv_at hl 1 rfl) ?_
        refine kx_get (v := .ref (q + 12 + 2 * mv)) hx hb hts hinX3 hown hK (hM.mv (m := mv) (by omega)) rfl 12 (by decide) (by decide +kernel) rfl dX5_start_21 ?_
        refine lv_iload_n hx hb dX5_start_24 rfl (lv_at hl 3 rfl) ?_
        refine lv_aload_n hx hb dX5_start_25 rfl (lv_at hl 0 rfl) ?_
        refine kx_get (v := .ref (q + 1)) hx hb hts hinX5 hown hK hM.obj rfl 0 (by decide) (by decide +kernel) rfl dX5_start_26 ?_
        refine lv_aload_n hx hb dX5_start_29 rfl (lv_at hl 2 rfl) ?_
        refine lv_aload_n hx hb dX5_start_30 rfl (lv_at hl 1 rfl) ?_
        refine kx_get (v := .int ((tkK e mv k) (80 + 10 * mv + 1))) hx hb hts hinX3 hown hK (hM.mv (m := mv) (by omega)) rfl 1 (by decide) (by decide +kernel) rfl dX5_start_31 ?_
        refine kx_ci (x := (tkK e mv k) (80 + 10 * mv + 1)) (y := nI (mA e mv)) ((tkK_lo e (by omega)).trans (hI.m1 hm)) ?_
        refine lv_iload_n hx hb dX5_start_34 rfl (lv_at hl 3 rfl) ?_
        refine kn_add hx hb dX5_start_35 ?_
        refine kx_retP (va_runV (As := [.int (nI (mA e mv + k))]) (rest := [.ref (q + 1), .int (nI (k)), .ref (q + 12 + 2 * mv)]) ⟨hx, hb, hml, hown, hts⟩ (k_X4_cellAt l D cs q (tkK e mv k) g (mF e mv) (mA e mv + k) hIy (by rw [hRy]; exact hmf) (by first | assumption | omega)) (cwV 1 hts gX5_start_X4_cellAt rfl rfl rfl (by decide +kernel) ⟨Nat.le_of_ble_eq_true rfl, Nat.le_of_ble_eq_true rfl⟩) (kx_preV hK hN (hM.rg (r := mF e mv) (by omega)) rfl hM) rfl rfl hl.1 rfl (lv_room (Nat.le_of_ble_eq_true rfl)) dX5_start_36 ⟨Nat.le_of_ble_eq_true rfl, Nat.le_of_ble_eq_true rfl⟩) ?_
        refine kx_ci (x := nI (rF (tkK e mv k) (mF e mv) + (mA e mv + k) % rL (tkK e mv k) (mF e mv))) (y := nI (srcC e mv k)) (congrArg nI (by rw [(tkK_stay e k).rf0 (by omega), (tkK_stay e k).rl (by omega)]; rfl)) ?_
        refine kx_iald (i := srcC e mv k) hx hb hK hM.cells 0 rfl (by omega) (by decide) dX5_start_39 ?_
        refine kx_ci (x := (tkK e mv k) (8 + (srcC e mv k))) (y := e (8 + srcC e mv k)) (tkK_lo e (by omega)) ?_
        refine kx_iast (i := k) hx hb hK (hM.tk (m := mv) (by omega)) hS ⟨by omega, by omega⟩ 0 rfl (by omega) (by decide) dX5_start_40 (fun H locs hc hU hS => ?_)
        have hM := hM.put_taken (m := mv) (i := k) (by omega) (by omega) hc hU
        clear hc hU
        have hM : StC D cs q (tkK e mv (k + 1)) g H := (by rw [← tkK_s]; exact hM)
        refine lv_iinc (v := nI (k + 1)) (lv' := [(3, .int (nI (k + 1))), (0, .ref (q)), (1, .ref (q + 11 + 2 * mv)), (2, .ref (q + 5 + mF e mv))]) (k := 3) hx hb dX5_start_41 hl rfl (nI_add _ _) (by decide) rfl (fun ls hl => ?_)
        refine lv_goto (tgt := 12) hx hb dX5_start_44 (by decide) ?_
        exact ih12 (k + 1) _ _ _ (by omega) (by omega) hM hS (lv_sub hl [1, 2, 3, 0] rfl)
  exact J12 _ 0 _ _ _ (Nat.lt_succ_self _) (by omega) (by rw [tkK_0]; exact hM) hS (lv_sub hl [2, 3, 1, 0] rfl)
set_option maxHeartbeats 2500000 in
set_option maxRecDepth 100000 in
theorem k_X5_copyOn (l : Launch) (D : va_G) (cs : Nat → ClassId) (q : Nat) (e : Nat → Int32) (g : Nat → Int64) (mv w : Nat) (hI : Inv e) (hm : mv < Mn e) (hw : w ≤ 16) : Met l yX5_copyOn wsX5_copyOn ({ frames := 1, cells := 0, slots := 0, locals := 21 } : Room) (PcK D cs [.ref (q), .ref (q + 11 + 2 * mv), .int (nI (w))] (fun H => StC D cs q e g H)) (QcM none (fun H => StC D cs q (cpoF e mv w) g H) (rgS q)) 0 0 ((rgS q)) := by
  refine kx_met (cc := cX5_copyOn) (maxL := 6) (ret := none) (by decide) rfl (Nat.le_of_ble_eq_true rfl) ?_
  intro p en s m args below meth c hx hb hml hrt hts hown hlk hK hN hP ls hl
  have hl : lv_has ls 6 [(0, .ref (q)), (1, .ref (q + 11 + 2 * mv)), (2, .int (nI (w)))] := hl
  obtain ⟨H, hHe⟩ : ∃ H : Heap, H = s.heap := ⟨_, rfl⟩
  rw [← hHe] at hP ⊢
  have hS : va_S ((rgS q)) s.heap H [] := by rw [← hHe]; exact va_S.rf
  have hinX3 : ∀ w ∈ wsX30, w ∈ wsX5_copyOn := by decide +kernel
  have hinX5 : ∀ w ∈ wsX50, w ∈ wsX5_copyOn := by decide +kernel
  have hM := hP
  have h24 := hI.M24
  have h6 := hI.R6
  have hs3 := hI.s3 hm
  have hc16 := hI.c16 hm
  have hwc := hI.wc hm
  have hmt := mt_le hI hm w
  have hmtr := hI.mt hm
  have hmb := hI.mb hm
  refine lv_aload_n hx hb dX5_copyOn_0 rfl (lv_at hl 1 rfl) ?_
  refine kx_get (v := .int (e (80 + 10 * mv + 5))) hx hb hts hinX3 hown hK (hM.mv (m := mv) (by omega)) rfl 7 (by decide) (by decide +kernel) rfl dX5_copyOn_1 ?_
  refine kx_ci (x := e (80 + 10 * mv + 5)) (y := nI (mS e mv)) (Inv.m5 hI (by first | assumption | omega)) ?_
  refine lv_iconst (v := nI 1) hx hb dX5_copyOn_4 (by decide) ?_
  refine kn_icmp_eq (tgt := 9) hx hb dX5_copyOn_5 (by decide) (by omega) (by decide) (fun h1 => ?_) (fun h1 => ?_)
  · refine lv_aload_n hx hb dX5_copyOn_9 rfl (lv_at hl 0 rfl) ?_
    refine kx_get (v := .ref (q + 2)) hx hb hts hinX5 hown hK hM.obj rfl 1 (by decide) (by decide +kernel) rfl dX5_copyOn_10 ?_
    refine lv_aload_n hx hb dX5_copyOn_13 rfl (lv_at hl 1 rfl) ?_
    refine kx_get (v := .int (e (80 + 10 * mv + 2))) hx hb hts hinX3 hown hK (hM.mv (m := mv) (by omega)) rfl 2 (by decide) (by decide +kernel) rfl dX5_copyOn_14 ?_
    refine kx_ci (x := e (80 + 10 * mv + 2)) (y := nI (mT e mv)) (Inv.m2 hI (by first | assumption | omega)) ?_
    refine kx_aald (i := mT e mv) hx hb hK hM.rings 2 rfl (by omega) (by decide) rfl dX5_copyOn_17 ?_
    refine lv_astore_n (lv' := [(3, .ref (q + 5 + (mT e mv))), (0, .ref (q)), (1, .ref (q + 11 + 2 * mv)), (2, .int (nI (w)))]) hx hb dX5_copyOn_18 rfl hl (by decide) rfl (fun ls hl => ?_)
    refine lv_aload_n hx hb dX5_copyOn_19 rfl (lv_at hl 2 rfl) ?_
    refine kx_get (v := .int (e (80 + 10 * mv + 4))) hx hb hts hinX3 hown hK (hM.mv (m := mv) (by omega)) rfl 4 (by decide) (by decide +kernel) rfl dX5_copyOn_20 ?_
    refine kx_ci (x := e (80 + 10 * mv + 4)) (y := nI (mC e mv)) (Inv.m4 hI (by first | assumption | omega)) ?_
    refine lv_aload_n hx hb dX5_copyOn_23 rfl (lv_at hl 2 rfl) ?_
    refine kx_get (v := .int (e (80 + 10 * mv + 6))) hx hb hts hinX3 hown hK (hM.mv (m := mv) (by omega)) rfl 8 (by decide) (by decide +kernel) rfl dX5_copyOn_24 ?_
    refine kx_ci (x := e (80 + 10 * mv + 6)) (y := nI (mW e mv)) (Inv.m6 hI (by first | assumption | omega)) ?_
    refine lv_iload_n hx hb dX5_copyOn_27 rfl (lv_at hl 3 rfl) ?_
    refine kn_add hx hb dX5_copyOn_28 ?_
    refine kn_min hx hb (hml.trans hl.1.symm) hown (hts (.methodLink RX5 116 Lib.Math.min.name) (by decide +kernel)) (hts (.static Lib.Math.min.name) (by decide +kernel)) (hts (.initialized "java/lang/Math") (by decide +kernel)) (hts (.code Lib.Math.min.name Lib.Math.min.code 2 (some .int)) (by decide +kernel)) (Nat.le_of_ble_eq_true rfl) (Nat.le_of_ble_eq_true rfl) (Nat.le_of_ble_eq_true rfl) (Nat.le_of_ble_eq_true rfl) (by omega) (by omega) dX5_copyOn_29 ?_
    refine kx_ci (x := nI (min (mC e mv) (mW e mv + w))) (y := nI (mt e mv w)) (congrArg nI (mt_min e mv w)) ?_
    refine lv_istore (lv' := [(4, .int (nI (mt e mv w))), (3, .ref (q + 5 + (mT e mv))), (0, .ref (q)), (1, .ref (q + 11 + 2 * mv)), (2, .int (nI (w)))]) hx hb dX5_copyOn_32 hl (by decide) rfl (fun ls hl => ?_)
    refine lv_aload_n hx hb dX5_copyOn_34 rfl (lv_at hl 3 rfl) ?_
    refine kx_get (v := .int (e (80 + 10 * mv + 6))) hx hb hts hinX3 hown hK (hM.mv (m := mv) (by omega)) rfl 8 (by decide) (by decide +kernel) rfl dX5_copyOn_35 ?_
    refine kx_ci (x := e (80 + 10 * mv + 6)) (y := nI (mW e mv)) (Inv.m6 hI (by first | assumption | omega)) ?_
    refine lv_istore (lv' := [(5, .int (nI (mW e mv))), (4, .int (nI (mt e mv w))), (3, .ref (q + 5 + (mT e mv))), (0, .ref (q)), (1, .ref (q + 11 + 2 * mv)), (2, .int (nI (w)))]) hx hb dX5_copyOn_38 hl (by decide) rfl (fun ls hl => ?_)
    have J40 : ∀ (fu40 : Nat) (k : Nat) (H : Heap) (locs : List Loc) (ls : Array Slot), (mt e mv w - (mW e mv + k)) < fu40 → (mW e mv + k ≤ mt e mv w) → (StC D cs q (wrK e mv (mW e mv) k) g H) → va_S ((rgS q)) s.heap H locs → lv_has ls 6 [(0, .ref (q)), (1, .ref (q + 11 + 2 * mv)), (2, .int (nI (w))), (3, .ref (q + 5 + mT e mv)), (4, .int (nI (mt e mv w))), (5, .int (nI (mW e mv + k)))] → W p l en ({ frames := 1, cells := 0, slots := 0, locals := 21 } : Room) s m args below meth c H locs 0 0 (MQ below (QcM none (fun H => StC D cs q (cpoF e mv w) g H) (rgS q)) args s 0 0 ((rgS q))) (F0 m 40 ls []) := by
      intro fu40; induction fu40 with
      | zero => intro k H locs ls hmu40 hk hM hS hl; exact absurd hmu40 (Nat.not_lt_zero _)
      | succ fu40 ih40 =>
        intro k H locs ls hmu40 hk hM hS hl
        have hIy := wrK_inv hI hm (mW e mv) k
        have hSy := wrK_stay hI hm (mW e mv) k
        have hRy := hSy.R
        have ht48 := hI.tgt48 hm (mW e mv + k)
        refine lv_iload hx hb dX5_copyOn_40 (lv_at hl 5 rfl) ?_
        refine lv_iload hx hb dX5_copyOn_42 (lv_at hl 4 rfl) ?_
        refine kn_icmp_ge (tgt := 76) hx hb dX5_copyOn_44 (by decide) (by omega) (by omega) (fun c_1 => ?_) (fun c_1 => ?_)
        · refine lv_aload_n hx hb dX5_copyOn_76 rfl (lv_at hl 1 rfl) ?_
          refine lv_iload hx hb dX5_copyOn_77 (lv_at hl 4 rfl) ?_
          refine kx_put hx hb hts hinX3 tyX3_ok nmX3 hown hK (hM.mv (m := mv) (by omega)) rfl hS ⟨by omega, by omega⟩ 8 (by decide) (by decide +kernel) rfl rfl rfl (Nat.le_of_ble_eq_true rfl) dX5_copyOn_79 (fun H locs hc hU hS => ?_)
          have hM := hM.put_written (m := mv) (by omega) hc hU
          clear hc hU
          have hM : StC D cs q (writesF e mv w) g H := (by rw [show k = mt e mv w - mW e mv by omega] at hM; exact hM)
          refine lv_iload hx hb dX5_copyOn_82 (lv_at hl 4 rfl) ?_
          refine lv_aload_n hx hb dX5_copyOn_84 rfl (lv_at hl 1 rfl) ?_
          refine kx_get (v := .int ((writesF e mv w) (80 + 10 * mv + 4))) hx hb hts hinX3 hown hK (hM.mv (m := mv) (by omega)) rfl 4 (by decide) (by decide +kernel) rfl dX5_copyOn_85 ?_
          refine kx_ci (x := (writesF e mv w) (80 + 10 * mv + 4)) (y := nI (mC e mv)) ((writesF_out hI hm w (by omega) (by omega)).trans (hI.m4 hm)) ?_
          refine kn_icmp_ne (tgt := 114) hx hb dX5_copyOn_88 (by decide) (by omega) (by omega) (fun h88 => ?_) (fun h88 => ?_)
          · exact kx_vretM hx hb hrt hlk (by unfold cpoF; rw [if_pos h1]; first | (rw [if_pos h88]; exact hM) | (rw [if_neg h88]; exact hM)) hS dX5_copyOn_114
          · refine lv_aload_n hx hb dX5_copyOn_91 rfl (lv_at hl 1 rfl) ?_
            refine lv_iconst (v := nI 2) hx hb dX5_copyOn_92 (by decide) ?_
            refine kx_put hx hb hts hinX3 tyX3_ok nmX3 hown hK (hM.mv (m := mv) (by omega)) rfl hS ⟨by omega, by omega⟩ 7 (by decide) (by decide +kernel) rfl rfl rfl (Nat.le_of_ble_eq_true rfl) dX5_copyOn_93 (fun H locs hc hU hS => ?_)
            have hM := hM.put_phase (m := mv) (by omega) hc hU
            clear hc hU
            refine lv_aload_n hx hb dX5_copyOn_96 rfl (lv_at hl 1 rfl) ?_
            refine lv_aload_n hx hb dX5_copyOn_97 rfl (lv_at hl 0 rfl) ?_
            refine kx_get (v := .int ((upd (writesF e mv w) (80 + 10 * mv + 5) (nI (2))) 0)) hx hb hts hinX5 hown hK hM.obj rfl 8 (by decide) (by decide +kernel) rfl dX5_copyOn_98 ?_
            refine kx_ci (x := (upd (writesF e mv w) (80 + 10 * mv + 5) (nI (2))) 0) (y := e 0) (by rw [upd_at, if_neg (by omega)]; exact writesF_out hI hm w (by omega) (by omega)) ?_
            refine kx_put hx hb hts hinX3 tyX3_ok nmX3 hown hK (hM.mv (m := mv) (by omega)) rfl hS ⟨by omega, by omega⟩ 10 (by decide) (by decide +kernel) rfl rfl rfl (Nat.le_of_ble_eq_true rfl) dX5_copyOn_101 (fun H locs hc hU hS => ?_)
            have hM := hM.put_copied (m := mv) (by omega) hc hU
            clear hc hU
            refine lv_aload_n hx hb dX5_copyOn_104 rfl (lv_at hl 0 rfl) ?_
            refine lv_dup hx hb dX5_copyOn_105 rfl ?_
            refine kx_get (v := .int ((upd (upd (writesF e mv w) (80 + 10 * mv + 5) (nI (2))) (80 + 10 * mv + 8) (e 0)) 5)) hx hb hts hinX5 hown hK hM.obj rfl 9 (by decide) (by decide +kernel) rfl dX5_copyOn_106 ?_
            refine kx_ci (x := (upd (upd (writesF e mv w) (80 + 10 * mv + 5) (nI (2))) (80 + 10 * mv + 8) (e 0)) 5) (y := e 5) (by rw [upd_at, if_neg (by omega), upd_at, if_neg (by omega)]; exact writesF_out hI hm w (by omega) (by omega)) ?_
            refine lv_iconst (v := nI 1) hx hb dX5_copyOn_109 (by decide) ?_
            refine lv_iadd hx hb dX5_copyOn_110 ?_
            refine kx_put hx hb hts hinX5 tyX5_ok nmX5 hown hK hM.obj rfl hS ⟨by omega, by omega⟩ 9 (by decide) (by decide +kernel) rfl rfl rfl (Nat.le_of_ble_eq_true rfl) dX5_copyOn_111 (fun H locs hc hU hS => ?_)
            have hM := hM.put_copiedInAll hc hU
            clear hc hU
            exact kx_vretM hx hb hrt hlk (by unfold cpoF; rw [if_pos h1]; first | (rw [if_pos h88]; exact hM) | (rw [if_neg h88]; exact hM)) hS dX5_copyOn_114
        · refine lv_aload_n hx hb dX5_copyOn_47 rfl (lv_at hl 0 rfl) ?_
          refine kx_get (v := .ref (q + 1)) hx hb hts hinX5 hown hK hM.obj rfl 0 (by decide) (by decide +kernel) rfl dX5_copyOn_48 ?_
          refine lv_aload_n hx hb dX5_copyOn_51 rfl (lv_at hl 3 rfl) ?_
          refine lv_aload_n hx hb dX5_copyOn_52 rfl (lv_at hl 1 rfl) ?_
          refine kx_get (v := .int ((wrK e mv (mW e mv) k) (80 + 10 * mv + 3))) hx hb hts hinX3 hown hK (hM.mv (m := mv) (by omega)) rfl 3 (by decide) (by decide +kernel) rfl dX5_copyOn_53 ?_
          refine kx_ci (x := (wrK e mv (mW e mv) k) (80 + 10 * mv + 3)) (y := nI (mB e mv)) ((wrK_out hI hm _ (by omega) k).trans (hI.m3 hm)) ?_
          refine lv_iload hx hb dX5_copyOn_56 (lv_at hl 5 rfl) ?_
          refine kn_add hx hb dX5_copyOn_58 ?_
          refine kx_retP (va_runV (As := [.int (nI (mB e mv + (mW e mv + k)))]) (rest := [.ref (q + 1)]) ⟨hx, hb, hml, hown, hts⟩ (k_X4_cellAt l D cs q (wrK e mv (mW e mv) k) g (mT e mv) (mB e mv + (mW e mv + k)) hIy (by rw [hRy]; exact hmtr) (by first | assumption | omega)) (cwV 1 hts gX5_copyOn_X4_cellAt rfl rfl rfl (by decide +kernel) ⟨Nat.le_of_ble_eq_true rfl, Nat.le_of_ble_eq_true rfl⟩) (kx_preV hK hN (hM.rg (r := mT e mv) (by omega)) rfl hM) rfl rfl hl.1 rfl (lv_room (Nat.le_of_ble_eq_true rfl)) dX5_copyOn_59 ⟨Nat.le_of_ble_eq_true rfl, Nat.le_of_ble_eq_true rfl⟩) ?_
          refine kx_ci (x := nI (rF (wrK e mv (mW e mv) k) (mT e mv) + (mB e mv + (mW e mv + k)) % rL (wrK e mv (mW e mv) k) (mT e mv))) (y := nI (tgtC e mv (mW e mv + k))) (congrArg nI (by rw [hSy.rf0 (by omega), hSy.rl (by omega)]; rfl)) ?_
          refine lv_aload_n hx hb dX5_copyOn_62 rfl (lv_at hl 1 rfl) ?_
          refine kx_get (v := .ref (q + 12 + 2 * mv)) hx hb hts hinX3 hown hK (hM.mv (m := mv) (by omega)) rfl 12 (by decide) (by decide +kernel) rfl dX5_copyOn_63 ?_
          refine lv_iload hx hb dX5_copyOn_66 (lv_at hl 5 rfl) ?_
          refine kx_iald (i := mW e mv + k) hx hb hK (hM.tk (m := mv) (by omega)) 0 rfl (by omega) (by decide) dX5_copyOn_68 ?_
          refine kx_ci (x := (wrK e mv (mW e mv) k) (320 + 16 * mv + (mW e mv + k))) (y := e (320 + 16 * mv + (mW e mv + k))) (wrK_out hI hm _ (by omega) k) ?_
          refine kx_iast (i := tgtC e mv (mW e mv + k)) hx hb hK hM.cells hS ⟨by omega, by omega⟩ 0 rfl (by omega) (by decide) dX5_copyOn_69 (fun H locs hc hU hS => ?_)
          have hM := hM.put_cells (i := tgtC e mv (mW e mv + k)) (by omega) hc hU
          clear hc hU
          have hM : StC D cs q (wrK e mv (mW e mv) (k + 1)) g H := hM
          refine lv_iinc (v := nI (mW e mv + k + 1)) (lv' := [(5, .int (nI (mW e mv + k + 1))), (0, .ref (q)), (1, .ref (q + 11 + 2 * mv)), (2, .int (nI (w))), (3, .ref (q + 5 + mT e mv)), (4, .int (nI (mt e mv w)))]) (k := 5) hx hb dX5_copyOn_70 hl rfl (nI_add _ _) (by decide) rfl (fun ls hl => ?_)
          refine lv_goto (tgt := 40) hx hb dX5_copyOn_73 (by decide) ?_
          exact ih40 (k + 1) _ _ _ (by omega) (by omega) hM hS (lv_sub hl [1, 2, 3, 4, 5, 0] rfl)
    exact J40 _ 0 _ _ _ (Nat.lt_succ_self _) (by omega) hM hS (lv_sub hl [3, 4, 5, 2, 1, 0] rfl)
  · exact kx_vretM hx hb hrt hlk (by unfold cpoF; rw [if_neg h1]; exact hM) hS dX5_copyOn_8
