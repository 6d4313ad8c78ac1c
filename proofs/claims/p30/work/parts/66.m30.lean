set_option maxHeartbeats 2500000 in
set_option maxRecDepth 100000 in
theorem k_X7_requireCell (l : Launch) (D : va_G) (cs : Nat → ClassId) (w : Nat) (hw : w < 48) : Met l yX7_requireCell wsX7_requireCell ({ frames := 2, cells := 0, slots := 0, locals := 42 } : Room) (PcK D cs [.int (nI (w))] (fun H => True)) (QcP none) 0 0 nowhere := by
  refine kx_met (cc := cX7_requireCell) (maxL := 1) (ret := none) (by decide) rfl (Nat.le_of_ble_eq_true rfl) ?_
  intro p en s m args below meth c hx hb hml hrt hts hown hlk hK hN hP ls hl
  have hl : lv_has ls 1 [(0, .int (nI (w)))] := hl
  refine lv_iload_n hx hb dX7_requireCell_0 rfl (lv_at hl 0 rfl) ?_
  refine kx_retP (va_runS (As := [.int (nI (w))]) (rest := []) ⟨hx, hb, hml, hown, hts⟩ (k_X7_isCell l D cs (nI (w))) (cwS 1 hts gX7_requireCell_X7_isCell rfl rfl rfl (by decide +kernel) ⟨Nat.le_of_ble_eq_true rfl, Nat.le_of_ble_eq_true rfl⟩) (kx_preS hK hN trivial) rfl rfl hl.1 rfl (lv_room (Nat.le_of_ble_eq_true rfl)) dX7_requireCell_1 ⟨Nat.le_of_ble_eq_true rfl, Nat.le_of_ble_eq_true rfl⟩) ?_
  refine kb_if_ne (tgt := 18) hx hb dX7_requireCell_4 (by decide) (fun c4 => ?_) (fun c4 => ?_)
  · exact kx_vretP hx hb hrt hlk dX7_requireCell_18
  · exact absurd (c4.symm.trans (wi_n (lo := 0) (hi := 47) (by omega) (by omega) (by decide))) (by decide)
set_option maxHeartbeats 2500000 in
set_option maxRecDepth 100000 in
theorem k_X7_requireRange (l : Launch) (D : va_G) (cs : Nat → ClassId) (v w : Nat) (hw : v ≤ w) (hw9 : w < 1000) : Met l yX7_requireRange wsX7_requireRange ({ frames := 1, cells := 0, slots := 0, locals := 22 } : Room) (PcK D cs [.int (nI (v)), .int (nI (w))] (fun H => True)) (QcP none) 0 0 nowhere := by
  refine kx_met (cc := cX7_requireRange) (maxL := 2) (ret := none) (by decide) rfl (Nat.le_of_ble_eq_true rfl) ?_
  intro p en s m args below meth c hx hb hml hrt hts hown hlk hK hN hP ls hl
  have hl : lv_has ls 2 [(0, .int (nI (v))), (1, .int (nI (w)))] := hl
  refine lv_iload_n hx hb dX7_requireRange_0 rfl (lv_at hl 0 rfl) ?_
  refine lv_iconst (v := nI 0) hx hb dX7_requireRange_1 (by decide) ?_
  refine lv_iload_n hx hb dX7_requireRange_2 rfl (lv_at hl 1 rfl) ?_
  refine kx_retP (va_runS (As := [.int (nI (v)), .int (nI (0)), .int (nI (w))]) (rest := []) ⟨hx, hb, hml, hown, hts⟩ (k_X7_isWithin l D cs (nI (v)) (nI (0)) (nI (w))) (cwS 3 hts gX7_requireRange_X7_isWithin rfl rfl rfl (by decide +kernel) ⟨Nat.le_of_ble_eq_true rfl, Nat.le_of_ble_eq_true rfl⟩) (kx_preS hK hN trivial) rfl rfl hl.1 rfl (lv_room (Nat.le_of_ble_eq_true rfl)) dX7_requireRange_3 ⟨Nat.le_of_ble_eq_true rfl, Nat.le_of_ble_eq_true rfl⟩) ?_
  refine kb_if_ne (tgt := 20) hx hb dX7_requireRange_6 (by decide) (fun c6 => ?_) (fun c6 => ?_)
  · exact kx_vretP hx hb hrt hlk dX7_requireRange_20
  · exact absurd (c6.symm.trans (wi_n (lo := 0) (by omega) hw (by omega))) (by decide)
set_option maxHeartbeats 2500000 in
set_option maxRecDepth 100000 in
theorem k_X7_refuse (l : Launch) (D : va_G) (cs : Nat → ClassId)  : Met l yX7_refuse wsX7_refuse ({ frames := 0, cells := 0, slots := 0, locals := 0 } : Room) (PcK D cs [.int (nI (0))] (fun H => True)) (QcP none) 0 0 nowhere := by
  refine kx_met (cc := cX7_refuse) (maxL := 1) (ret := none) (by decide) rfl (Nat.le_of_ble_eq_true rfl) ?_
  intro p en s m args below meth c hx hb hml hrt hts hown hlk hK hN hP ls hl
  have hl : lv_has ls 1 [(0, .int (nI (0)))] := hl
  refine lv_iload_n hx hb dX7_refuse_0 rfl (lv_at hl 0 rfl) ?_
  refine lv_iconst (v := nI 1) hx hb dX7_refuse_1 (by decide) ?_
  refine kn_icmp_ne (tgt := 16) hx hb dX7_refuse_2 (by decide) (by decide) (by decide) (fun c2 => ?_) (fun c2 => ?_)
  · refine lv_iload_n hx hb dX7_refuse_16 rfl (lv_at hl 0 rfl) ?_
    refine lv_iconst (v := nI 2) hx hb dX7_refuse_17 (by decide) ?_
    refine kn_icmp_ne (tgt := 32) hx hb dX7_refuse_18 (by decide) (by decide) (by decide) (fun c18 => ?_) (fun c18 => ?_)
    · refine lv_iload_n hx hb dX7_refuse_32 rfl (lv_at hl 0 rfl) ?_
      refine lv_iconst (v := nI 3) hx hb dX7_refuse_33 (by decide) ?_
      refine kn_icmp_ne (tgt := 48) hx hb dX7_refuse_34 (by decide) (by decide) (by decide) (fun c34 => ?_) (fun c34 => ?_)
      · exact kx_vretP hx hb hrt hlk dX7_refuse_48
      · exact absurd c34 (by decide)
    · exact absurd c18 (by decide)
  · exact absurd c2 (by decide)
set_option maxHeartbeats 2500000 in
set_option maxRecDepth 100000 in
theorem k_X7_requireMove (l : Launch) (D : va_G) (cs : Nat → ClassId) (x : Nat) (e : Nat → Int32) (g : Nat → Int64) (e1 : Nat → Int32) (g1 : Nat → Int64) (nx cn : Nat) (se : Nat → Nat → Int32) (sg : Nat → Nat → Int64) (b nn : Nat → Int32) (wd ln pa : Nat) (ft : Int32) (hI : Inv e) (mv : Nat) (hm : mv < Mn e) : Met l yX7_requireMove wsX7_requireMove ({ frames := 0, cells := 0, slots := 0, locals := 0 } : Room) (PcK D cs [.ref (x), .int (nI (mv))] (fun H => HrC D cs x e g e1 g1 nx cn se sg b nn wd ln pa ft H)) (QcP none) 0 0 nowhere := by
  refine kx_met (cc := cX7_requireMove) (maxL := 2) (ret := none) (by decide) rfl (Nat.le_of_ble_eq_true rfl) ?_
  intro p en s m args below meth c hx hb hml hrt hts hown hlk hK hN hP ls hl
  have hl : lv_has ls 2 [(0, .ref (x)), (1, .int (nI (mv)))] := hl
  have hinX5 : ∀ w ∈ wsX50, w ∈ wsX7_requireMove := by decide +kernel
  have hinX7 : ∀ w ∈ wsX70, w ∈ wsX7_requireMove := by decide +kernel
  obtain ⟨hWro, hM, hM2, hWhi, hWto, hWtb, hWtn⟩ := hP
  have hm24 := hI.M24
  refine lv_iload_n hx hb dX7_requireMove_0 rfl (lv_at hl 1 rfl) ?_
  refine lv_if_lt (tgt := 15) hx hb dX7_requireMove_1 (by decide) (fun h => absurd h (kn_neg (by omega))) (fun _ => ?_)
  refine lv_iload_n hx hb dX7_requireMove_4 rfl (lv_at hl 1 rfl) ?_
  refine lv_aload_n hx hb dX7_requireMove_5 rfl (lv_at hl 0 rfl) ?_
  refine kx_get (v := .ref (x + 1)) hx hb hts hinX7 hown hK hWro rfl 0 (by decide) (by decide +kernel) rfl dX7_requireMove_6 ?_
  refine kx_get (v := .int (e 4)) hx hb hts hinX5 hown hK hM.obj rfl 5 (by decide) (by decide +kernel) rfl dX7_requireMove_9 ?_
  refine kx_ci (x := e 4) (y := nI (Mn e)) (Inv.z4 hI) ?_
  refine kn_icmp_lt (tgt := 26) hx hb dX7_requireMove_12 (by decide) (by omega) (by omega) (fun c_1 => ?_) (fun c_1 => ?_)
  · exact kx_vretP hx hb hrt hlk dX7_requireMove_26
  · omega
set_option maxHeartbeats 2500000 in
set_option maxRecDepth 100000 in
theorem k_X7_addRing (l : Launch) (D : va_G) (cs : Nat → ClassId) (x : Nat) (e : Nat → Int32) (g : Nat → Int64) (e1 : Nat → Int32) (g1 : Nat → Int64) (nx cn : Nat) (se : Nat → Nat → Int32) (sg : Nat → Nat → Int64) (b nn : Nat → Int32) (wd ln pa : Nat) (ft : Int32) (f n0 pt : Int32) (hI : Inv e) (hnx : nx < 4) (hcn : cn ≤ 4) (hw : wrg e f n0 pt = 0) (hR : Rn e < 6) : Met l yX7_addRing wsX7_addRing ({ frames := 4, cells := 0, slots := 0, locals := 112 } : Room) (PcK D cs [.ref (x), .int (f), .int (n0), .int (pt)] (fun H => HrC D cs x e g e1 g1 nx cn se sg b nn wd ln pa ft H)) (QcM (some (.int (nI (Rn e)))) (fun H => HrC D cs x ((prF e f n0 pt)) g e1 g1 (((nx + 1) % 4)) ((min (cn + 1) 4)) ((hsE se nx (cfF (se nx) e))) ((hsG sg nx (cgM (sg nx) g (Mn e)))) b nn wd ln pa ft H) (rgR x)) 0 0 ((rgR x)) := by
  refine kx_met (cc := cX7_addRing) (maxL := 4) (ret := (some .int)) (by decide) rfl (Nat.le_of_ble_eq_true rfl) ?_
  intro p en s m args below meth c hx hb hml hrt hts hown hlk hK hN hP ls hl
  have hl : lv_has ls 4 [(0, .ref (x)), (1, .int (f)), (2, .int (n0)), (3, .int (pt))] := hl
  obtain ⟨H, hHe⟩ : ∃ H : Heap, H = s.heap := ⟨_, rfl⟩
  rw [← hHe] at hP ⊢
  have hS : va_S ((rgR x)) s.heap H [] := by rw [← hHe]; exact va_S.rf
  have hinX7 : ∀ w ∈ wsX70, w ∈ wsX7_addRing := by decide +kernel
  obtain ⟨hWro, hM, hM2, hWhi, hWto, hWtb, hWtn⟩ := hP
  refine lv_aload_n hx hb dX7_addRing_0 rfl (lv_at hl 0 rfl) ?_
  refine kx_get (v := .ref (x + 1)) hx hb hts hinX7 hown hK hWro rfl 0 (by decide) (by decide +kernel) rfl dX7_addRing_1 ?_
  refine lv_iload_n hx hb dX7_addRing_4 rfl (lv_at hl 1 rfl) ?_
  refine lv_iload_n hx hb dX7_addRing_5 rfl (lv_at hl 2 rfl) ?_
  refine lv_iload_n hx hb dX7_addRing_6 rfl (lv_at hl 3 rfl) ?_
  refine kx_retP (va_runV (As := [.int (f), .int (n0), .int (pt)]) (rest := []) ⟨hx, hb, hml, hown, hts⟩ (k_X5_ringRefusal l D cs (x + 1) e g f n0 pt hI) (cwV 3 hts gX7_addRing_X5_ringRefusal rfl rfl rfl (by decide +kernel) ⟨Nat.le_of_ble_eq_true rfl, Nat.le_of_ble_eq_true rfl⟩) (kx_preV hK hN hM.obj rfl hM) rfl rfl hl.1 rfl (lv_room (Nat.le_of_ble_eq_true rfl)) dX7_addRing_7 ⟨Nat.le_of_ble_eq_true rfl, Nat.le_of_ble_eq_true rfl⟩) ?_
  refine kx_ci (x := nI (wrg e f n0 pt)) (y := nI (0)) (congrArg nI hw) ?_
  refine kx_retP (va_runS (As := [.int (nI (0))]) (rest := []) ⟨hx, hb, hml, hown, hts⟩ (k_X7_refuse l D cs ) (cwS 1 hts gX7_addRing_X7_refuse rfl rfl rfl (by decide +kernel) ⟨Nat.le_of_ble_eq_true rfl, Nat.le_of_ble_eq_true rfl⟩) (kx_preS hK hN trivial) rfl rfl hl.1 rfl (lv_room (Nat.le_of_ble_eq_true rfl)) dX7_addRing_10 ⟨Nat.le_of_ble_eq_true rfl, Nat.le_of_ble_eq_true rfl⟩) ?_
  refine lv_aload_n hx hb dX7_addRing_13 rfl (lv_at hl 0 rfl) ?_
  refine kx_get (v := .ref (x + 119)) hx hb hts hinX7 hown hK hWro rfl 2 (by decide) (by decide +kernel) rfl dX7_addRing_14 ?_
  refine lv_aload_n hx hb dX7_addRing_17 rfl (lv_at hl 0 rfl) ?_
  refine kx_get (v := .ref (x + 1)) hx hb hts hinX7 hown hK hWro rfl 0 (by decide) (by decide +kernel) rfl dX7_addRing_18 ?_
  refine kx_retM (va_runV (As := [.ref (x + 1)]) (rest := []) ⟨hx, hb, hml, hown, hts⟩ (k_X2_save l D cs (x + 119) nx cn se sg (x + 1) e g hI (Or.inr (by omega)) hnx hcn) (cwV 1 hts gX7_addRing_X2_save rfl rfl rfl (by decide +kernel) ⟨Nat.le_of_ble_eq_true rfl, Nat.le_of_ble_eq_true rfl⟩) (kx_preV hK hN hWhi.obj rfl ⟨hWhi, hM⟩) rfl rfl hl.1 rfl (lv_room (Nat.le_of_ble_eq_true rfl)) dX7_addRing_21 ⟨Nat.le_of_ble_eq_true rfl, Nat.le_of_ble_eq_true rfl⟩) hS (fun x _ h => (by first | exact h | (have h1 := h.1; have h2 := h.2; exact ⟨by omega, by omega⟩) | (rcases h with h | h <;> (have h1 := h.1; have h2 := h.2; exact ⟨by omega, by omega⟩)))) (fun x h => (by first | exact h | (have h1 := h.1; have h2 := h.2; exact ⟨by omega, by omega⟩) | (rcases h with h | h <;> (have h1 := h.1; have h2 := h.2; exact ⟨by omega, by omega⟩)))) (fun H locs hMN hk hS => ?_)
  have hWro := hWro.kept (hk.2 _ hWro.lt (fun h => by first | (have h3 := h.1; have h4 := h.2; omega) | (rcases h with h | h <;> (have h3 := h.1; have h4 := h.2; omega))))
  have hM := hM.frame hk (fun x h1 h2 h => by first | (have h3 := h.1; have h4 := h.2; omega) | (rcases h with h | h <;> (have h3 := h.1; have h4 := h.2; omega)))
  have hM2 := hM2.frame hk (fun x h1 h2 h => by first | (have h3 := h.1; have h4 := h.2; omega) | (rcases h with h | h <;> (have h3 := h.1; have h4 := h.2; omega)))
  have hWtb := hWtb.kept (hk.2 _ hWtb.lt (fun h => by first | (have h3 := h.1; have h4 := h.2; omega) | (rcases h with h | h <;> (have h3 := h.1; have h4 := h.2; omega))))
  have hWtn := hWtn.kept (hk.2 _ hWtn.lt (fun h => by first | (have h3 := h.1; have h4 := h.2; omega) | (rcases h with h | h <;> (have h3 := h.1; have h4 := h.2; omega))))
  have hWto := hWto.kept (hk.2 _ hWto.lt (fun h => by first | (have h3 := h.1; have h4 := h.2; omega) | (rcases h with h | h <;> (have h3 := h.1; have h4 := h.2; omega))))
  have hWhi := hMN
  clear hk hMN
  refine lv_aload_n hx hb dX7_addRing_24 rfl (lv_at hl 0 rfl) ?_
  refine kx_get (v := .ref (x + 1)) hx hb hts hinX7 hown hK hWro rfl 0 (by decide) (by decide +kernel) rfl dX7_addRing_25 ?_
  refine lv_iload_n hx hb dX7_addRing_28 rfl (lv_at hl 1 rfl) ?_
  refine lv_iload_n hx hb dX7_addRing_29 rfl (lv_at hl 2 rfl) ?_
  refine lv_iload_n hx hb dX7_addRing_30 rfl (lv_at hl 3 rfl) ?_
  refine kx_retM (va_runV (As := [.int (f), .int (n0), .int (pt)]) (rest := []) ⟨hx, hb, hml, hown, hts⟩ (k_X5_putRing l D cs (x + 1) e g f n0 pt hI (by first | assumption | omega)) (cwV 3 hts gX7_addRing_X5_putRing rfl rfl rfl (by decide +kernel) ⟨Nat.le_of_ble_eq_true rfl, Nat.le_of_ble_eq_true rfl⟩) (kx_preV hK hN hM.obj rfl hM) rfl rfl hl.1 rfl (lv_room (Nat.le_of_ble_eq_true rfl)) dX7_addRing_31 ⟨Nat.le_of_ble_eq_true rfl, Nat.le_of_ble_eq_true rfl⟩) hS (fun x _ h => (by first | exact h | (have h1 := h.1; have h2 := h.2; exact ⟨by omega, by omega⟩) | (rcases h with h | h <;> (have h1 := h.1; have h2 := h.2; exact ⟨by omega, by omega⟩)))) (fun x h => (by first | exact h | (have h1 := h.1; have h2 := h.2; exact ⟨by omega, by omega⟩) | (rcases h with h | h <;> (have h1 := h.1; have h2 := h.2; exact ⟨by omega, by omega⟩)))) (fun H locs hMN hk hS => ?_)
  have hWhi := hWhi.frame hk (fun x h1 h2 h => by first | (have h3 := h.1; have h4 := h.2; omega) | (rcases h with h | h <;> (have h3 := h.1; have h4 := h.2; omega)))
  have hWro := hWro.kept (hk.2 _ hWro.lt (fun h => by first | (have h3 := h.1; have h4 := h.2; omega) | (rcases h with h | h <;> (have h3 := h.1; have h4 := h.2; omega))))
  have hM2 := hM2.frame hk (fun x h1 h2 h => by first | (have h3 := h.1; have h4 := h.2; omega) | (rcases h with h | h <;> (have h3 := h.1; have h4 := h.2; omega)))
  have hWtb := hWtb.kept (hk.2 _ hWtb.lt (fun h => by first | (have h3 := h.1; have h4 := h.2; omega) | (rcases h with h | h <;> (have h3 := h.1; have h4 := h.2; omega))))
  have hWtn := hWtn.kept (hk.2 _ hWtn.lt (fun h => by first | (have h3 := h.1; have h4 := h.2; omega) | (rcases h with h | h <;> (have h3 := h.1; have h4 := h.2; omega))))
  have hWto := hWto.kept (hk.2 _ hWto.lt (fun h => by first | (have h3 := h.1; have h4 := h.2; omega) | (rcases h with h | h <;> (have h3 := h.1; have h4 := h.2; omega))))
  have hM := hMN
  clear hk hMN
  exact kx_iretM hx hb hrt hlk rfl ⟨hWro, hM, hM2, hWhi, hWto, hWtb, hWtn⟩ hS dX7_addRing_34
set_option maxHeartbeats 2500000 in
set_option maxRecDepth 100000 in
theorem k_X7_set (l : Launch) (D : va_G) (cs : Nat → ClassId) (x : Nat) (e : Nat → Int32) (g : Nat → Int64) (e1 : Nat → Int32) (g1 : Nat → Int64) (nx cn : Nat) (se : Nat → Nat → Int32) (sg : Nat → Nat → Int64) (b nn : Nat → Int32) (wd ln pa : Nat) (ft : Int32) (w : Nat) (v : Int32) (hI : Inv e) (hnx : nx < 4) (hcn : cn ≤ 4) (hw : wse (nI w) v = 0) (hw2 : w < 2) : Met l yX7_set wsX7_set ({ frames := 4, cells := 0, slots := 0, locals := 112 } : Room) (PcK D cs [.ref (x), .int (nI (w)), .int (v)] (fun H => HrC D cs x e g e1 g1 nx cn se sg b nn wd ln pa ft H)) (QcM (some (.int (e (1 + w)))) (fun H => HrC D cs x ((upd e (1 + w) v)) g e1 g1 (((nx + 1) % 4)) ((min (cn + 1) 4)) ((hsE se nx (cfF (se nx) e))) ((hsG sg nx (cgM (sg nx) g (Mn e)))) b nn wd ln pa ft H) (rgR x)) 0 0 ((rgR x)) := by
  refine kx_met (cc := cX7_set) (maxL := 3) (ret := (some .int)) (by decide) rfl (Nat.le_of_ble_eq_true rfl) ?_
  intro p en s m args below meth c hx hb hml hrt hts hown hlk hK hN hP ls hl
  have hl : lv_has ls 3 [(0, .ref (x)), (1, .int (nI (w))), (2, .int (v))] := hl
  obtain ⟨H, hHe⟩ : ∃ H : Heap, H = s.heap := ⟨_, rfl⟩
  rw [← hHe] at hP ⊢
  have hS : va_S ((rgR x)) s.heap H [] := by rw [← hHe]; exact va_S.rf
  have hinX7 : ∀ w ∈ wsX70, w ∈ wsX7_set := by decide +kernel
  obtain ⟨hWro, hM, hM2, hWhi, hWto, hWtb, hWtn⟩ := hP
  refine lv_iload_n hx hb dX7_set_0 rfl (lv_at hl 1 rfl) ?_
  refine lv_iload_n hx hb dX7_set_1 rfl (lv_at hl 2 rfl) ?_
  refine kx_retP (va_runS (As := [.int (nI (w)), .int (v)]) (rest := []) ⟨hx, hb, hml, hown, hts⟩ (k_X5_settingRefusal l D cs (nI (w)) v) (va_cwS 2 hts gX7_set_X5_settingRefusal rfl rfl rfl (by decide +kernel) ⟨Nat.le_of_ble_eq_true rfl, Nat.le_of_ble_eq_true rfl⟩) (kx_preS hK hN trivial) rfl rfl hl.1 rfl (lv_room (Nat.le_of_ble_eq_true rfl)) dX7_set_2 ⟨Nat.le_of_ble_eq_true rfl, Nat.le_of_ble_eq_true rfl⟩) ?_
  refine kx_ci (x := nI (c12 (wse (nI (w)) v))) (y := nI (0)) (congrArg nI (by rw [hw]; rfl)) ?_
  refine kx_retP (va_runS (As := [.int (nI (0))]) (rest := []) ⟨hx, hb, hml, hown, hts⟩ (k_X7_refuse l D cs ) (cwS 1 hts gX7_set_X7_refuse rfl rfl rfl (by decide +kernel) ⟨Nat.le_of_ble_eq_true rfl, Nat.le_of_ble_eq_true rfl⟩) (kx_preS hK hN trivial) rfl rfl hl.1 rfl (lv_room (Nat.le_of_ble_eq_true rfl)) dX7_set_5 ⟨Nat.le_of_ble_eq_true rfl, Nat.le_of_ble_eq_true rfl⟩) ?_
  refine lv_aload_n hx hb dX7_set_8 rfl (lv_at hl 0 rfl) ?_
  refine kx_get (v := .ref (x + 119)) hx hb hts hinX7 hown hK hWro rfl 2 (by decide) (by decide +kernel) rfl dX7_set_9 ?_
  refine lv_aload_n hx hb dX7_set_12 rfl (lv_at hl 0 rfl) ?_
  refine kx_get (v := .ref (x + 1)) hx hb hts hinX7 hown hK hWro rfl 0 (by decide) (by decide +kernel) rfl dX7_set_13 ?_
  refine kx_retM (va_runV (As := [.ref (x + 1)]) (rest := []) ⟨hx, hb, hml, hown, hts⟩ (k_X2_save l D cs (x + 119) nx cn se sg (x + 1) e g hI (Or.inr (by omega)) hnx hcn) (cwV 1 hts gX7_set_X2_save rfl rfl rfl (by decide +kernel) ⟨Nat.le_of_ble_eq_true rfl, Nat.le_of_ble_eq_true rfl⟩) (kx_preV hK hN hWhi.obj rfl ⟨hWhi, hM⟩) rfl rfl hl.1 rfl (lv_room (Nat.le_of_ble_eq_true rfl)) dX7_set_16 ⟨Nat.le_of_ble_eq_true rfl, Nat.le_of_ble_eq_true rfl⟩) hS (fun x _ h => (by first | exact h | (have h1 := h.1; have h2 := h.2; exact ⟨by omega, by omega⟩) | (rcases h with h | h <;> (have h1 := h.1; have h2 := h.2; exact ⟨by omega, by omega⟩)))) (fun x h => (by first | exact h | (have h1 := h.1; have h2 := h.2; exact ⟨by omega, by omega⟩) | (rcases h with h | h <;> (have h1 := h.1; have h2 := h.2; exact ⟨by omega, by omega⟩)))) (fun H locs hMN hk hS => ?_)
  have hWro := hWro.kept (hk.2 _ hWro.lt (fun h => by first | (have h3 := h.1; have h4 := h.2; omega) | (rcases h with h | h <;> (have h3 := h.1; have h4 := h.2; omega))))
  have hM := hM.frame hk (fun x h1 h2 h => by first | (have h3 := h.1; have h4 := h.2; omega) | (rcases h with h | h <;> (have h3 := h.1; have h4 := h.2; omega)))
  have hM2 := hM2.frame hk (fun x h1 h2 h => by first | (have h3 := h.1; have h4 := h.2; omega) | (rcases h with h | h <;> (have h3 := h.1; have h4 := h.2; omega)))
  have hWtb := hWtb.kept (hk.2 _ hWtb.lt (fun h => by first | (have h3 := h.1; have h4 := h.2; omega) | (rcases h with h | h <;> (have h3 := h.1; have h4 := h.2; omega))))
  have hWtn := hWtn.kept (hk.2 _ hWtn.lt (fun h => by first | (have h3 := h.1; have h4 := h.2; omega) | (rcases h with h | h <;> (have h3 := h.1; have h4 := h.2; omega))))
  have hWto := hWto.kept (hk.2 _ hWto.lt (fun h => by first | (have h3 := h.1; have h4 := h.2; omega) | (rcases h with h | h <;> (have h3 := h.1; have h4 := h.2; omega))))
  have hWhi := hMN
  clear hk hMN
  refine lv_aload_n hx hb dX7_set_19 rfl (lv_at hl 0 rfl) ?_
  refine kx_get (v := .ref (x + 1)) hx hb hts hinX7 hown hK hWro rfl 0 (by decide) (by decide +kernel) rfl dX7_set_20 ?_
  refine lv_iload_n hx hb dX7_set_23 rfl (lv_at hl 1 rfl) ?_
  refine lv_iload_n hx hb dX7_set_24 rfl (lv_at hl 2 rfl) ?_
  refine kx_retM (va_runV (As := [.int (nI (w)), .int (v)]) (rest := []) ⟨hx, hb, hml, hown, hts⟩ (k_X5_putSetting l D cs (x + 1) e g w v hw2) (cwV 2 hts gX7_set_X5_putSetting rfl rfl rfl (by decide +kernel) ⟨Nat.le_of_ble_eq_true rfl, Nat.le_of_ble_eq_true rfl⟩) (kx_preV hK hN hM.obj rfl hM) rfl rfl hl.1 rfl (lv_room (Nat.le_of_ble_eq_true rfl)) dX7_set_25 ⟨Nat.le_of_ble_eq_true rfl, Nat.le_of_ble_eq_true rfl⟩) hS (fun x _ h => (by first | exact h | (have h1 := h.1; have h2 := h.2; exact ⟨by omega, by omega⟩) | (rcases h with h | h <;> (have h1 := h.1; have h2 := h.2; exact ⟨by omega, by omega⟩)))) (fun x h => (by first | exact h | (have h1 := h.1; have h2 := h.2; exact ⟨by omega, by omega⟩) | (rcases h with h | h <;> (have h1 := h.1; have h2 := h.2; exact ⟨by omega, by omega⟩)))) (fun H locs hMN hk hS => ?_)
  have hWhi := hWhi.frame hk (fun x h1 h2 h => by first | (have h3 := h.1; have h4 := h.2; omega) | (rcases h with h | h <;> (have h3 := h.1; have h4 := h.2; omega)))
  have hWro := hWro.kept (hk.2 _ hWro.lt (fun h => by first | (have h3 := h.1; have h4 := h.2; omega) | (rcases h with h | h <;> (have h3 := h.1; have h4 := h.2; omega))))
  have hM2 := hM2.frame hk (fun x h1 h2 h => by first | (have h3 := h.1; have h4 := h.2; omega) | (rcases h with h | h <;> (have h3 := h.1; have h4 := h.2; omega)))
  have hWtb := hWtb.kept (hk.2 _ hWtb.lt (fun h => by first | (have h3 := h.1; have h4 := h.2; omega) | (rcases h with h | h <;> (have h3 := h.1; have h4 := h.2; omega))))
  have hWtn := hWtn.kept (hk.2 _ hWtn.lt (fun h => by first | (have h3 := h.1; have h4 := h.2; omega) | (rcases h with h | h <;> (have h3 := h.1; have h4 := h.2; omega))))
  have hWto := hWto.kept (hk.2 _ hWto.lt (fun h => by first | (have h3 := h.1; have h4 := h.2; omega) | (rcases h with h | h <;> (have h3 := h.1; have h4 := h.2; omega))))
  have hM := hMN
  clear hk hMN
  exact kx_iretM hx hb hrt hlk rfl ⟨hWro, hM, hM2, hWhi, hWto, hWtb, hWtn⟩ hS dX7_set_28
set_option maxHeartbeats 2500000 in
set_option maxRecDepth 100000 in
theorem k_X7_write (l : Launch) (D : va_G) (cs : Nat → ClassId) (x : Nat) (e : Nat → Int32) (g : Nat → Int64) (e1 : Nat → Int32) (g1 : Nat → Int64) (nx cn : Nat) (se : Nat → Nat → Int32) (sg : Nat → Nat → Int64) (b nn : Nat → Int32) (wd ln pa : Nat) (ft : Int32) (y : Nat) (v : Int32) (hI : Inv e) (hG : Msk e g) (hnx : nx < 4) (hcn : cn ≤ 4) (hw : wwr e (nI y) v = 0) (hy : y < 48) : Met l yX7_write wsX7_write ({ frames := 4, cells := 0, slots := 0, locals := 112 } : Room) (PcK D cs [.ref (x), .int (nI (y)), .int (v)] (fun H => HrC D cs x e g e1 g1 nx cn se sg b nn wd ln pa ft H)) (QcM (some (.int (e (8 + y)))) (fun H => HrC D cs x ((upd e (8 + y) v)) g e1 g1 (((nx + 1) % 4)) ((min (cn + 1) 4)) ((hsE se nx (cfF (se nx) e))) ((hsG sg nx (cgM (sg nx) g (Mn e)))) b nn wd ln pa ft H) (rgR x)) 0 0 ((rgR x)) := by
  refine kx_met (cc := cX7_write) (maxL := 3) (ret := (some .int)) (by decide) rfl (Nat.le_of_ble_eq_true rfl) ?_
  intro p en s m args below meth c hx hb hml hrt hts hown hlk hK hN hP ls hl
  have hl : lv_has ls 3 [(0, .ref (x)), (1, .int (nI (y))), (2, .int (v))] := hl
  obtain ⟨H, hHe⟩ : ∃ H : Heap, H = s.heap := ⟨_, rfl⟩
  rw [← hHe] at hP ⊢
  have hS : va_S ((rgR x)) s.heap H [] := by rw [← hHe]; exact va_S.rf
  have hinX7 : ∀ w ∈ wsX70, w ∈ wsX7_write := by decide +kernel
  obtain ⟨hWro, hM, hM2, hWhi, hWto, hWtb, hWtn⟩ := hP
  refine lv_aload_n hx hb dX7_write_0 rfl (lv_at hl 0 rfl) ?_
  refine kx_get (v := .ref (x + 1)) hx hb hts hinX7 hown hK hWro rfl 0 (by decide) (by decide +kernel) rfl dX7_write_1 ?_
  refine lv_iload_n hx hb dX7_write_4 rfl (lv_at hl 1 rfl) ?_
  refine lv_iload_n hx hb dX7_write_5 rfl (lv_at hl 2 rfl) ?_
  refine kx_retP (va_runV (As := [.int (nI (y)), .int (v)]) (rest := []) ⟨hx, hb, hml, hown, hts⟩ (k_X5_valueRefusal l D cs (x + 1) e g (nI (y)) v hI hG) (cwV 2 hts gX7_write_X5_valueRefusal rfl rfl rfl (by decide +kernel) ⟨Nat.le_of_ble_eq_true rfl, Nat.le_of_ble_eq_true rfl⟩) (kx_preV hK hN hM.obj rfl hM) rfl rfl hl.1 rfl (lv_room (Nat.le_of_ble_eq_true rfl)) dX7_write_6 ⟨Nat.le_of_ble_eq_true rfl, Nat.le_of_ble_eq_true rfl⟩) ?_
  refine kx_ci (x := nI (wwr e (nI (y)) v)) (y := nI (0)) (congrArg nI hw) ?_
  refine kx_retP (va_runS (As := [.int (nI (0))]) (rest := []) ⟨hx, hb, hml, hown, hts⟩ (k_X7_refuse l D cs ) (cwS 1 hts gX7_write_X7_refuse rfl rfl rfl (by decide +kernel) ⟨Nat.le_of_ble_eq_true rfl, Nat.le_of_ble_eq_true rfl⟩) (kx_preS hK hN trivial) rfl rfl hl.1 rfl (lv_room (Nat.le_of_ble_eq_true rfl)) dX7_write_9 ⟨Nat.le_of_ble_eq_true rfl, Nat.le_of_ble_eq_true rfl⟩) ?_
  refine lv_aload_n hx hb dX7_write_12 rfl (lv_at hl 0 rfl) ?_
  refine kx_get (v := .ref (x + 119)) hx hb hts hinX7 hown hK hWro rfl 2 (by decide) (by decide +kernel) rfl dX7_write_13 ?_
  refine lv_aload_n hx hb dX7_write_16 rfl (lv_at hl 0 rfl) ?_
  refine kx_get (v := .ref (x + 1)) hx hb hts hinX7 hown hK hWro rfl 0 (by decide) (by decide +kernel) rfl dX7_write_17 ?_
  refine kx_retM (va_runV (As := [.ref (x + 1)]) (rest := []) ⟨hx, hb, hml, hown, hts⟩ (k_X2_save l D cs (x + 119) nx cn se sg (x + 1) e g hI (Or.inr (by omega)) hnx hcn) (cwV 1 hts gX7_write_X2_save rfl rfl rfl (by decide +kernel) ⟨Nat.le_of_ble_eq_true rfl, Nat.le_of_ble_eq_true rfl⟩) (kx_preV hK hN hWhi.obj rfl ⟨hWhi, hM⟩) rfl rfl hl.1 rfl (lv_room (Nat.le_of_ble_eq_true rfl)) dX7_write_20 ⟨Nat.le_of_ble_eq_true rfl, Nat.le_of_ble_eq_true rfl⟩) hS (fun x _ h => (by first | exact h | (have h1 := h.1; have h2 := h.2; exact ⟨by omega, by omega⟩) | (rcases h with h | h <;> (have h1 := h.1; have h2 := h.2; exact ⟨by omega, by omega⟩)))) (fun x h => (by first | exact h | (have h1 := h.1; have h2 := h.2; exact ⟨by omega, by omega⟩) | (rcases h with h | h <;> (have h1 := h.1; have h2 := h.2; exact ⟨by omega, by omega⟩)))) (fun H locs hMN hk hS => ?_)
  have hWro := hWro.kept (hk.2 _ hWro.lt (fun h => by first | (have h3 := h.1; have h4 := h.2; omega) | (rcases h with h | h <;> (have h3 := h.1; have h4 := h.2; omega))))
  have hM := hM.frame hk (fun x h1 h2 h => by first | (have h3 := h.1; have h4 := h.2; omega) | (rcases h with h | h <;> (have h3 := h.1; have h4 := h.2; omega)))
  have hM2 := hM2.frame hk (fun x h1 h2 h => by first | (have h3 := h.1; have h4 := h.2; omega) | (rcases h with h | h <;> (have h3 := h.1; have h4 := h.2; omega)))
  have hWtb := hWtb.kept (hk.2 _ hWtb.lt (fun h => by first | (have h3 := h.1; have h4 := h.2; omega) | (rcases h with h | h <;> (have h3 := h.1; have h4 := h.2; omega))))
  have hWtn := hWtn.kept (hk.2 _ hWtn.lt (fun h => by first | (have h3 := h.1; have h4 := h.2; omega) | (rcases h with h | h <;> (have h3 := h.1; have h4 := h.2; omega))))
  have hWto := hWto.kept (hk.2 _ hWto.lt (fun h => by first | (have h3 := h.1; have h4 := h.2; omega) | (rcases h with h | h <;> (have h3 := h.1; have h4 := h.2; omega))))
  have hWhi := hMN
  clear hk hMN
  refine lv_aload_n hx hb dX7_write_23 rfl (lv_at hl 0 rfl) ?_
  refine kx_get (v := .ref (x + 1)) hx hb hts hinX7 hown hK hWro rfl 0 (by decide) (by decide +kernel) rfl dX7_write_24 ?_
  refine lv_iload_n hx hb dX7_write_27 rfl (lv_at hl 1 rfl) ?_
  refine lv_iload_n hx hb dX7_write_28 rfl (lv_at hl 2 rfl) ?_
  refine kx_retM (va_runV (As := [.int (nI (y)), .int (v)]) (rest := []) ⟨hx, hb, hml, hown, hts⟩ (k_X5_putValue l D cs (x + 1) e g y v (by first | assumption | omega)) (cwV 2 hts gX7_write_X5_putValue rfl rfl rfl (by decide +kernel) ⟨Nat.le_of_ble_eq_true rfl, Nat.le_of_ble_eq_true rfl⟩) (kx_preV hK hN hM.obj rfl hM) rfl rfl hl.1 rfl (lv_room (Nat.le_of_ble_eq_true rfl)) dX7_write_29 ⟨Nat.le_of_ble_eq_true rfl, Nat.le_of_ble_eq_true rfl⟩) hS (fun x _ h => (by first | exact h | (have h1 := h.1; have h2 := h.2; exact ⟨by omega, by omega⟩) | (rcases h with h | h <;> (have h1 := h.1; have h2 := h.2; exact ⟨by omega, by omega⟩)))) (fun x h => (by first | exact h | (have h1 := h.1; have h2 := h.2; exact ⟨by omega, by omega⟩) | (rcases h with h | h <;> (have h1 := h.1; have h2 := h.2; exact ⟨by omega, by omega⟩)))) (fun H locs hMN hk hS => ?_)
  have hWhi := hWhi.frame hk (fun x h1 h2 h => by first | (have h3 := h.1; have h4 := h.2; omega) | (rcases h with h | h <;> (have h3 := h.1; have h4 := h.2; omega)))
  have hWro := hWro.kept (hk.2 _ hWro.lt (fun h => by first | (have h3 := h.1; have h4 := h.2; omega) | (rcases h with h | h <;> (have h3 := h.1; have h4 := h.2; omega))))
  have hM2 := hM2.frame hk (fun x h1 h2 h => by first | (have h3 := h.1; have h4 := h.2; omega) | (rcases h with h | h <;> (have h3 := h.1; have h4 := h.2; omega)))
  have hWtb := hWtb.kept (hk.2 _ hWtb.lt (fun h => by first | (have h3 := h.1; have h4 := h.2; omega) | (rcases h with h | h <;> (have h3 := h.1; have h4 := h.2; omega))))
  have hWtn := hWtn.kept (hk.2 _ hWtn.lt (fun h => by first | (have h3 := h.1; have h4 := h.2; omega) | (rcases h with h | h <;> (have h3 := h.1; have h4 := h.2; omega))))
  have hWto := hWto.kept (hk.2 _ hWto.lt (fun h => by first | (have h3 := h.1; have h4 := h.2; omega) | (rcases h with h | h <;> (have h3 := h.1; have h4 := h.2; omega))))
  have hM := hMN
  clear hk hMN
  exact kx_iretM hx hb hrt hlk rfl ⟨hWro, hM, hM2, hWhi, hWto, hWtb, hWtn⟩ hS dX7_write_32
set_option maxHeartbeats 2500000 in
set_option maxRecDepth 100000 in
theorem k_X7_move (l : Launch) (D : va_G) (cs : Nat → ClassId) (x : Nat) (e : Nat → Int32) (g : Nat → Int64) (e1 : Nat → Int32) (g1 : Nat → Int64) (nx cn : Nat) (se : Nat → Nat → Int32) (sg : Nat → Nat → Int64) (b nn : Nat → Int32) (wd ln pa : Nat) (ft : Int32) (qf qa qt qb qn : Nat) (hI : Inv e) (hnx : nx < 4) (hcn : cn ≤ 4) (hw : wmv e (nI qf) (nI qa) (nI qt) (nI qb) (nI qn) = 0) (hM24 : Mn e < 24) (hf : qf < Rn e) (ht : qt < Rn e) (ha : qa ≤ 99) (hb9 : qb ≤ 99) (hn : qn ≤ 16) : Met l yX7_move wsX7_move ({ frames := 4, cells := 0, slots := 0, locals := 112 } : Room) (PcK D cs [.ref (x), .int (nI (qf)), .int (nI (qa)), .int (nI (qt)), .int (nI (qb)), .int (nI (qn))] (fun H => HrC D cs x e g e1 g1 nx cn se sg b nn wd ln pa ft H)) (QcM (some (.int (nI (Mn e)))) (fun H => HrC D cs x ((pmF e (nI qf) (nI qa) (nI qt) (nI qb) (nI qn))) ((pmG e g qf qa qt qb qn)) e1 g1 (((nx + 1) % 4)) ((min (cn + 1) 4)) ((hsE se nx (cfF (se nx) e))) ((hsG sg nx (cgM (sg nx) g (Mn e)))) b nn wd ln pa ft H) (rgR x)) 0 0 ((rgR x)) := by
  refine kx_met (cc := cX7_move) (maxL := 6) (ret := (some .int)) (by decide) rfl (Nat.le_of_ble_eq_true rfl) ?_
  intro p en s m args below meth c hx hb hml hrt hts hown hlk hK hN hP ls hl
  have hl : lv_has ls 6 [(0, .ref (x)), (1, .int (nI (qf))), (2, .int (nI (qa))), (3, .int (nI (qt))), (4, .int (nI (qb))), (5, .int (nI (qn)))] := hl
  obtain ⟨H, hHe⟩ : ∃ H : Heap, H = s.heap := ⟨_, rfl⟩
  rw [← hHe] at hP ⊢
  have hS : va_S ((rgR x)) s.heap H [] := by rw [← hHe]; exact va_S.rf
  have hinX7 : ∀ w ∈ wsX70, w ∈ wsX7_move := by decide +kernel
  obtain ⟨hWro, hM, hM2, hWhi, hWto, hWtb, hWtn⟩ := hP
  refine lv_aload_n hx hb dX7_move_0 rfl (lv_at hl 0 rfl) ?_
  refine kx_get (v := .ref (x + 1)) hx hb hts hinX7 hown hK hWro rfl 0 (by decide) (by decide +kernel) rfl dX7_move_1 ?_
  refine lv_iload_n hx hb dX7_move_4 rfl (lv_at hl 1 rfl) ?_
  refine lv_iload_n hx hb dX7_move_5 rfl (lv_at hl 2 rfl) ?_
  refine lv_iload_n hx hb dX7_move_6 rfl (lv_at hl 3 rfl) ?_
  refine lv_iload hx hb dX7_move_7 (lv_at hl 4 rfl) ?_
  refine lv_iload hx hb dX7_move_9 (lv_at hl 5 rfl) ?_
  refine kx_retP (va_runV (As := [.int (nI (qf)), .int (nI (qa)), .int (nI (qt)), .int (nI (qb)), .int (nI (qn))]) (rest := []) ⟨hx, hb, hml, hown, hts⟩ (k_X5_moveRefusal l D cs (x + 1) e g (nI (qf)) (nI (qa)) (nI (qt)) (nI (qb)) (nI (qn)) hI) (cwV 5 hts gX7_move_X5_moveRefusal rfl rfl rfl (by decide +kernel) ⟨Nat.le_of_ble_eq_true rfl, Nat.le_of_ble_eq_true rfl⟩) (kx_preV hK hN hM.obj rfl hM) rfl rfl hl.1 rfl (lv_room (Nat.le_of_ble_eq_true rfl)) dX7_move_11 ⟨Nat.le_of_ble_eq_true rfl, Nat.le_of_ble_eq_true rfl⟩) ?_
  refine kx_ci (x := nI (wmv e (nI (qf)) (nI (qa)) (nI (qt)) (nI (qb)) (nI (qn)))) (y := nI (0)) (congrArg nI hw) ?_
  refine kx_retP (va_runS (As := [.int (nI (0))]) (rest := []) ⟨hx, hb, hml, hown, hts⟩ (k_X7_refuse l D cs ) (cwS 1 hts gX7_move_X7_refuse rfl rfl rfl (by decide +kernel) ⟨Nat.le_of_ble_eq_true rfl, Nat.le_of_ble_eq_true rfl⟩) (kx_preS hK hN trivial) rfl rfl hl.1 rfl (lv_room (Nat.le_of_ble_eq_true rfl)) dX7_move_14 ⟨Nat.le_of_ble_eq_true rfl, Nat.le_of_ble_eq_true rfl⟩) ?_
  refine lv_aload_n hx hb dX7_move_17 rfl (lv_at hl 0 rfl) ?_
  refine kx_get (v := .ref (x + 119)) hx hb hts hinX7 hown hK hWro rfl 2 (by decide) (by decide +kernel) rfl dX7_move_18 ?_
  refine lv_aload_n hx hb dX7_move_21 rfl (lv_at hl 0 rfl) ?_
  refine kx_get (v := .ref (x + 1)) hx hb hts hinX7 hown hK hWro rfl 0 (by decide) (by decide +kernel) rfl dX7_move_22 ?_
  refine kx_retM (va_runV (As := [.ref (x + 1)]) (rest := []) ⟨hx, hb, hml, hown, hts⟩ (k_X2_save l D cs (x + 119) nx cn se sg (x + 1) e g hI (Or.inr (by omega)) hnx hcn) (cwV 1 hts gX7_move_X2_save rfl rfl rfl (by decide +kernel) ⟨Nat.le_of_ble_eq_true rfl, Nat.le_of_ble_eq_true rfl⟩) (kx_preV hK hN hWhi.obj rfl ⟨hWhi, hM⟩) rfl rfl hl.1 rfl (lv_room (Nat.le_of_ble_eq_true rfl)) dX7_move_25 ⟨Nat.le_of_ble_eq_true rfl, Nat.le_of_ble_eq_true rfl⟩) hS (fun x _ h => (by first | exact h | (have h1 := h.1; have h2 := h.2; exact ⟨by omega, by omega⟩) | (rcases h with h | h <;> (have h1 := h.1; have h2 := h.2; exact ⟨by omega, by omega⟩)))) (fun x h => (by first | exact h | (have h1 := h.1; have h2 := h.2; exact ⟨by omega, by omega⟩) | (rcases h with h | h <;> (have h1 := h.1; have h2 := h.2; exact ⟨by omega, by omega⟩)))) (fun H locs hMN hk hS => ?_)
  have hWro := hWro.kept (hk.2 _ hWro.lt (fun h => by first | (have h3 := h.1; have h4 := h.2; omega) | (rcases h with h | h <;> (have h3 := h.1; have h4 := h.2; omega))))
  have hM := hM.frame hk (fun x h1 h2 h => by first | (have h3 := h.1; have h4 := h.2; omega) | (rcases h with h | h <;> (have h3 := h.1; have h4 := h.2; omega)))
  have hM2 := hM2.frame hk (fun x h1 h2 h => by first | (have h3 := h.1; have h4 := h.2; omega) | (rcases h with h | h <;> (have h3 := h.1; have h4 := h.2; omega)))
  have hWtb := hWtb.kept (hk.2 _ hWtb.lt (fun h => by first | (have h3 := h.1; have h4 := h.2; omega) | (rcases h with h | h <;> (have h3 := h.1; have h4 := h.2; omega))))
  have hWtn := hWtn.kept (hk.2 _ hWtn.lt (fun h => by first | (have h3 := h.1; have h4 := h.2; omega) | (rcases h with h | h <;> (have h3 := h.1; have h4 := h.2; omega))))
  have hWto := hWto.kept (hk.2 _ hWto.lt (fun h => by first | (have h3 := h.1; have h4 := h.2; omega) | (rcases h with h | h <;> (have h3 := h.1; have h4 := h.2; omega))))
  have hWhi := hMN
  clear hk hMN
  refine lv_aload_n hx hb dX7_move_28 rfl (lv_at hl 0 rfl) ?_
  refine kx_get (v := .ref (x + 1)) hx hb hts hinX7 hown hK hWro rfl 0 (by decide) (by decide +kernel) rfl dX7_move_29 ?_
  refine lv_iload_n hx hb dX7_move_32 rfl (lv_at hl 1 rfl) ?_
  refine lv_iload_n hx hb dX7_move_33 rfl (lv_at hl 2 rfl) ?_
  refine lv_iload_n hx hb dX7_move_34 rfl (lv_at hl 3 rfl) ?_
  refine lv_iload hx hb dX7_move_35 (lv_at hl 4 rfl) ?_
  refine lv_iload hx hb dX7_move_37 (lv_at hl 5 rfl) ?_
  refine kx_retM (va_runV (As := [.int (nI (qf)), .int (nI (qa)), .int (nI (qt)), .int (nI (qb)), .int (nI (qn))]) (rest := []) ⟨hx, hb, hml, hown, hts⟩ (k_X5_putMove l D cs (x + 1) e g qf qa qt qb qn hI hM24 hf ht ha hb9 hn) (cwV 5 hts gX7_move_X5_putMove rfl rfl rfl (by decide +kernel) ⟨Nat.le_of_ble_eq_true rfl, Nat.le_of_ble_eq_true rfl⟩) (kx_preV hK hN hM.obj rfl hM) rfl rfl hl.1 rfl (lv_room (Nat.le_of_ble_eq_true rfl)) dX7_move_39 ⟨Nat.le_of_ble_eq_true rfl, Nat.le_of_ble_eq_true rfl⟩) hS (fun x _ h => (by first | exact h | (have h1 := h.1; have h2 := h.2; exact ⟨by omega, by omega⟩) | (rcases h with h | h <;> (have h1 := h.1; have h2 := h.2; exact ⟨by omega, by omega⟩)))) (fun x h => (by first | exact h | (have h1 := h.1; have h2 := h.2; exact ⟨by omega, by omega⟩) | (rcases h with h | h <;> (have h1 := h.1; have h2 := h.2; exact ⟨by omega, by omega⟩)))) (fun H locs hMN hk hS => ?_)
  have hWhi := hWhi.frame hk (fun x h1 h2 h => by first | (have h3 := h.1; have h4 := h.2; omega) | (rcases h with h | h <;> (have h3 := h.1; have h4 := h.2; omega)))
  have hWro := hWro.kept (hk.2 _ hWro.lt (fun h => by first | (have h3 := h.1; have h4 := h.2; omega) | (rcases h with h | h <;> (have h3 := h.1; have h4 := h.2; omega))))
  have hM2 := hM2.frame hk (fun x h1 h2 h => by first | (have h3 := h.1; have h4 := h.2; omega) | (rcases h with h | h <;> (have h3 := h.1; have h4 := h.2; omega)))
  have hWtb := hWtb.kept (hk.2 _ hWtb.lt (fun h => by first | (have h3 := h.1; have h4 := h.2; omega) | (rcases h with h | h <;> (have h3 := h.1; have h4 := h.2; omega))))
  have hWtn := hWtn.kept (hk.2 _ hWtn.lt (fun h => by first | (have h3 := h.1; have h4 := h.2; omega) | (rcases h with h | h <;> (have h3 := h.1; have h4 := h.2; omega))))
  have hWto := hWto.kept (hk.2 _ hWto.lt (fun h => by first | (have h3 := h.1; have h4 := h.2; omega) | (rcases h with h | h <;> (have h3 := h.1; have h4 := h.2; omega))))
  have hM := hMN
  clear hk hMN
  exact kx_iretM hx hb hrt hlk rfl ⟨hWro, hM, hM2, hWhi, hWto, hWtb, hWtn⟩ hS dX7_move_42
set_option maxHeartbeats 2500000 in
set_option maxRecDepth 100000 in
theorem k_X7_sign (l : Launch) (D : va_G) (cs : Nat → ClassId) (x : Nat) (e : Nat → Int32) (g : Nat → Int64) (e1 : Nat → Int32) (g1 : Nat → Int64) (nx cn : Nat) (se : Nat → Nat → Int32) (sg : Nat → Nat → Int64) (b nn : Nat → Int32) (wd ln pa : Nat) (ft : Int32) (r : Nat) (hI : Inv e) (hnx : nx < 4) (hcn : cn ≤ 4) (hw : wsg e (nI r) = 0) (hr : r < Rn e) (hf : fcN e r < Mn e) : Met l yX7_sign wsX7_sign ({ frames := 4, cells := 0, slots := 0, locals := 112 } : Room) (PcK D cs [.ref (x), .int (nI (r))] (fun H => HrC D cs x e g e1 g1 nx cn se sg b nn wd ln pa ft H)) (QcM (some (.int (nI (fcN e r)))) (fun H => HrC D cs x ((signF e (fcN e r))) g e1 g1 (((nx + 1) % 4)) ((min (cn + 1) 4)) ((hsE se nx (cfF (se nx) e))) ((hsG sg nx (cgM (sg nx) g (Mn e)))) b nn wd ln pa ft H) (rgR x)) 0 0 ((rgR x)) := by
  refine kx_met (cc := cX7_sign) (maxL := 2) (ret := (some .int)) (by decide) rfl (Nat.le_of_ble_eq_true rfl) ?_
  intro p en s m args below meth c hx hb hml hrt hts hown hlk hK hN hP ls hl
  have hl : lv_has ls 2 [(0, .ref (x)), (1, .int (nI (r)))] := hl
  obtain ⟨H, hHe⟩ : ∃ H : Heap, H = s.heap := ⟨_, rfl⟩
  rw [← hHe] at hP ⊢
  have hS : va_S ((rgR x)) s.heap H [] := by rw [← hHe]; exact va_S.rf
  have hinX7 : ∀ w ∈ wsX70, w ∈ wsX7_sign := by decide +kernel
  obtain ⟨hWro, hM, hM2, hWhi, hWto, hWtb, hWtn⟩ := hP
  refine lv_aload_n hx hb dX7_sign_0 rfl (lv_at hl 0 rfl) ?_
  refine kx_get (v := .ref (x + 1)) hx hb hts hinX7 hown hK hWro rfl 0 (by decide) (by decide +kernel) rfl dX7_sign_1 ?_
  refine lv_iload_n hx hb dX7_sign_4 rfl (lv_at hl 1 rfl) ?_
  refine kx_retP (va_runV (As := [.int (nI (r))]) (rest := []) ⟨hx, hb, hml, hown, hts⟩ (k_X5_signRefusal l D cs (x + 1) e g (nI (r)) hI) (cwV 1 hts gX7_sign_X5_signRefusal rfl rfl rfl (by decide +kernel) ⟨Nat.le_of_ble_eq_true rfl, Nat.le_of_ble_eq_true rfl⟩) (kx_preV hK hN hM.obj rfl hM) rfl rfl hl.1 rfl (lv_room (Nat.le_of_ble_eq_true rfl)) dX7_sign_5 ⟨Nat.le_of_ble_eq_true rfl, Nat.le_of_ble_eq_true rfl⟩) ?_
  refine kx_ci (x := nI (c23 (wsg e (nI (r))))) (y := nI (0)) (congrArg nI (by rw [hw]; rfl)) ?_
  refine kx_retP (va_runS (As := [.int (nI (0))]) (rest := []) ⟨hx, hb, hml, hown, hts⟩ (k_X7_refuse l D cs ) (cwS 1 hts gX7_sign_X7_refuse rfl rfl rfl (by decide +kernel) ⟨Nat.le_of_ble_eq_true rfl, Nat.le_of_ble_eq_true rfl⟩) (kx_preS hK hN trivial) rfl rfl hl.1 rfl (lv_room (Nat.le_of_ble_eq_true rfl)) dX7_sign_8 ⟨Nat.le_of_ble_eq_true rfl, Nat.le_of_ble_eq_true rfl⟩) ?_
  refine lv_aload_n hx hb dX7_sign_11 rfl (lv_at hl 0 rfl) ?_
  refine kx_get (v := .ref (x + 119)) hx hb hts hinX7 hown hK hWro rfl 2 (by decide) (by decide +kernel) rfl dX7_sign_12 ?_
  refine lv_aload_n hx hb dX7_sign_15 rfl (lv_at hl 0 rfl) ?_
  refine kx_get (v := .ref (x + 1)) hx hb hts hinX7 hown hK hWro rfl 0 (by decide) (by decide +kernel) rfl dX7_sign_16 ?_
  refine kx_retM (va_runV (As := [.ref (x + 1)]) (rest := []) ⟨hx, hb, hml, hown, hts⟩ (k_X2_save l D cs (x + 119) nx cn se sg (x + 1) e g hI (Or.inr (by omega)) hnx hcn) (cwV 1 hts gX7_sign_X2_save rfl rfl rfl (by decide +kernel) ⟨Nat.le_of_ble_eq_true rfl, Nat.le_of_ble_eq_true rfl⟩) (kx_preV hK hN hWhi.obj rfl ⟨hWhi, hM⟩) rfl rfl hl.1 rfl (lv_room (Nat.le_of_ble_eq_true rfl)) dX7_sign_19 ⟨Nat.le_of_ble_eq_true rfl, Nat.le_of_ble_eq_true rfl⟩) hS (fun x _ h => (by first | exact h | (have h1 := h.1; have h2 := h.2; exact ⟨by omega, by omega⟩) | (rcases h with h | h <;> (have h1 := h.1; have h2 := h.2; exact ⟨by omega, by omega⟩)))) (fun x h => (by first | exact h | (have h1 := h.1; have h2 := h.2; exact ⟨by omega, by omega⟩) | (rcases h with h | h <;> (have h1 := h.1; have h2 := h.2; exact ⟨by omega, by omega⟩)))) (fun H locs hMN hk hS => ?_)
  have hWro := hWro.kept (hk.2 _ hWro.lt (fun h => by first | (have h3 := h.1; have h4 := h.2; omega) | (rcases h with h | h <;> (have h3 := h.1; have h4 := h.2; omega))))
  have hM := hM.frame hk (fun x h1 h2 h => by first | (have h3 := h.1; have h4 := h.2; omega) | (rcases h with h | h <;> (have h3 := h.1; have h4 := h.2; omega)))
  have hM2 := hM2.frame hk (fun x h1 h2 h => by first | (have h3 := h.1; have h4 := h.2; omega) | (rcases h with h | h <;> (have h3 := h.1; have h4 := h.2; omega)))
  have hWtb := hWtb.kept (hk.2 _ hWtb.lt (fun h => by first | (have h3 := h.1; have h4 := h.2; omega) | (rcases h with h | h <;> (have h3 := h.1; have h4 := h.2; omega))))
  have hWtn := hWtn.kept (hk.2 _ hWtn.lt (fun h => by first | (have h3 := h.1; have h4 := h.2; omega) | (rcases h with h | h <;> (have h3 := h.1; have h4 := h.2; omega))))
  have hWto := hWto.kept (hk.2 _ hWto.lt (fun h => by first | (have h3 := h.1; have h4 := h.2; omega) | (rcases h with h | h <;> (have h3 := h.1; have h4 := h.2; omega))))
  have hWhi := hMN
  clear hk hMN
  refine lv_aload_n hx hb dX7_sign_22 rfl (lv_at hl 0 rfl) ?_
  refine kx_get (v := .ref (x + 1)) hx hb hts hinX7 hown hK hWro rfl 0 (by decide) (by decide +kernel) rfl dX7_sign_23 ?_
  refine lv_iload_n hx hb dX7_sign_26 rfl (lv_at hl 1 rfl) ?_
  refine kx_retM (va_runV (As := [.int (nI (r))]) (rest := []) ⟨hx, hb, hml, hown, hts⟩ (k_X5_signFirst l D cs (x + 1) e g r hI (by first | assumption | omega) (by first | assumption | omega)) (cwV 1 hts gX7_sign_X5_signFirst rfl rfl rfl (by decide +kernel) ⟨Nat.le_of_ble_eq_true rfl, Nat.le_of_ble_eq_true rfl⟩) (kx_preV hK hN hM.obj rfl hM) rfl rfl hl.1 rfl (lv_room (Nat.le_of_ble_eq_true rfl)) dX7_sign_27 ⟨Nat.le_of_ble_eq_true rfl, Nat.le_of_ble_eq_true rfl⟩) hS (fun x _ h => (by first | exact h | (have h1 := h.1; have h2 := h.2; exact ⟨by omega, by omega⟩) | (rcases h with h | h <;> (have h1 := h.1; have h2 := h.2; exact ⟨by omega, by omega⟩)))) (fun x h => (by first | exact h | (have h1 := h.1; have h2 := h.2; exact ⟨by omega, by omega⟩) | (rcases h with h | h <;> (have h1 := h.1; have h2 := h.2; exact ⟨by omega, by omega⟩)))) (fun H locs hMN hk hS => ?_)
  have hWhi := hWhi.frame hk (fun x h1 h2 h => by first | (have h3 := h.1; have h4 := h.2; omega) | (rcases h with h | h <;> (have h3 := h.1; have h4 := h.2; omega)))
  have hWro := hWro.kept (hk.2 _ hWro.lt (fun h => by first | (have h3 := h.1; have h4 := h.2; omega) | (rcases h with h | h <;> (have h3 := h.1; have h4 := h.2; omega))))
  have hM2 := hM2.frame hk (fun x h1 h2 h => by first | (have h3 := h.1; have h4 := h.2; omega) | (rcases h with h | h <;> (have h3 := h.1; have h4 := h.2; omega)))
  have hWtb := hWtb.kept (hk.2 _ hWtb.lt (fun h => by first | (have h3 := h.1; have h4 := h.2; omega) | (rcases h with h | h <;> (have h3 := h.1; have h4 := h.2; omega))))
  have hWtn := hWtn.kept (hk.2 _ hWtn.lt (fun h => by first | (have h3 := h.1; have h4 := h.2; omega) | (rcases h with h | h <;> (have h3 := h.1; have h4 := h.2; omega))))
  have hWto := hWto.kept (hk.2 _ hWto.lt (fun h => by first | (have h3 := h.1; have h4 := h.2; omega) | (rcases h with h | h <;> (have h3 := h.1; have h4 := h.2; omega))))
  have hM := hMN
  clear hk hMN
  exact kx_iretM hx hb hrt hlk rfl ⟨hWro, hM, hM2, hWhi, hWto, hWtb, hWtn⟩ hS dX7_sign_30
set_option maxHeartbeats 2500000 in
set_option maxRecDepth 100000 in
theorem k_X7_strike (l : Launch) (D : va_G) (cs : Nat → ClassId) (x : Nat) (e : Nat → Int32) (g : Nat → Int64) (e1 : Nat → Int32) (g1 : Nat → Int64) (nx cn : Nat) (se : Nat → Nat → Int32) (sg : Nat → Nat → Int64) (b nn : Nat → Int32) (wd ln pa : Nat) (ft : Int32) (r : Nat) (y : Bool) (hI : Inv e) (hnx : nx < 4) (hcn : cn ≤ 4) (hw : wst e (nI r) (bI y) = 0) (hr : r < Rn e) : Met l yX7_strike wsX7_strike ({ frames := 4, cells := 0, slots := 0, locals := 112 } : Room) (PcK D cs [.ref (x), .int (nI (r)), .int (bI (y))] (fun H => HrC D cs x e g e1 g1 nx cn se sg b nn wd ln pa ft H)) (QcM (some (.int (nI (cpN e r)))) (fun H => HrC D cs x ((upd e (56 + 4 * r + 3) (bI y))) g e1 g1 (((nx + 1) % 4)) ((min (cn + 1) 4)) ((hsE se nx (cfF (se nx) e))) ((hsG sg nx (cgM (sg nx) g (Mn e)))) b nn wd ln pa ft H) (rgR x)) 0 0 ((rgR x)) := by
  refine kx_met (cc := cX7_strike) (maxL := 3) (ret := (some .int)) (by decide) rfl (Nat.le_of_ble_eq_true rfl) ?_
  intro p en s m args below meth c hx hb hml hrt hts hown hlk hK hN hP ls hl
  have hl : lv_has ls 3 [(0, .ref (x)), (1, .int (nI (r))), (2, .int (bI (y)))] := hl
  obtain ⟨H, hHe⟩ : ∃ H : Heap, H = s.heap := ⟨_, rfl⟩
  rw [← hHe] at hP ⊢
  have hS : va_S ((rgR x)) s.heap H [] := by rw [← hHe]; exact va_S.rf
  have hinX7 : ∀ w ∈ wsX70, w ∈ wsX7_strike := by decide +kernel
  obtain ⟨hWro, hM, hM2, hWhi, hWto, hWtb, hWtn⟩ := hP
  refine lv_aload_n hx hb dX7_strike_0 rfl (lv_at hl 0 rfl) ?_
  refine kx_get (v := .ref (x + 1)) hx hb hts hinX7 hown hK hWro rfl 0 (by decide) (by decide +kernel) rfl dX7_strike_1 ?_
  refine lv_iload_n hx hb dX7_strike_4 rfl (lv_at hl 1 rfl) ?_
  refine lv_iload_n hx hb dX7_strike_5 rfl (lv_at hl 2 rfl) ?_
  refine kx_retP (va_runV (As := [.int (nI (r)), .int (bI (y))]) (rest := []) ⟨hx, hb, hml, hown, hts⟩ (k_X5_strikeRefusal l D cs (x + 1) e g (nI (r)) y hI) (cwV 2 hts gX7_strike_X5_strikeRefusal rfl rfl rfl (by decide +kernel) ⟨Nat.le_of_ble_eq_true rfl, Nat.le_of_ble_eq_true rfl⟩) (kx_preV hK hN hM.obj rfl hM) rfl rfl hl.1 rfl (lv_room (Nat.le_of_ble_eq_true rfl)) dX7_strike_6 ⟨Nat.le_of_ble_eq_true rfl, Nat.le_of_ble_eq_true rfl⟩) ?_
  refine kx_ci (x := nI (c23 (wst e (nI (r)) (bI y)))) (y := nI (0)) (congrArg nI (by rw [hw]; rfl)) ?_
  refine kx_retP (va_runS (As := [.int (nI (0))]) (rest := []) ⟨hx, hb, hml, hown, hts⟩ (k_X7_refuse l D cs ) (cwS 1 hts gX7_strike_X7_refuse rfl rfl rfl (by decide +kernel) ⟨Nat.le_of_ble_eq_true rfl, Nat.le_of_ble_eq_true rfl⟩) (kx_preS hK hN trivial) rfl rfl hl.1 rfl (lv_room (Nat.le_of_ble_eq_true rfl)) dX7_strike_9 ⟨Nat.le_of_ble_eq_true rfl, Nat.le_of_ble_eq_true rfl⟩) ?_
  refine lv_aload_n hx hb dX7_strike_12 rfl (lv_at hl 0 rfl) ?_
  refine kx_get (v := .ref (x + 119)) hx hb hts hinX7 hown hK hWro rfl 2 (by decide) (by decide +kernel) rfl dX7_strike_13 ?_
  refine lv_aload_n hx hb dX7_strike_16 rfl (lv_at hl 0 rfl) ?_
  refine kx_get (v := .ref (x + 1)) hx hb hts hinX7 hown hK hWro rfl 0 (by decide) (by decide +kernel) rfl dX7_strike_17 ?_
  refine kx_retM (va_runV (As := [.ref (x + 1)]) (rest := []) ⟨hx, hb, hml, hown, hts⟩ (k_X2_save l D cs (x + 119) nx cn se sg (x + 1) e g hI (Or.inr (by omega)) hnx hcn) (cwV 1 hts gX7_strike_X2_save rfl rfl rfl (by decide +kernel) ⟨Nat.le_of_ble_eq_true rfl, Nat.le_of_ble_eq_true rfl⟩) (kx_preV hK hN hWhi.obj rfl ⟨hWhi, hM⟩) rfl rfl hl.1 rfl (lv_room (Nat.le_of_ble_eq_true rfl)) dX7_strike_20 ⟨Nat.le_of_ble_eq_true rfl, Nat.le_of_ble_eq_true rfl⟩) hS (fun x _ h => (by first | exact h | (have h1 := h.1; have h2 := h.2; exact ⟨by omega, by omega⟩) | (rcases h with h | h <;> (have h1 := h.1; have h2 := h.2; exact ⟨by omega, by omega⟩)))) (fun x h => (by first | exact h | (have h1 := h.1; have h2 := h.2; exact ⟨by omega, by omega⟩) | (rcases h with h | h <;> (have h1 := h.1; have h2 := h.2; exact ⟨by omega, by omega⟩)))) (fun H locs hMN hk hS => ?_)
  have hWro := hWro.kept (hk.2 _ hWro.lt (fun h => by first | (have h3 := h.1; have h4 := h.2; omega) | (rcases h with h | h <;> (have h3 := h.1; have h4 := h.2; omega))))
  have hM := hM.frame hk (fun x h1 h2 h => by first | (have h3 := h.1; have h4 := h.2; omega) | (rcases h with h | h <;> (have h3 := h.1; have h4 := h.2; omega)))
  have hM2 := hM2.frame hk (fun x h1 h2 h => by first | (have h3 := h.1; have h4 := h.2; omega) | (rcases h with h | h <;> (have h3 := h.1; have h4 := h.2; omega)))
  have hWtb := hWtb.kept (hk.2 _ hWtb.lt (fun h => by first | (have h3 := h.1; have h4 := h.2; omega) | (rcases h with h | h <;> (have h3 := h.1; have h4 := h.2; omega))))
  have hWtn := hWtn.kept (hk.2 _ hWtn.lt (fun h => by first | (have h3 := h.1; have h4 := h.2; omega) | (rcases h with h | h <;> (have h3 := h.1; have h4 := h.2; omega))))
  have hWto := hWto.kept (hk.2 _ hWto.lt (fun h => by first | (have h3 := h.1; have h4 := h.2; omega) | (rcases h with h | h <;> (have h3 := h.1; have h4 := h.2; omega))))
  have hWhi := hMN
  clear hk hMN
  refine lv_aload_n hx hb dX7_strike_23 rfl (lv_at hl 0 rfl) ?_
  refine kx_get (v := .ref (x + 1)) hx hb hts hinX7 hown hK hWro rfl 0 (by decide) (by decide +kernel) rfl dX7_strike_24 ?_
  refine lv_iload_n hx hb dX7_strike_27 rfl (lv_at hl 1 rfl) ?_
  refine lv_iload_n hx hb dX7_strike_28 rfl (lv_at hl 2 rfl) ?_
  refine kx_retM (va_runV (As := [.int (nI (r)), .int (bI (y))]) (rest := []) ⟨hx, hb, hml, hown, hts⟩ (k_X5_putStrike l D cs (x + 1) e g r y hI (by first | assumption | omega)) (cwV 2 hts gX7_strike_X5_putStrike rfl rfl rfl (by decide +kernel) ⟨Nat.le_of_ble_eq_true rfl, Nat.le_of_ble_eq_true rfl⟩) (kx_preV hK hN hM.obj rfl hM) rfl rfl hl.1 rfl (lv_room (Nat.le_of_ble_eq_true rfl)) dX7_strike_29 ⟨Nat.le_of_ble_eq_true rfl, Nat.le_of_ble_eq_true rfl⟩) hS (fun x _ h => (by first | exact h | (have h1 := h.1; have h2 := h.2; exact ⟨by omega, by omega⟩) | (rcases h with h | h <;> (have h1 := h.1; have h2 := h.2; exact ⟨by omega, by omega⟩)))) (fun x h => (by first | exact h | (have h1 := h.1; have h2 := h.2; exact ⟨by omega, by omega⟩) | (rcases h with h | h <;> (have h1 := h.1; have h2 := h.2; exact ⟨by omega, by omega⟩)))) (fun H locs hMN hk hS => ?_)
  have hWhi := hWhi.frame hk (fun x h1 h2 h => by first | (have h3 := h.1; have h4 := h.2; omega) | (rcases h with h | h <;> (have h3 := h.1; have h4 := h.2; omega)))
  have hWro := hWro.kept (hk.2 _ hWro.lt (fun h => by first | (have h3 := h.1; have h4 := h.2; omega) | (rcases h with h | h <;> (have h3 := h.1; have h4 := h.2; omega))))
  have hM2 := hM2.frame hk (fun x h1 h2 h => by first | (have h3 := h.1; have h4 := h.2; omega) | (rcases h with h | h <;> (have h3 := h.1; have h4 := h.2; omega)))
  have hWtb := hWtb.kept (hk.2 _ hWtb.lt (fun h => by first | (have h3 := h.1; have h4 := h.2; omega) | (rcases h with h | h <;> (have h3 := h.1; have h4 := h.2; omega))))
  have hWtn := hWtn.kept (hk.2 _ hWtn.lt (fun h => by first | (have h3 := h.1; have h4 := h.2; omega) | (rcases h with h | h <;> (have h3 := h.1; have h4 := h.2; omega))))
  have hWto := hWto.kept (hk.2 _ hWto.lt (fun h => by first | (have h3 := h.1; have h4 := h.2; omega) | (rcases h with h | h <;> (have h3 := h.1; have h4 := h.2; omega))))
  have hM := hMN
  clear hk hMN
  exact kx_iretM hx hb hrt hlk rfl ⟨hWro, hM, hM2, hWhi, hWto, hWtb, hWtn⟩ hS dX7_strike_32
set_option maxHeartbeats 2500000 in
set_option maxRecDepth 100000 in
theorem k_X7_pass (l : Launch) (D : va_G) (cs : Nat → ClassId) (x : Nat) (e : Nat → Int32) (g : Nat → Int64) (e1 : Nat → Int32) (g1 : Nat → Int64) (nx cn : Nat) (se : Nat → Nat → Int32) (sg : Nat → Nat → Int64) (b nn : Nat → Int32) (wd ln pa : Nat) (ft : Int32) (n0 : Nat) (hI : Inv e) (hG : Msk e g) (hnx : nx < 4) (hcn : cn ≤ 4) (hw : wtk e (nI n0) = 0) (hn : n0 < 1000) : Met l yX7_pass wsX7_pass ({ frames := 5, cells := 0, slots := 0, locals := 112 } : Room) (PcK D cs [.ref (x), .int (nI (n0))] (fun H => HrC D cs x e g e1 g1 nx cn se sg b nn wd ln pa ft H)) (QcM (some (.int (nI (psN e n0)))) (fun H => HrC D cs x ((psF e n0)) g e1 g1 (((nx + 1) % 4)) ((min (cn + 1) 4)) ((hsE se nx (cfF (se nx) e))) ((hsG sg nx (cgM (sg nx) g (Mn e)))) b nn wd ln pa ft H) (rgR x)) 0 0 ((rgR x)) := by
  refine kx_met (cc := cX7_pass) (maxL := 2) (ret := (some .int)) (by decide) rfl (Nat.le_of_ble_eq_true rfl) ?_
  intro p en s m args below meth c hx hb hml hrt hts hown hlk hK hN hP ls hl
  have hl : lv_has ls 2 [(0, .ref (x)), (1, .int (nI (n0)))] := hl
  obtain ⟨H, hHe⟩ : ∃ H : Heap, H = s.heap := ⟨_, rfl⟩
  rw [← hHe] at hP ⊢
  have hS : va_S ((rgR x)) s.heap H [] := by rw [← hHe]; exact va_S.rf
  have hinX7 : ∀ w ∈ wsX70, w ∈ wsX7_pass := by decide +kernel
  obtain ⟨hWro, hM, hM2, hWhi, hWto, hWtb, hWtn⟩ := hP
  refine lv_aload_n hx hb dX7_pass_0 rfl (lv_at hl 0 rfl) ?_
  refine kx_get (v := .ref (x + 1)) hx hb hts hinX7 hown hK hWro rfl 0 (by decide) (by decide +kernel) rfl dX7_pass_1 ?_
  refine lv_iload_n hx hb dX7_pass_4 rfl (lv_at hl 1 rfl) ?_
  refine kx_retP (va_runV (As := [.int (nI (n0))]) (rest := []) ⟨hx, hb, hml, hown, hts⟩ (k_X5_passRefusal l D cs (x + 1) e g (nI (n0))) (cwV 1 hts gX7_pass_X5_passRefusal rfl rfl rfl (by decide +kernel) ⟨Nat.le_of_ble_eq_true rfl, Nat.le_of_ble_eq_true rfl⟩) (kx_preV hK hN hM.obj rfl hM) rfl rfl hl.1 rfl (lv_room (Nat.le_of_ble_eq_true rfl)) dX7_pass_5 ⟨Nat.le_of_ble_eq_true rfl, Nat.le_of_ble_eq_true rfl⟩) ?_
  refine kx_ci (x := nI (c12 (wtk e (nI (n0))))) (y := nI (0)) (congrArg nI (by rw [hw]; rfl)) ?_
  refine kx_retP (va_runS (As := [.int (nI (0))]) (rest := []) ⟨hx, hb, hml, hown, hts⟩ (k_X7_refuse l D cs ) (cwS 1 hts gX7_pass_X7_refuse rfl rfl rfl (by decide +kernel) ⟨Nat.le_of_ble_eq_true rfl, Nat.le_of_ble_eq_true rfl⟩) (kx_preS hK hN trivial) rfl rfl hl.1 rfl (lv_room (Nat.le_of_ble_eq_true rfl)) dX7_pass_8 ⟨Nat.le_of_ble_eq_true rfl, Nat.le_of_ble_eq_true rfl⟩) ?_
  refine lv_aload_n hx hb dX7_pass_11 rfl (lv_at hl 0 rfl) ?_
  refine kx_get (v := .ref (x + 119)) hx hb hts hinX7 hown hK hWro rfl 2 (by decide) (by decide +kernel) rfl dX7_pass_12 ?_
  refine lv_aload_n hx hb dX7_pass_15 rfl (lv_at hl 0 rfl) ?_
  refine kx_get (v := .ref (x + 1)) hx hb hts hinX7 hown hK hWro rfl 0 (by decide) (by decide +kernel) rfl dX7_pass_16 ?_
  refine kx_retM (va_runV (As := [.ref (x + 1)]) (rest := []) ⟨hx, hb, hml, hown, hts⟩ (k_X2_save l D cs (x + 119) nx cn se sg (x + 1) e g hI (Or.inr (by omega)) hnx hcn) (cwV 1 hts gX7_pass_X2_save rfl rfl rfl (by decide +kernel) ⟨Nat.le_of_ble_eq_true rfl, Nat.le_of_ble_eq_true rfl⟩) (kx_preV hK hN hWhi.obj rfl ⟨hWhi, hM⟩) rfl rfl hl.1 rfl (lv_room (Nat.le_of_ble_eq_true rfl)) dX7_pass_19 ⟨Nat.le_of_ble_eq_true rfl, Nat.le_of_ble_eq_true rfl⟩) hS (fun x _ h => (by first | exact h | (have h1 := h.1; have h2 := h.2; exact ⟨by omega, by omega⟩) | (rcases h with h | h <;> (have h1 := h.1; have h2 := h.2; exact ⟨by omega, by omega⟩)))) (fun x h => (by first | exact h | (have h1 := h.1; have h2 := h.2; exact ⟨by omega, by omega⟩) | (rcases h with h | h <;> (have h1 := h.1; have h2 := h.2; exact ⟨by omega, by omega⟩)))) (fun H locs hMN hk hS => ?_)
  have hWro := hWro.kept (hk.2 _ hWro.lt (fun h => by first | (have h3 := h.1; have h4 := h.2; omega) | (rcases h with h | h <;> (have h3 := h.1; have h4 := h.2; omega))))
  have hM := hM.frame hk (fun x h1 h2 h => by first | (have h3 := h.1; have h4 := h.2; omega) | (rcases h with h | h <;> (have h3 := h.1; have h4 := h.2; omega)))
  have hM2 := hM2.frame hk (fun x h1 h2 h => by first | (have h3 := h.1; have h4 := h.2; omega) | (rcases h with h | h <;> (have h3 := h.1; have h4 := h.2; omega)))
  have hWtb := hWtb.kept (hk.2 _ hWtb.lt (fun h => by first | (have h3 := h.1; have h4 := h.2; omega) | (rcases h with h | h <;> (have h3 := h.1; have h4 := h.2; omega))))
  have hWtn := hWtn.kept (hk.2 _ hWtn.lt (fun h => by first | (have h3 := h.1; have h4 := h.2; omega) | (rcases h with h | h <;> (have h3 := h.1; have h4 := h.2; omega))))
  have hWto := hWto.kept (hk.2 _ hWto.lt (fun h => by first | (have h3 := h.1; have h4 := h.2; omega) | (rcases h with h | h <;> (have h3 := h.1; have h4 := h.2; omega))))
  have hWhi := hMN
  clear hk hMN
  refine lv_aload_n hx hb dX7_pass_22 rfl (lv_at hl 0 rfl) ?_
  refine kx_get (v := .ref (x + 1)) hx hb hts hinX7 hown hK hWro rfl 0 (by decide) (by decide +kernel) rfl dX7_pass_23 ?_
  refine lv_iload_n hx hb dX7_pass_26 rfl (lv_at hl 1 rfl) ?_
  refine kx_retM (va_runV (As := [.int (nI (n0))]) (rest := []) ⟨hx, hb, hml, hown, hts⟩ (k_X5_letPass l D cs (x + 1) e g n0 hI hG (by first | assumption | omega)) (cwV 1 hts gX7_pass_X5_letPass rfl rfl rfl (by decide +kernel) ⟨Nat.le_of_ble_eq_true rfl, Nat.le_of_ble_eq_true rfl⟩) (kx_preV hK hN hM.obj rfl hM) rfl rfl hl.1 rfl (lv_room (Nat.le_of_ble_eq_true rfl)) dX7_pass_27 ⟨Nat.le_of_ble_eq_true rfl, Nat.le_of_ble_eq_true rfl⟩) hS (fun x _ h => (by first | exact h | (have h1 := h.1; have h2 := h.2; exact ⟨by omega, by omega⟩) | (rcases h with h | h <;> (have h1 := h.1; have h2 := h.2; exact ⟨by omega, by omega⟩)))) (fun x h => (by first | exact h | (have h1 := h.1; have h2 := h.2; exact ⟨by omega, by omega⟩) | (rcases h with h | h <;> (have h1 := h.1; have h2 := h.2; exact ⟨by omega, by omega⟩)))) (fun H locs hMN hk hS => ?_)
  have hWhi := hWhi.frame hk (fun x h1 h2 h => by first | (have h3 := h.1; have h4 := h.2; omega) | (rcases h with h | h <;> (have h3 := h.1; have h4 := h.2; omega)))
  have hWro := hWro.kept (hk.2 _ hWro.lt (fun h => by first | (have h3 := h.1; have h4 := h.2; omega) | (rcases h with h | h <;> (have h3 := h.1; have h4 := h.2; omega))))
  have hM2 := hM2.frame hk (fun x h1 h2 h => by first | (have h3 := h.1; have h4 := h.2; omega) | (rcases h with h | h <;> (have h3 := h.1; have h4 := h.2; omega)))
  have hWtb := hWtb.kept (hk.2 _ hWtb.lt (fun h => by first | (have h3 := h.1; have h4 := h.2; omega) | (rcases h with h | h <;> (have h3 := h.1; have h4 := h.2; omega))))
  have hWtn := hWtn.kept (hk.2 _ hWtn.lt (fun h => by first | (have h3 := h.1; have h4 := h.2; omega) | (rcases h with h | h <;> (have h3 := h.1; have h4 := h.2; omega))))
  have hWto := hWto.kept (hk.2 _ hWto.lt (fun h => by first | (have h3 := h.1; have h4 := h.2; omega) | (rcases h with h | h <;> (have h3 := h.1; have h4 := h.2; omega))))
  have hM := hMN
  clear hk hMN
  exact kx_iretM hx hb hrt hlk rfl ⟨hWro, hM, hM2, hWhi, hWto, hWtb, hWtn⟩ hS dX7_pass_30
set_option maxHeartbeats 2500000 in
set_option maxRecDepth 100000 in
theorem k_X7_cell (l : Launch) (D : va_G) (cs : Nat → ClassId) (x : Nat) (e : Nat → Int32) (g : Nat → Int64) (e1 : Nat → Int32) (g1 : Nat → Int64) (nx cn : Nat) (se : Nat → Nat → Int32) (sg : Nat → Nat → Int64) (b nn : Nat → Int32) (wd ln pa : Nat) (ft : Int32) (w : Nat) (hw : w < 48) : Met l yX7_cell wsX7_cell ({ frames := 3, cells := 0, slots := 0, locals := 62 } : Room) (PcK D cs [.ref (x), .int (nI (w))] (fun H => HrC D cs x e g e1 g1 nx cn se sg b nn wd ln pa ft H)) (QcP (some (.int (e (8 + w))))) 0 0 nowhere := by
  refine kx_met (cc := cX7_cell) (maxL := 2) (ret := (some .int)) (by decide) rfl (Nat.le_of_ble_eq_true rfl) ?_
  intro p en s m args below meth c hx hb hml hrt hts hown hlk hK hN hP ls hl
  have hl : lv_has ls 2 [(0, .ref (x)), (1, .int (nI (w)))] := hl
  have hinX5 : ∀ w ∈ wsX50, w ∈ wsX7_cell := by decide +kernel
  have hinX7 : ∀ w ∈ wsX70, w ∈ wsX7_cell := by decide +kernel
  obtain ⟨hWro, hM, hM2, hWhi, hWto, hWtb, hWtn⟩ := hP
  refine lv_iload_n hx hb dX7_cell_0 rfl (lv_at hl 1 rfl) ?_
  refine kx_retP (va_runS (As := [.int (nI (w))]) (rest := []) ⟨hx, hb, hml, hown, hts⟩ (k_X7_requireCell l D cs w (by first | assumption | omega)) (cwS 1 hts gX7_cell_X7_requireCell rfl rfl rfl (by decide +kernel) ⟨Nat.le_of_ble_eq_true rfl, Nat.le_of_ble_eq_true rfl⟩) (kx_preS hK hN trivial) rfl rfl hl.1 rfl (lv_room (Nat.le_of_ble_eq_true rfl)) dX7_cell_1 ⟨Nat.le_of_ble_eq_true rfl, Nat.le_of_ble_eq_true rfl⟩) ?_
  refine lv_aload_n hx hb dX7_cell_4 rfl (lv_at hl 0 rfl) ?_
  refine kx_get (v := .ref (x + 1)) hx hb hts hinX7 hown hK hWro rfl 0 (by decide) (by decide +kernel) rfl dX7_cell_5 ?_
  refine kx_get (v := .ref (x + 1 + 1)) hx hb hts hinX5 hown hK hM.obj rfl 0 (by decide) (by decide +kernel) rfl dX7_cell_8 ?_
  refine lv_iload_n hx hb dX7_cell_11 rfl (lv_at hl 1 rfl) ?_
  refine kx_iald (i := w) hx hb hK hM.cells 0 rfl (by omega) (by decide) dX7_cell_12 ?_
  exact kx_iretP hx hb hrt hlk rfl dX7_cell_13
set_option maxHeartbeats 2500000 in
set_option maxRecDepth 100000 in
theorem k_X7_moveOf (l : Launch) (D : va_G) (cs : Nat → ClassId) (x : Nat) (e : Nat → Int32) (g : Nat → Int64) (e1 : Nat → Int32) (g1 : Nat → Int64) (nx cn : Nat) (se : Nat → Nat → Int32) (sg : Nat → Nat → Int64) (b nn : Nat → Int32) (wd ln pa : Nat) (ft : Int32) (mv w : Nat) (hI : Inv e) (hm : mv < Mn e) (hw : w < 10) : Met l yX7_moveOf wsX7_moveOf ({ frames := 2, cells := 0, slots := 0, locals := 43 } : Room) (PcK D cs [.ref (x), .int (nI (mv)), .int (nI (w))] (fun H => HrC D cs x e g e1 g1 nx cn se sg b nn wd ln pa ft H)) (QcP (some (.int (e (80 + 10 * mv + w))))) 0 0 nowhere := by
  refine kx_met (cc := cX7_moveOf) (maxL := 3) (ret := (some .int)) (by decide) rfl (Nat.le_of_ble_eq_true rfl) ?_
  intro p en s m args below meth c hx hb hml hrt hts hown hlk hK hN hP ls hl
  have hl : lv_has ls 3 [(0, .ref (x)), (1, .int (nI (mv))), (2, .int (nI (w)))] := hl
  have hinX5 : ∀ w ∈ wsX50, w ∈ wsX7_moveOf := by decide +kernel
  have hinX7 : ∀ w ∈ wsX70, w ∈ wsX7_moveOf := by decide +kernel
  obtain ⟨hWro, hM, hM2, hWhi, hWto, hWtb, hWtn⟩ := hP
  have h24 := hI.M24
  have h6 := hI.R6
  refine lv_aload_n hx hb dX7_moveOf_0 rfl (lv_at hl 0 rfl) ?_
  refine lv_iload_n hx hb dX7_moveOf_1 rfl (lv_at hl 1 rfl) ?_
  refine kx_retP (va_runV (As := [.int (nI (mv))]) (rest := []) ⟨hx, hb, hml, hown, hts⟩ (k_X7_requireMove l D cs x e g e1 g1 nx cn se sg b nn wd ln pa ft hI mv (by first | assumption | omega)) (cwV 1 hts gX7_moveOf_X7_requireMove rfl rfl rfl (by decide +kernel) ⟨Nat.le_of_ble_eq_true rfl, Nat.le_of_ble_eq_true rfl⟩) (kx_preV hK hN hWro rfl ⟨hWro, hM, hM2, hWhi, hWto, hWtb, hWtn⟩) rfl rfl hl.1 rfl (lv_room (Nat.le_of_ble_eq_true rfl)) dX7_moveOf_2 ⟨Nat.le_of_ble_eq_true rfl, Nat.le_of_ble_eq_true rfl⟩) ?_
  refine lv_iload_n hx hb dX7_moveOf_5 rfl (lv_at hl 2 rfl) ?_
  refine lv_bipush (v := nI 9) hx hb dX7_moveOf_6 (by decide) ?_
  refine kx_retP (va_runS (As := [.int (nI (w)), .int (nI (9))]) (rest := []) ⟨hx, hb, hml, hown, hts⟩ (k_X7_requireRange l D cs w 9 (by omega) (by decide)) (cwS 2 hts gX7_moveOf_X7_requireRange rfl rfl rfl (by decide +kernel) ⟨Nat.le_of_ble_eq_true rfl, Nat.le_of_ble_eq_true rfl⟩) (kx_preS hK hN trivial) rfl rfl hl.1 rfl (lv_room (Nat.le_of_ble_eq_true rfl)) dX7_moveOf_8 ⟨Nat.le_of_ble_eq_true rfl, Nat.le_of_ble_eq_true rfl⟩) ?_
  refine lv_aload_n hx hb dX7_moveOf_11 rfl (lv_at hl 0 rfl) ?_
  refine kx_get (v := .ref (x + 1)) hx hb hts hinX7 hown hK hWro rfl 0 (by decide) (by decide +kernel) rfl dX7_moveOf_12 ?_
  refine kx_get (v := .ref (x + 1 + 3)) hx hb hts hinX5 hown hK hM.obj rfl 2 (by decide) (by decide +kernel) rfl dX7_moveOf_15 ?_
  refine lv_iload_n hx hb dX7_moveOf_18 rfl (lv_at hl 1 rfl) ?_
  refine kx_aald (i := mv) hx hb hK hM.moves 3 rfl (by omega) (by decide) rfl dX7_moveOf_19 ?_
  refine lv_iload_n hx hb dX7_moveOf_20 rfl (lv_at hl 2 rfl) ?_
  refine kx_retP (va_runV (As := [.int (nI (w))]) (rest := []) ⟨hx, hb, hml, hown, hts⟩ (k_X3_part l D cs (x + 1) e g mv w (by first | assumption | omega) (by first | assumption | omega)) (cwV 1 hts gX7_moveOf_X3_part rfl rfl rfl (by decide +kernel) ⟨Nat.le_of_ble_eq_true rfl, Nat.le_of_ble_eq_true rfl⟩) (kx_preV hK hN (hM.mv (m := mv) (by omega)) rfl hM) rfl rfl hl.1 rfl (lv_room (Nat.le_of_ble_eq_true rfl)) dX7_moveOf_21 ⟨Nat.le_of_ble_eq_true rfl, Nat.le_of_ble_eq_true rfl⟩) ?_
  exact kx_iretP hx hb hrt hlk rfl dX7_moveOf_24
set_option maxHeartbeats 2500000 in
set_option maxRecDepth 100000 in
theorem k_X7_hostage (l : Launch) (D : va_G) (cs : Nat → ClassId) (x : Nat) (e : Nat → Int32) (g : Nat → Int64) (e1 : Nat → Int32) (g1 : Nat → Int64) (nx cn : Nat) (se : Nat → Nat → Int32) (sg : Nat → Nat → Int64) (b nn : Nat → Int32) (wd ln pa : Nat) (ft : Int32) (mv i0 : Nat) (hI : Inv e) (hm : mv < Mn e) (hi9 : i0 < 2 ^ 31) : Met l yX7_hostage wsX7_hostage ({ frames := 2, cells := 0, slots := 0, locals := 41 } : Room) (PcK D cs [.ref (x), .int (nI (mv)), .int (nI (i0))] (fun H => HrC D cs x e g e1 g1 nx cn se sg b nn wd ln pa ft H)) (QcP (some (.int (hxI e mv (nI i0))))) 0 0 nowhere := by
  refine kx_met (cc := cX7_hostage) (maxL := 3) (ret := (some .int)) (by decide) rfl (Nat.le_of_ble_eq_true rfl) ?_
  intro p en s m args below meth c hx hb hml hrt hts hown hlk hK hN hP ls hl
  have hl : lv_has ls 3 [(0, .ref (x)), (1, .int (nI (mv))), (2, .int (nI (i0)))] := hl
  have hinX5 : ∀ w ∈ wsX50, w ∈ wsX7_hostage := by decide +kernel
  have hinX7 : ∀ w ∈ wsX70, w ∈ wsX7_hostage := by decide +kernel
  obtain ⟨hWro, hM, hM2, hWhi, hWto, hWtb, hWtn⟩ := hP
  have h24 := hI.M24
  have h6 := hI.R6
  refine lv_aload_n hx hb dX7_hostage_0 rfl (lv_at hl 0 rfl) ?_
  refine lv_iload_n hx hb dX7_hostage_1 rfl (lv_at hl 1 rfl) ?_
  refine kx_retP (va_runV (As := [.int (nI (mv))]) (rest := []) ⟨hx, hb, hml, hown, hts⟩ (k_X7_requireMove l D cs x e g e1 g1 nx cn se sg b nn wd ln pa ft hI mv (by first | assumption | omega)) (cwV 1 hts gX7_hostage_X7_requireMove rfl rfl rfl (by decide +kernel) ⟨Nat.le_of_ble_eq_true rfl, Nat.le_of_ble_eq_true rfl⟩) (kx_preV hK hN hWro rfl ⟨hWro, hM, hM2, hWhi, hWto, hWtb, hWtn⟩) rfl rfl hl.1 rfl (lv_room (Nat.le_of_ble_eq_true rfl)) dX7_hostage_2 ⟨Nat.le_of_ble_eq_true rfl, Nat.le_of_ble_eq_true rfl⟩) ?_
  refine lv_iload_n hx hb dX7_hostage_5 rfl (lv_at hl 2 rfl) ?_
  refine lv_if_ge (tgt := 19) hx hb dX7_hostage_6 (by decide) (fun _ => ?_) (fun h => absurd (i_nlt.mp (kn_neg (by omega))) h)
  refine lv_aload_n hx hb dX7_hostage_19 rfl (lv_at hl 0 rfl) ?_
  refine kx_get (v := .ref (x + 1)) hx hb hts hinX7 hown hK hWro rfl 0 (by decide) (by decide +kernel) rfl dX7_hostage_20 ?_
  refine kx_get (v := .ref (x + 1 + 3)) hx hb hts hinX5 hown hK hM.obj rfl 2 (by decide) (by decide +kernel) rfl dX7_hostage_23 ?_
  refine lv_iload_n hx hb dX7_hostage_26 rfl (lv_at hl 1 rfl) ?_
  refine kx_aald (i := mv) hx hb hK hM.moves 3 rfl (by omega) (by decide) rfl dX7_hostage_27 ?_
  refine lv_iload_n hx hb dX7_hostage_28 rfl (lv_at hl 2 rfl) ?_
  refine kx_retP (va_runV (As := [.int (nI (i0))]) (rest := []) ⟨hx, hb, hml, hown, hts⟩ (k_X3_hostageAt l D cs (x + 1) e g mv (nI (i0)) hI (by first | assumption | omega)) (cwV 1 hts gX7_hostage_X3_hostageAt rfl rfl rfl (by decide +kernel) ⟨Nat.le_of_ble_eq_true rfl, Nat.le_of_ble_eq_true rfl⟩) (kx_preV hK hN (hM.mv (m := mv) (by omega)) rfl hM) rfl rfl hl.1 rfl (lv_room (Nat.le_of_ble_eq_true rfl)) dX7_hostage_29 ⟨Nat.le_of_ble_eq_true rfl, Nat.le_of_ble_eq_true rfl⟩) ?_
  exact kx_iretP hx hb hrt hlk (by first | rfl | simp [*]) dX7_hostage_32
set_option maxHeartbeats 2500000 in
set_option maxRecDepth 100000 in
theorem k_X7_cellSet (l : Launch) (D : va_G) (cs : Nat → ClassId) (x : Nat) (e : Nat → Int32) (g : Nat → Int64) (e1 : Nat → Int32) (g1 : Nat → Int64) (nx cn : Nat) (se : Nat → Nat → Int32) (sg : Nat → Nat → Int64) (b nn : Nat → Int32) (wd ln pa : Nat) (ft : Int32) (mv : Nat) (y : Bool) (hI : Inv e) (hG : Msk e g) (hm : mv < Mn e) : Met l yX7_cellSet wsX7_cellSet ({ frames := 1, cells := 0, slots := 0, locals := 21 } : Room) (PcK D cs [.ref (x), .int (nI (mv)), .int (bI (y))] (fun H => HrC D cs x e g e1 g1 nx cn se sg b nn wd ln pa ft H)) (QcP (some (.long (lN (csN e y mv))))) 0 0 nowhere := by
  refine kx_met (cc := cX7_cellSet) (maxL := 3) (ret := (some .long)) (by decide) rfl (Nat.le_of_ble_eq_true rfl) ?_
  intro p en s m args below meth c hx hb hml hrt hts hown hlk hK hN hP ls hl
  have hl : lv_has ls 3 [(0, .ref (x)), (1, .int (nI (mv))), (2, .int (bI (y)))] := hl
  have hinX3 : ∀ w ∈ wsX30, w ∈ wsX7_cellSet := by decide +kernel
  have hinX5 : ∀ w ∈ wsX50, w ∈ wsX7_cellSet := by decide +kernel
  have hinX7 : ∀ w ∈ wsX70, w ∈ wsX7_cellSet := by decide +kernel
  obtain ⟨hWro, hM, hM2, hWhi, hWto, hWtb, hWtn⟩ := hP
  have h24 := hI.M24
  have h6 := hI.R6
  refine lv_aload_n hx hb dX7_cellSet_0 rfl (lv_at hl 0 rfl) ?_
  refine lv_iload_n hx hb dX7_cellSet_1 rfl (lv_at hl 1 rfl) ?_
  refine kx_retP (va_runV (As := [.int (nI (mv))]) (rest := []) ⟨hx, hb, hml, hown, hts⟩ (k_X7_requireMove l D cs x e g e1 g1 nx cn se sg b nn wd ln pa ft hI mv (by first | assumption | omega)) (cwV 1 hts gX7_cellSet_X7_requireMove rfl rfl rfl (by decide +kernel) ⟨Nat.le_of_ble_eq_true rfl, Nat.le_of_ble_eq_true rfl⟩) (kx_preV hK hN hWro rfl ⟨hWro, hM, hM2, hWhi, hWto, hWtb, hWtn⟩) rfl rfl hl.1 rfl (lv_room (Nat.le_of_ble_eq_true rfl)) dX7_cellSet_2 ⟨Nat.le_of_ble_eq_true rfl, Nat.le_of_ble_eq_true rfl⟩) ?_
  refine lv_iload_n hx hb dX7_cellSet_5 rfl (lv_at hl 2 rfl) ?_
  refine kb_if_eq (tgt := 24) hx hb dX7_cellSet_6 (by decide) (fun hy => ?_) (fun hy => ?_)
  · refine lv_aload_n hx hb dX7_cellSet_24 rfl (lv_at hl 0 rfl) ?_
    refine kx_get (v := .ref (x + 1)) hx hb hts hinX7 hown hK hWro rfl 0 (by decide) (by decide +kernel) rfl dX7_cellSet_25 ?_
    refine kx_get (v := .ref (x + 1 + 3)) hx hb hts hinX5 hown hK hM.obj rfl 2 (by decide) (by decide +kernel) rfl dX7_cellSet_28 ?_
    refine lv_iload_n hx hb dX7_cellSet_31 rfl (lv_at hl 1 rfl) ?_
    refine kx_aald (i := mv) hx hb hK hM.moves 3 rfl (by omega) (by decide) rfl dX7_cellSet_32 ?_
    refine kx_get (v := .long (g (2 * mv))) hx hb hts hinX3 hown hK (hM.mv (m := mv) (by omega)) rfl 5 (by decide) (by decide +kernel) rfl dX7_cellSet_33 ?_
    refine kx_cl (x := g (2 * mv)) (y := lN (csN e false mv)) (hG mv (by first | assumption | omega)).1 ?_
    exact kx_lretP hx hb hrt hlk (by rw [hy]) dX7_cellSet_36
  · refine lv_aload_n hx hb dX7_cellSet_9 rfl (lv_at hl 0 rfl) ?_
    refine kx_get (v := .ref (x + 1)) hx hb hts hinX7 hown hK hWro rfl 0 (by decide) (by decide +kernel) rfl dX7_cellSet_10 ?_
    refine kx_get (v := .ref (x + 1 + 3)) hx hb hts hinX5 hown hK hM.obj rfl 2 (by decide) (by decide +kernel) rfl dX7_cellSet_13 ?_
    refine lv_iload_n hx hb dX7_cellSet_16 rfl (lv_at hl 1 rfl) ?_
    refine kx_aald (i := mv) hx hb hK hM.moves 3 rfl (by omega) (by decide) rfl dX7_cellSet_17 ?_
    refine kx_get (v := .long (g (2 * mv + 1))) hx hb hts hinX3 hown hK (hM.mv (m := mv) (by omega)) rfl 6 (by decide) (by decide +kernel) rfl dX7_cellSet_18 ?_
    refine kx_cl (x := g (2 * mv + 1)) (y := lN (csN e true mv)) (hG mv (by first | assumption | omega)).2 ?_
    refine lv_goto (tgt := 36) hx hb dX7_cellSet_21 (by decide) ?_
    exact kx_lretP hx hb hrt hlk (by rw [hy]) dX7_cellSet_36
set_option maxHeartbeats 2500000 in
set_option maxRecDepth 100000 in
theorem k_X7_held (l : Launch) (D : va_G) (cs : Nat → ClassId) (x : Nat) (e : Nat → Int32) (g : Nat → Int64) (e1 : Nat → Int32) (g1 : Nat → Int64) (nx cn : Nat) (se : Nat → Nat → Int32) (sg : Nat → Nat → Int64) (b nn : Nat → Int32) (wd ln pa : Nat) (ft : Int32) (hI : Inv e) (hG : Msk e g) : Met l yX7_held wsX7_held ({ frames := 2, cells := 0, slots := 0, locals := 43 } : Room) (PcK D cs [.ref (x)] (fun H => HrC D cs x e g e1 g1 nx cn se sg b nn wd ln pa ft H)) (QcP (some (.long (lN (hdN e))))) 0 0 nowhere := by
  refine kx_met (cc := cX7_held) (maxL := 1) (ret := (some .long)) (by decide) rfl (Nat.le_of_ble_eq_true rfl) ?_
  intro p en s m args below meth c hx hb hml hrt hts hown hlk hK hN hP ls hl
  have hl : lv_has ls 1 [(0, .ref (x))] := hl
  have hinX7 : ∀ w ∈ wsX70, w ∈ wsX7_held := by decide +kernel
  obtain ⟨hWro, hM, hM2, hWhi, hWto, hWtb, hWtn⟩ := hP
  have h24 := hI.M24
  have h6 := hI.R6
  refine lv_aload_n hx hb dX7_held_0 rfl (lv_at hl 0 rfl) ?_
  refine kx_get (v := .ref (x + 1)) hx hb hts hinX7 hown hK hWro rfl 0 (by decide) (by decide +kernel) rfl dX7_held_1 ?_
  refine kx_retP (va_runV (As := []) (rest := []) ⟨hx, hb, hml, hown, hts⟩ (k_X5_heldCells l D cs (x + 1) e g hI hG) (cwV 0 hts gX7_held_X5_heldCells rfl rfl rfl (by decide +kernel) ⟨Nat.le_of_ble_eq_true rfl, Nat.le_of_ble_eq_true rfl⟩) (kx_preV hK hN hM.obj rfl hM) rfl rfl hl.1 rfl (lv_room (Nat.le_of_ble_eq_true rfl)) dX7_held_4 ⟨Nat.le_of_ble_eq_true rfl, Nat.le_of_ble_eq_true rfl⟩) ?_
  exact kx_lretP hx hb hrt hlk rfl dX7_held_7
set_option maxHeartbeats 2500000 in
set_option maxRecDepth 100000 in
theorem k_X7_wholePart (l : Launch) (D : va_G) (cs : Nat → ClassId) (x : Nat) (e : Nat → Int32) (g : Nat → Int64) (e1 : Nat → Int32) (g1 : Nat → Int64) (nx cn : Nat) (se : Nat → Nat → Int32) (sg : Nat → Nat → Int64) (b nn : Nat → Int32) (wd ln pa : Nat) (ft : Int32) (w : Nat) (hI : Inv e) (hG : Msk e g) (hw : w < 15) : Met l yX7_wholePart wsX7_wholePart ({ frames := 3, cells := 0, slots := 0, locals := 64 } : Room) (PcK D cs [.ref (x), .int (nI (w))] (fun H => HrC D cs x e g e1 g1 nx cn se sg b nn wd ln pa ft H)) (QcP (some (.int (if w = 14 then nI ln else wvI e w)))) 0 0 nowhere := by
  refine kx_met (cc := cX7_wholePart) (maxL := 2) (ret := (some .int)) (by decide) rfl (Nat.le_of_ble_eq_true rfl) ?_
  intro p en s m args below meth c hx hb hml hrt hts hown hlk hK hN hP ls hl
  have hl : lv_has ls 2 [(0, .ref (x)), (1, .int (nI (w)))] := hl
  have hinX1 : ∀ w ∈ wsX10, w ∈ wsX7_wholePart := by decide +kernel
  have hinX7 : ∀ w ∈ wsX70, w ∈ wsX7_wholePart := by decide +kernel
  obtain ⟨hWro, hM, hM2, hWhi, hWto, hWtb, hWtn⟩ := hP
  have h24 := hI.M24
  have h6 := hI.R6
  refine lv_iload_n hx hb dX7_wholePart_0 rfl (lv_at hl 1 rfl) ?_
  refine lv_bipush (v := nI 14) hx hb dX7_wholePart_1 (by decide) ?_
  refine kn_icmp_ne (tgt := 16) hx hb dX7_wholePart_3 (by decide) (by omega) (by decide) (fun h3 => ?_) (fun h3 => ?_)
  · refine lv_aload_n hx hb dX7_wholePart_16 rfl (lv_at hl 0 rfl) ?_
    refine kx_get (v := .ref (x + 1)) hx hb hts hinX7 hown hK hWro rfl 0 (by decide) (by decide +kernel) rfl dX7_wholePart_17 ?_
    refine lv_iload_n hx hb dX7_wholePart_20 rfl (lv_at hl 1 rfl) ?_
    refine kx_retP (va_runV (As := [.int (nI (w))]) (rest := []) ⟨hx, hb, hml, hown, hts⟩ (k_X5_wholePart l D cs (x + 1) e g w hI hG (by first | assumption | omega)) (cwV 1 hts gX7_wholePart_X5_wholePart rfl rfl rfl (by decide +kernel) ⟨Nat.le_of_ble_eq_true rfl, Nat.le_of_ble_eq_true rfl⟩) (kx_preV hK hN hM.obj rfl hM) rfl rfl hl.1 rfl (lv_room (Nat.le_of_ble_eq_true rfl)) dX7_wholePart_21 ⟨Nat.le_of_ble_eq_true rfl, Nat.le_of_ble_eq_true rfl⟩) ?_
    exact kx_iretP hx hb hrt hlk (by simp [h3]) dX7_wholePart_24
  · refine lv_aload_n hx hb dX7_wholePart_6 rfl (lv_at hl 0 rfl) ?_
    refine kx_get (v := .ref (x + 357)) hx hb hts hinX7 hown hK hWro rfl 3 (by decide) (by decide +kernel) rfl dX7_wholePart_7 ?_
    refine kx_get (v := .int (nI (ln))) hx hb hts hinX1 hown hK hWto rfl 3 (by decide) (by decide +kernel) rfl dX7_wholePart_10 ?_
    refine lv_goto (tgt := 24) hx hb dX7_wholePart_13 (by decide) ?_
    exact kx_iretP hx hb hrt hlk (by simp [h3]) dX7_wholePart_24
set_option maxHeartbeats 2500000 in
set_option maxRecDepth 100000 in
theorem k_X7_whole (l : Launch) (D : va_G) (cs : Nat → ClassId) (x : Nat) (e : Nat → Int32) (g : Nat → Int64) (e1 : Nat → Int32) (g1 : Nat → Int64) (nx cn : Nat) (se : Nat → Nat → Int32) (sg : Nat → Nat → Int64) (b nn : Nat → Int32) (wd ln pa : Nat) (ft : Int32) (w : Nat) (hI : Inv e) (hG : Msk e g) (hw : w < 15) : Met l yX7_whole wsX7_whole ({ frames := 4, cells := 0, slots := 0, locals := 85 } : Room) (PcK D cs [.ref (x), .int (nI (w))] (fun H => HrC D cs x e g e1 g1 nx cn se sg b nn wd ln pa ft H)) (QcP (some (.int (if w = 14 then nI ln else wvI e w)))) 0 0 nowhere := by
  refine kx_met (cc := cX7_whole) (maxL := 2) (ret := (some .int)) (by decide) rfl (Nat.le_of_ble_eq_true rfl) ?_
  intro p en s m args below meth c hx hb hml hrt hts hown hlk hK hN hP ls hl
  have hl : lv_has ls 2 [(0, .ref (x)), (1, .int (nI (w)))] := hl
  obtain ⟨hWro, hM, hM2, hWhi, hWto, hWtb, hWtn⟩ := hP
  have h24 := hI.M24
  have h6 := hI.R6
  refine lv_iload_n hx hb dX7_whole_0 rfl (lv_at hl 1 rfl) ?_
  refine lv_bipush (v := nI 14) hx hb dX7_whole_1 (by decide) ?_
  refine kx_retP (va_runS (As := [.int (nI (w)), .int (nI (14))]) (rest := []) ⟨hx, hb, hml, hown, hts⟩ (k_X7_requireRange l D cs w 14 (by omega) (by decide)) (cwS 2 hts gX7_whole_X7_requireRange rfl rfl rfl (by decide +kernel) ⟨Nat.le_of_ble_eq_true rfl, Nat.le_of_ble_eq_true rfl⟩) (kx_preS hK hN trivial) rfl rfl hl.1 rfl (lv_room (Nat.le_of_ble_eq_true rfl)) dX7_whole_3 ⟨Nat.le_of_ble_eq_true rfl, Nat.le_of_ble_eq_true rfl⟩) ?_
  refine lv_aload_n hx hb dX7_whole_6 rfl (lv_at hl 0 rfl) ?_
  refine lv_iload_n hx hb dX7_whole_7 rfl (lv_at hl 1 rfl) ?_
  refine kx_retP (va_runV (As := [.int (nI (w))]) (rest := []) ⟨hx, hb, hml, hown, hts⟩ (k_X7_wholePart l D cs x e g e1 g1 nx cn se sg b nn wd ln pa ft w hI hG (by first | assumption | omega)) (cwV 1 hts gX7_whole_X7_wholePart rfl rfl rfl (by decide +kernel) ⟨Nat.le_of_ble_eq_true rfl, Nat.le_of_ble_eq_true rfl⟩) (kx_preV hK hN hWro rfl ⟨hWro, hM, hM2, hWhi, hWto, hWtb, hWtn⟩) rfl rfl hl.1 rfl (lv_room (Nat.le_of_ble_eq_true rfl)) dX7_whole_8 ⟨Nat.le_of_ble_eq_true rfl, Nat.le_of_ble_eq_true rfl⟩) ?_
  exact kx_iretP hx hb hrt hlk rfl dX7_whole_11
set_option maxHeartbeats 2500000 in
set_option maxRecDepth 100000 in
theorem k_X7_reason (l : Launch) (D : va_G) (cs : Nat → ClassId) (x : Nat) (e : Nat → Int32) (g : Nat → Int64) (e1 : Nat → Int32) (g1 : Nat → Int64) (nx cn : Nat) (se : Nat → Nat → Int32) (sg : Nat → Nat → Int64) (b nn : Nat → Int32) (wd ln pa : Nat) (ft : Int32) (w : Nat) (hI : Inv e) (hG : Msk e g) (hw : w < 48) : Met l yX7_reason wsX7_reason ({ frames := 3, cells := 0, slots := 0, locals := 72 } : Room) (PcK D cs [.ref (x), .int (nI (w))] (fun H => HrC D cs x e g e1 g1 nx cn se sg b nn wd ln pa ft H)) (QcP (some (.int (nI (barN e w))))) 0 0 nowhere := by
  refine kx_met (cc := cX7_reason) (maxL := 2) (ret := (some .int)) (by decide) rfl (Nat.le_of_ble_eq_true rfl) ?_
  intro p en s m args below meth c hx hb hml hrt hts hown hlk hK hN hP ls hl
  have hl : lv_has ls 2 [(0, .ref (x)), (1, .int (nI (w)))] := hl
  have hinX7 : ∀ w ∈ wsX70, w ∈ wsX7_reason := by decide +kernel
  obtain ⟨hWro, hM, hM2, hWhi, hWto, hWtb, hWtn⟩ := hP
  have h24 := hI.M24
  have h6 := hI.R6
  refine lv_iload_n hx hb dX7_reason_0 rfl (lv_at hl 1 rfl) ?_
  refine kx_retP (va_runS (As := [.int (nI (w))]) (rest := []) ⟨hx, hb, hml, hown, hts⟩ (k_X7_requireCell l D cs w (by first | assumption | omega)) (cwS 1 hts gX7_reason_X7_requireCell rfl rfl rfl (by decide +kernel) ⟨Nat.le_of_ble_eq_true rfl, Nat.le_of_ble_eq_true rfl⟩) (kx_preS hK hN trivial) rfl rfl hl.1 rfl (lv_room (Nat.le_of_ble_eq_true rfl)) dX7_reason_1 ⟨Nat.le_of_ble_eq_true rfl, Nat.le_of_ble_eq_true rfl⟩) ?_
  refine lv_aload_n hx hb dX7_reason_4 rfl (lv_at hl 0 rfl) ?_
  refine kx_get (v := .ref (x + 1)) hx hb hts hinX7 hown hK hWro rfl 0 (by decide) (by decide +kernel) rfl dX7_reason_5 ?_
  refine lv_iload_n hx hb dX7_reason_8 rfl (lv_at hl 1 rfl) ?_
  refine kx_retP (va_runV (As := [.int (nI (w))]) (rest := []) ⟨hx, hb, hml, hown, hts⟩ (k_X5_barOf l D cs (x + 1) e g w hI hG (by first | assumption | omega)) (cwV 1 hts gX7_reason_X5_barOf rfl rfl rfl (by decide +kernel) ⟨Nat.le_of_ble_eq_true rfl, Nat.le_of_ble_eq_true rfl⟩) (kx_preV hK hN hM.obj rfl hM) rfl rfl hl.1 rfl (lv_room (Nat.le_of_ble_eq_true rfl)) dX7_reason_9 ⟨Nat.le_of_ble_eq_true rfl, Nat.le_of_ble_eq_true rfl⟩) ?_
  exact kx_iretP hx hb hrt hlk rfl dX7_reason_12
set_option maxHeartbeats 2500000 in
set_option maxRecDepth 100000 in
theorem k_X7_waitsFor (l : Launch) (D : va_G) (cs : Nat → ClassId) (x : Nat) (e : Nat → Int32) (g : Nat → Int64) (e1 : Nat → Int32) (g1 : Nat → Int64) (nx cn : Nat) (se : Nat → Nat → Int32) (sg : Nat → Nat → Int64) (b nn : Nat → Int32) (wd ln pa : Nat) (ft : Int32) (mv : Nat) (hI : Inv e) (hG : Msk e g) (hm : mv < Mn e) : Met l yX7_waitsFor wsX7_waitsFor ({ frames := 2, cells := 0, slots := 0, locals := 45 } : Room) (PcK D cs [.ref (x), .int (nI (mv))] (fun H => HrC D cs x e g e1 g1 nx cn se sg b nn wd ln pa ft H)) (QcP (some (.int (nI (woN e mv))))) 0 0 nowhere := by
  refine kx_met (cc := cX7_waitsFor) (maxL := 2) (ret := (some .int)) (by decide) rfl (Nat.le_of_ble_eq_true rfl) ?_
  intro p en s m args below meth c hx hb hml hrt hts hown hlk hK hN hP ls hl
  have hl : lv_has ls 2 [(0, .ref (x)), (1, .int (nI (mv)))] := hl
  have hinX7 : ∀ w ∈ wsX70, w ∈ wsX7_waitsFor := by decide +kernel
  obtain ⟨hWro, hM, hM2, hWhi, hWto, hWtb, hWtn⟩ := hP
  have h24 := hI.M24
  have h6 := hI.R6
  refine lv_aload_n hx hb dX7_waitsFor_0 rfl (lv_at hl 0 rfl) ?_
  refine lv_iload_n hx hb dX7_waitsFor_1 rfl (lv_at hl 1 rfl) ?_
  refine kx_retP (va_runV (As := [.int (nI (mv))]) (rest := []) ⟨hx, hb, hml, hown, hts⟩ (k_X7_requireMove l D cs x e g e1 g1 nx cn se sg b nn wd ln pa ft hI mv (by first | assumption | omega)) (cwV 1 hts gX7_waitsFor_X7_requireMove rfl rfl rfl (by decide +kernel) ⟨Nat.le_of_ble_eq_true rfl, Nat.le_of_ble_eq_true rfl⟩) (kx_preV hK hN hWro rfl ⟨hWro, hM, hM2, hWhi, hWto, hWtb, hWtn⟩) rfl rfl hl.1 rfl (lv_room (Nat.le_of_ble_eq_true rfl)) dX7_waitsFor_2 ⟨Nat.le_of_ble_eq_true rfl, Nat.le_of_ble_eq_true rfl⟩) ?_
  refine lv_aload_n hx hb dX7_waitsFor_5 rfl (lv_at hl 0 rfl) ?_
  refine kx_get (v := .ref (x + 1)) hx hb hts hinX7 hown hK hWro rfl 0 (by decide) (by decide +kernel) rfl dX7_waitsFor_6 ?_
  refine lv_iload_n hx hb dX7_waitsFor_9 rfl (lv_at hl 1 rfl) ?_
  refine kx_retP (va_runV (As := [.int (nI (mv))]) (rest := []) ⟨hx, hb, hml, hown, hts⟩ (k_X5_waitedFor l D cs (x + 1) e g mv hI hG (by first | assumption | omega)) (cwV 1 hts gX7_waitsFor_X5_waitedFor rfl rfl rfl (by decide +kernel) ⟨Nat.le_of_ble_eq_true rfl, Nat.le_of_ble_eq_true rfl⟩) (kx_preV hK hN hM.obj rfl hM) rfl rfl hl.1 rfl (lv_room (Nat.le_of_ble_eq_true rfl)) dX7_waitsFor_10 ⟨Nat.le_of_ble_eq_true rfl, Nat.le_of_ble_eq_true rfl⟩) ?_
  exact kx_iretP hx hb hrt hlk rfl dX7_waitsFor_13
set_option maxHeartbeats 2500000 in
set_option maxRecDepth 100000 in
theorem k_X7_depth (l : Launch) (D : va_G) (cs : Nat → ClassId) (x : Nat) (e : Nat → Int32) (g : Nat → Int64) (e1 : Nat → Int32) (g1 : Nat → Int64) (nx cn : Nat) (se : Nat → Nat → Int32) (sg : Nat → Nat → Int64) (b nn : Nat → Int32) (wd ln pa : Nat) (ft : Int32) (mv : Nat) (hI : Inv e) (hG : Msk e g) (hm : mv < Mn e) : Met l yX7_depth wsX7_depth ({ frames := 3, cells := 0, slots := 0, locals := 70 } : Room) (PcK D cs [.ref (x), .int (nI (mv))] (fun H => HrC D cs x e g e1 g1 nx cn se sg b nn wd ln pa ft H)) (QcM (some (.int (nI (dpN e mv)))) (fun H => HrC D cs x ((dcK e (mv + 1))) g e1 g1 nx cn se sg b nn wd ln pa ft H) (rgR x)) 0 0 ((rgR x)) := by
  refine kx_met (cc := cX7_depth) (maxL := 2) (ret := (some .int)) (by decide) rfl (Nat.le_of_ble_eq_true rfl) ?_
  intro p en s m args below meth c hx hb hml hrt hts hown hlk hK hN hP ls hl
  have hl : lv_has ls 2 [(0, .ref (x)), (1, .int (nI (mv)))] := hl
  obtain ⟨H, hHe⟩ : ∃ H : Heap, H = s.heap := ⟨_, rfl⟩
  rw [← hHe] at hP ⊢
  have hS : va_S ((rgR x)) s.heap H [] := by rw [← hHe]; exact va_S.rf
  have hinX7 : ∀ w ∈ wsX70, w ∈ wsX7_depth := by decide +kernel
  obtain ⟨hWro, hM, hM2, hWhi, hWto, hWtb, hWtn⟩ := hP
  have h24 := hI.M24
  have h6 := hI.R6
  refine lv_aload_n hx hb dX7_depth_0 rfl (lv_at hl 0 rfl) ?_
  refine lv_iload_n hx hb dX7_depth_1 rfl (lv_at hl 1 rfl) ?_
  refine kx_retP (va_runV (As := [.int (nI (mv))]) (rest := []) ⟨hx, hb, hml, hown, hts⟩ (k_X7_requireMove l D cs x e g e1 g1 nx cn se sg b nn wd ln pa ft hI mv (by first | assumption | omega)) (cwV 1 hts gX7_depth_X7_requireMove rfl rfl rfl (by decide +kernel) ⟨Nat.le_of_ble_eq_true rfl, Nat.le_of_ble_eq_true rfl⟩) (kx_preV hK hN hWro rfl ⟨hWro, hM, hM2, hWhi, hWto, hWtb, hWtn⟩) rfl rfl hl.1 rfl (lv_room (Nat.le_of_ble_eq_true rfl)) dX7_depth_2 ⟨Nat.le_of_ble_eq_true rfl, Nat.le_of_ble_eq_true rfl⟩) ?_
  refine lv_aload_n hx hb dX7_depth_5 rfl (lv_at hl 0 rfl) ?_
  refine kx_get (v := .ref (x + 1)) hx hb hts hinX7 hown hK hWro rfl 0 (by decide) (by decide +kernel) rfl dX7_depth_6 ?_
  refine lv_iload_n hx hb dX7_depth_9 rfl (lv_at hl 1 rfl) ?_
  refine kx_retM (va_runV (As := [.int (nI (mv))]) (rest := []) ⟨hx, hb, hml, hown, hts⟩ (k_X5_depthOf l D cs (x + 1) e g mv hI hG (by first | assumption | omega)) (cwV 1 hts gX7_depth_X5_depthOf rfl rfl rfl (by decide +kernel) ⟨Nat.le_of_ble_eq_true rfl, Nat.le_of_ble_eq_true rfl⟩) (kx_preV hK hN hM.obj rfl hM) rfl rfl hl.1 rfl (lv_room (Nat.le_of_ble_eq_true rfl)) dX7_depth_10 ⟨Nat.le_of_ble_eq_true rfl, Nat.le_of_ble_eq_true rfl⟩) hS (fun x _ h => (by first | exact h | (have h1 := h.1; have h2 := h.2; exact ⟨by omega, by omega⟩) | (rcases h with h | h <;> (have h1 := h.1; have h2 := h.2; exact ⟨by omega, by omega⟩)))) (fun x h => (by first | exact h | (have h1 := h.1; have h2 := h.2; exact ⟨by omega, by omega⟩) | (rcases h with h | h <;> (have h1 := h.1; have h2 := h.2; exact ⟨by omega, by omega⟩)))) (fun H locs hMN hk hS => ?_)
  have hWhi := hWhi.frame hk (fun x h1 h2 h => by first | (have h3 := h.1; have h4 := h.2; omega) | (rcases h with h | h <;> (have h3 := h.1; have h4 := h.2; omega)))
  have hWro := hWro.kept (hk.2 _ hWro.lt (fun h => by first | (have h3 := h.1; have h4 := h.2; omega) | (rcases h with h | h <;> (have h3 := h.1; have h4 := h.2; omega))))
  have hM2 := hM2.frame hk (fun x h1 h2 h => by first | (have h3 := h.1; have h4 := h.2; omega) | (rcases h with h | h <;> (have h3 := h.1; have h4 := h.2; omega)))
  have hWtb := hWtb.kept (hk.2 _ hWtb.lt (fun h => by first | (have h3 := h.1; have h4 := h.2; omega) | (rcases h with h | h <;> (have h3 := h.1; have h4 := h.2; omega))))
  have hWtn := hWtn.kept (hk.2 _ hWtn.lt (fun h => by first | (have h3 := h.1; have h4 := h.2; omega) | (rcases h with h | h <;> (have h3 := h.1; have h4 := h.2; omega))))
  have hWto := hWto.kept (hk.2 _ hWto.lt (fun h => by first | (have h3 := h.1; have h4 := h.2; omega) | (rcases h with h | h <;> (have h3 := h.1; have h4 := h.2; omega))))
  have hM := hMN
  clear hk hMN
  exact kx_iretM hx hb hrt hlk rfl ⟨hWro, hM, hM2, hWhi, hWto, hWtb, hWtn⟩ hS dX7_depth_13
