set_option maxHeartbeats 2500000 in
set_option maxRecDepth 100000 in
theorem k_L_cell (l : Launch) (D : va_G) (cs : Nat → ClassId) (x : Nat) (e : Nat → Int32) (g : Nat → Int64) (e1 : Nat → Int32) (g1 : Nat → Int64) (nx cn : Nat) (se : Nat → Nat → Int32) (sg : Nat → Nat → Int64) (b nn : Nat → Int32) (wd ln pa : Nat) (ft : Int32) (w : Nat) (hw : w < 48) (o : Nat) (f : Nat → Int64) (ho : x + 360 ≤ o) (L : Nat) (hL : L ≤ x) (hfl : l.stackTraces = false) : Met l yL_cell wsL_cell ({ frames := 4, cells := 0, slots := 0, locals := 83 } : Room) (PcY D cs L [.ref (x), .int (nI (w)), .ref (o)] (fun H => HrC D cs x e g e1 g1 nx cn se sg b nn wd ln pa ft H ∧ va_at D vwCl (o, .inl (cs 5, 1, .inr (.inl f))) H)) (QcM (some (.int (nI (0)))) (fun H => HrC D cs x e g e1 g1 nx cn se sg b nn wd ln pa ft H ∧ va_at D vwCl (o, .inl (cs 5, 1, .inr (.inl (vp_updL f 0 ((e (8 + w)).toInt64))))) H) (fun y9 => (x ≤ y9 ∧ y9 < x + 360) ∨ y9 = o)) 0 0 (fun y9 => (x ≤ y9 ∧ y9 < x + 360) ∨ y9 = o) := by
  refine kx_metY (cc := cL_cell) (maxL := 4) (ret := (some .int)) (by decide) rfl (Nat.le_of_ble_eq_true rfl) ?_
  intro p en s m args below meth c hx hb hml hrt hts hown hlk hK hN hX hY htb hP ls hl
  have hl : lv_has ls 4 [(0, .ref (x)), (1, .int (nI (w))), (2, .ref (o))] := hl
  obtain ⟨H, hHe⟩ : ∃ H : Heap, H = s.heap := ⟨_, rfl⟩
  rw [← hHe] at hP ⊢
  have hS : va_S ((fun y9 => (x ≤ y9 ∧ y9 < x + 360) ∨ y9 = o)) s.heap H [] := by rw [← hHe]; exact va_S.rf
  obtain ⟨⟨hWro, hM, hM2, hWhi, hWto, hWtb, hWtn⟩, hWou⟩ := hP
  refine lv_aload_n hx hb dL_cell_0 rfl (lv_at hl 2 rfl) ?_
  refine lv_iconst (v := nI 0) hx hb dL_cell_1 (by decide) ?_
  refine lv_aload_n hx hb dL_cell_2 rfl (lv_at hl 0 rfl) ?_
  refine lv_iload_n hx hb dL_cell_3 rfl (lv_at hl 1 rfl) ?_
  refine kx_retP (va_runV (As := [.int (nI (w))]) (rest := [.int (nI (0)), .ref (o)]) ⟨hx, hb, hml, hown, hts⟩ (k_X7_cell l D cs x e g e1 g1 nx cn se sg b nn wd ln pa ft w (by first | assumption | omega)) (cwV 1 hts gL_cell_X7_cell rfl rfl rfl (by decide +kernel) ⟨Nat.le_of_ble_eq_true rfl, Nat.le_of_ble_eq_true rfl⟩) (kx_preV hK hN hWro rfl ⟨hWro, hM, hM2, hWhi, hWto, hWtb, hWtn⟩) rfl rfl hl.1 rfl (lv_room (Nat.le_of_ble_eq_true rfl)) dL_cell_4 ⟨Nat.le_of_ble_eq_true rfl, Nat.le_of_ble_eq_true rfl⟩) ?_
  refine lv_i2l hx hb dL_cell_7 rfl ?_
  refine kx_last (i := 0) hx hb hK hWou hS (Or.inr rfl) 5 rfl (by decide) (by decide) dL_cell_8 (fun H locs hc hU hS => ?_)
  have hWhi := hWhi.off hU (by omega)
  have hWro := hWro.kept (hU.2 _ (by omega))
  have hM := hM.off hU (by omega)
  have hM2 := hM2.off hU (by omega)
  have hWtb := hWtb.kept (hU.2 _ (by omega))
  have hWtn := hWtn.kept (hU.2 _ (by omega))
  have hWto := hWto.kept (hU.2 _ (by omega))
  have hWou := hc
  clear hc hU
  refine lv_goto (tgt := 15) hx hb dL_cell_9 (by decide) ?_
  refine lv_iconst (v := nI 0) hx hb dL_cell_15 (by decide) ?_
  exact kx_iretM hx hb hrt hlk rfl ⟨⟨hWro, hM, hM2, hWhi, hWto, hWtb, hWtn⟩, hWou⟩ hS dL_cell_16
set_option maxHeartbeats 2500000 in
set_option maxRecDepth 100000 in
theorem k_L_cellT1 (l : Launch) (D : va_G) (cs : Nat → ClassId) (x : Nat) (e : Nat → Int32) (g : Nat → Int64) (e1 : Nat → Int32) (g1 : Nat → Int64) (nx cn : Nat) (se : Nat → Nat → Int32) (sg : Nat → Nat → Int64) (b nn : Nat → Int32) (wd ln pa : Nat) (ft : Int32) (w : Int32) (hw : wiB w (nI 0) (nI 47) = false) (o : Nat) (f : Nat → Int64) (ho : x + 360 ≤ o) (L : Nat) (hL : L ≤ x) (hfl : l.stackTraces = false) : Met l yL_cell wsL_cell ({ frames := 8, cells := 1, slots := 6, locals := 123 } : Room) (PcY D cs L [.ref (x), .int (w), .ref (o)] (fun H => HrC D cs x e g e1 g1 nx cn se sg b nn wd ln pa ft H ∧ va_at D vwCl (o, .inl (cs 5, 1, .inr (.inl f))) H)) (QcM (some (.int (nI (1)))) (fun H => HrC D cs x e g e1 g1 nx cn se sg b nn wd ln pa ft H ∧ va_at D vwCl (o, .inl (cs 5, 1, .inr (.inl f))) H) (fun y9 => (x ≤ y9 ∧ y9 < x + 360) ∨ y9 = o)) 1 6 (fun y9 => (x ≤ y9 ∧ y9 < x + 360) ∨ y9 = o) := by
  refine kx_metY (cc := cL_cell) (maxL := 4) (ret := (some .int)) (by decide) rfl (Nat.le_of_ble_eq_true rfl) ?_
  intro p en s m args below meth c hx hb hml hrt hts hown hlk hK hN hX hY htb hP ls hl
  have hl : lv_has ls 4 [(0, .ref (x)), (1, .int (w)), (2, .ref (o))] := hl
  obtain ⟨H, hHe⟩ : ∃ H : Heap, H = s.heap := ⟨_, rfl⟩
  rw [← hHe] at hP ⊢
  have hS : va_S ((fun y9 => (x ≤ y9 ∧ y9 < x + 360) ∨ y9 = o)) s.heap H [] := by rw [← hHe]; exact va_S.rf
  obtain ⟨⟨hWro, hM, hM2, hWhi, hWto, hWtb, hWtn⟩, hWou⟩ := hP
  have hX0 : XK (fun y9 => L ≤ y9) s s.heap := hX
  have hX : XK (fun y9 => L ≤ y9) s H := by rw [hHe]; exact hX0
  refine lv_aload_n hx hb dL_cell_0 rfl (lv_at hl 2 rfl) ?_
  refine lv_iconst (v := nI 0) hx hb dL_cell_1 (by decide) ?_
  refine lv_aload_n hx hb dL_cell_2 rfl (lv_at hl 0 rfl) ?_
  refine lv_iload_n hx hb dL_cell_3 rfl (lv_at hl 1 rfl) ?_
  refine kx_catch (own := RL) (L := L) (vx_runV (As := [.int (w)]) (rest := [.int (nI (0)), .ref (o)]) ⟨hx, hb, hml, hown, hts⟩ (k_X7_cellT l D cs x e g e1 g1 nx cn se sg b nn wd ln pa ft w hw L (by first | assumption | omega) (by first | assumption | omega)) (cwV 1 hts gL_cell_X7_cell rfl rfl rfl (by decide +kernel) ⟨Nat.le_of_ble_eq_true rfl, Nat.le_of_ble_eq_true rfl⟩) (kx_preXV hK hN hX hWro rfl ⟨hWro, hM, hM2, hWhi, hWto, hWtb, hWtn⟩) rfl rfl hl.1 rfl (lv_room (Nat.le_of_ble_eq_true rfl)) dL_cell_4 ⟨Nat.le_of_ble_eq_true rfl, Nat.le_of_ble_eq_true rfl⟩) hown (hX0) (by decide) (tableOf []) ⟨0, 9, 12, 13⟩ (tableOf []) htb (fun z hz => nomatch hz) (by decide) (by decide) (hts (.classLink RL 13 "java/lang/IndexOutOfBoundsException") (by decide +kernel)) hS (fun q9 H1 hz hk hS => ?_)
  have hW9 := HrC.grow (x := x) ⟨hWro, hM, hM2, hWhi, hWto, hWtb, hWtn⟩ hk
  have hWou := hWou.kept (hk _ hWou.lt)
  refine lv_astore_n (lv' := [(3, .ref (q9)), (0, .ref (x)), (1, .int (w)), (2, .ref (o))]) hx hb dL_cell_12 rfl hl (by decide) rfl (fun ls hl => ?_)
  refine lv_iconst (v := nI 1) hx hb dL_cell_13 (by decide) ?_
  exact kx_iretN hx hb hrt hlk rfl ⟨hW9, hWou⟩ hS (Nat.le_of_ble_eq_true rfl) (Nat.le_of_ble_eq_true rfl) dL_cell_14
set_option maxHeartbeats 2500000 in
set_option maxRecDepth 100000 in
theorem k_L_addRing (l : Launch) (D : va_G) (cs : Nat → ClassId) (x : Nat) (e : Nat → Int32) (g : Nat → Int64) (e1 : Nat → Int32) (g1 : Nat → Int64) (nx cn : Nat) (se : Nat → Nat → Int32) (sg : Nat → Nat → Int64) (b nn : Nat → Int32) (wd ln pa : Nat) (ft : Int32) (f9 n0 pt : Int32) (hI : Inv e) (hnx : nx < 4) (hcn : cn ≤ 4) (hw : wrg e f9 n0 pt = 0) (hR : Rn e < 6) (o : Nat) (f : Nat → Int64) (ho : x + 360 ≤ o) (L : Nat) (hL : L ≤ x) (hfl : l.stackTraces = false) : Met l yL_addRing wsL_addRing ({ frames := 5, cells := 0, slots := 0, locals := 135 } : Room) (PcY D cs L [.ref (x), .int (f9), .int (n0), .int (pt), .ref (o)] (fun H => HrC D cs x e g e1 g1 nx cn se sg b nn wd ln pa ft H ∧ va_at D vwCl (o, .inl (cs 5, 1, .inr (.inl f))) H)) (QcM (some (.int (nI (0)))) (fun H => HrC D cs x ((prF e f9 n0 pt)) g e1 g1 (((nx + 1) % 4)) ((min (cn + 1) 4)) ((hsE se nx (cfF (se nx) e))) ((hsG sg nx (cgM (sg nx) g (Mn e)))) b nn wd ln pa ft H ∧ va_at D vwCl (o, .inl (cs 5, 1, .inr (.inl (vp_updL f 0 ((nI (Rn e)).toInt64))))) H) (fun y9 => (x ≤ y9 ∧ y9 < x + 360) ∨ y9 = o)) 0 0 (fun y9 => (x ≤ y9 ∧ y9 < x + 360) ∨ y9 = o) := by
  refine kx_metY (cc := cL_addRing) (maxL := 6) (ret := (some .int)) (by decide) rfl (Nat.le_of_ble_eq_true rfl) ?_
  intro p en s m args below meth c hx hb hml hrt hts hown hlk hK hN hX hY htb hP ls hl
  have hl : lv_has ls 6 [(0, .ref (x)), (1, .int (f9)), (2, .int (n0)), (3, .int (pt)), (4, .ref (o))] := hl
  obtain ⟨H, hHe⟩ : ∃ H : Heap, H = s.heap := ⟨_, rfl⟩
  rw [← hHe] at hP ⊢
  have hS : va_S ((fun y9 => (x ≤ y9 ∧ y9 < x + 360) ∨ y9 = o)) s.heap H [] := by rw [← hHe]; exact va_S.rf
  obtain ⟨⟨hWro, hM, hM2, hWhi, hWto, hWtb, hWtn⟩, hWou⟩ := hP
  refine lv_aload hx hb dL_addRing_0 (lv_at hl 4 rfl) ?_
  refine lv_iconst (v := nI 0) hx hb dL_addRing_2 (by decide) ?_
  refine lv_aload_n hx hb dL_addRing_3 rfl (lv_at hl 0 rfl) ?_
  refine lv_iload_n hx hb dL_addRing_4 rfl (lv_at hl 1 rfl) ?_
  refine lv_iload_n hx hb dL_addRing_5 rfl (lv_at hl 2 rfl) ?_
  refine lv_iload_n hx hb dL_addRing_6 rfl (lv_at hl 3 rfl) ?_
  refine kx_retM (va_runV (As := [.int (f9), .int (n0), .int (pt)]) (rest := [.int (nI (0)), .ref (o)]) ⟨hx, hb, hml, hown, hts⟩ (k_X7_addRing l D cs x e g e1 g1 nx cn se sg b nn wd ln pa ft f9 n0 pt hI hnx hcn hw hR) (cwV 3 hts gL_addRing_X7_addRing rfl rfl rfl (by decide +kernel) ⟨Nat.le_of_ble_eq_true rfl, Nat.le_of_ble_eq_true rfl⟩) (kx_preV hK hN hWro rfl ⟨hWro, hM, hM2, hWhi, hWto, hWtb, hWtn⟩) rfl rfl hl.1 rfl (lv_room (Nat.le_of_ble_eq_true rfl)) dL_addRing_7 ⟨Nat.le_of_ble_eq_true rfl, Nat.le_of_ble_eq_true rfl⟩) hS (fun x _ h => (Or.inl h)) (fun x h => (Or.inl h)) (fun H locs hMN hk hS => ?_)
  have hWou := hWou.kept (hk.2 _ hWou.lt (fun h => by have h3 := h.1; have h4 := h.2; omega))
  obtain ⟨hWro, hM, hM2, hWhi, hWto, hWtb, hWtn⟩ := hMN
  clear hk
  refine lv_i2l hx hb dL_addRing_10 rfl ?_
  refine kx_last (i := 0) hx hb hK hWou hS (Or.inr rfl) 5 rfl (by decide) (by decide) dL_addRing_11 (fun H locs hc hU hS => ?_)
  have hWhi := hWhi.off hU (by omega)
  have hWro := hWro.kept (hU.2 _ (by omega))
  have hM := hM.off hU (by omega)
  have hM2 := hM2.off hU (by omega)
  have hWtb := hWtb.kept (hU.2 _ (by omega))
  have hWtn := hWtn.kept (hU.2 _ (by omega))
  have hWto := hWto.kept (hU.2 _ (by omega))
  have hWou := hc
  clear hc hU
  refine lv_goto (tgt := 27) hx hb dL_addRing_12 (by decide) ?_
  refine lv_iconst (v := nI 0) hx hb dL_addRing_27 (by decide) ?_
  exact kx_iretM hx hb hrt hlk rfl ⟨⟨hWro, hM, hM2, hWhi, hWto, hWtb, hWtn⟩, hWou⟩ hS dL_addRing_28
set_option maxHeartbeats 2500000 in
set_option maxRecDepth 100000 in
theorem k_L_addRingT1 (l : Launch) (D : va_G) (cs : Nat → ClassId) (x : Nat) (e : Nat → Int32) (g : Nat → Int64) (e1 : Nat → Int32) (g1 : Nat → Int64) (nx cn : Nat) (se : Nat → Nat → Int32) (sg : Nat → Nat → Int64) (b nn : Nat → Int32) (wd ln pa : Nat) (ft : Int32) (f9 n0 pt : Int32) (hI : Inv e) (hw : wrg e f9 n0 pt = 1) (o : Nat) (f : Nat → Int64) (ho : x + 360 ≤ o) (L : Nat) (hL : L ≤ x) (hfl : l.stackTraces = false) : Met l yL_addRing wsL_addRing ({ frames := 8, cells := 1, slots := 6, locals := 135 } : Room) (PcY D cs L [.ref (x), .int (f9), .int (n0), .int (pt), .ref (o)] (fun H => HrC D cs x e g e1 g1 nx cn se sg b nn wd ln pa ft H ∧ va_at D vwCl (o, .inl (cs 5, 1, .inr (.inl f))) H)) (QcM (some (.int (nI (1)))) (fun H => HrC D cs x e g e1 g1 nx cn se sg b nn wd ln pa ft H ∧ va_at D vwCl (o, .inl (cs 5, 1, .inr (.inl f))) H) (fun y9 => (x ≤ y9 ∧ y9 < x + 360) ∨ y9 = o)) 1 6 (fun y9 => (x ≤ y9 ∧ y9 < x + 360) ∨ y9 = o) := by
  refine kx_metY (cc := cL_addRing) (maxL := 6) (ret := (some .int)) (by decide) rfl (Nat.le_of_ble_eq_true rfl) ?_
  intro p en s m args below meth c hx hb hml hrt hts hown hlk hK hN hX hY htb hP ls hl
  have hl : lv_has ls 6 [(0, .ref (x)), (1, .int (f9)), (2, .int (n0)), (3, .int (pt)), (4, .ref (o))] := hl
  obtain ⟨H, hHe⟩ : ∃ H : Heap, H = s.heap := ⟨_, rfl⟩
  rw [← hHe] at hP ⊢
  have hS : va_S ((fun y9 => (x ≤ y9 ∧ y9 < x + 360) ∨ y9 = o)) s.heap H [] := by rw [← hHe]; exact va_S.rf
  obtain ⟨⟨hWro, hM, hM2, hWhi, hWto, hWtb, hWtn⟩, hWou⟩ := hP
  have hX0 : XK (fun y9 => L ≤ y9) s s.heap := hX
  have hX : XK (fun y9 => L ≤ y9) s H := by rw [hHe]; exact hX0
  refine lv_aload hx hb dL_addRing_0 (lv_at hl 4 rfl) ?_
  refine lv_iconst (v := nI 0) hx hb dL_addRing_2 (by decide) ?_
  refine lv_aload_n hx hb dL_addRing_3 rfl (lv_at hl 0 rfl) ?_
  refine lv_iload_n hx hb dL_addRing_4 rfl (lv_at hl 1 rfl) ?_
  refine lv_iload_n hx hb dL_addRing_5 rfl (lv_at hl 2 rfl) ?_
  refine lv_iload_n hx hb dL_addRing_6 rfl (lv_at hl 3 rfl) ?_
  refine kx_catch (own := RL) (L := L) (vx_runV (As := [.int (f9), .int (n0), .int (pt)]) (rest := [.int (nI (0)), .ref (o)]) ⟨hx, hb, hml, hown, hts⟩ (k_X7_addRingT1 l D cs x e g e1 g1 nx cn se sg b nn wd ln pa ft f9 n0 pt hI hw L (by first | assumption | omega) (by first | assumption | omega)) (cwV 3 hts gL_addRing_X7_addRing rfl rfl rfl (by decide +kernel) ⟨Nat.le_of_ble_eq_true rfl, Nat.le_of_ble_eq_true rfl⟩) (kx_preXV hK hN hX hWro rfl ⟨hWro, hM, hM2, hWhi, hWto, hWtb, hWtn⟩) rfl rfl hl.1 rfl (lv_room (Nat.le_of_ble_eq_true rfl)) dL_addRing_7 ⟨Nat.le_of_ble_eq_true rfl, Nat.le_of_ble_eq_true rfl⟩) hown (hX0) (by decide) (tableOf []) ⟨0, 12, 15, 13⟩ (tableOf [(0, 12, 19, 15), (0, 12, 23, 17)]) htb (fun z hz => nomatch hz) (by decide) (by decide) (hts (.classLink RL 13 "java/lang/IndexOutOfBoundsException") (by decide +kernel)) hS (fun q9 H1 hz hk hS => ?_)
  have hW9 := HrC.grow (x := x) ⟨hWro, hM, hM2, hWhi, hWto, hWtb, hWtn⟩ hk
  have hWou := hWou.kept (hk _ hWou.lt)
  refine lv_astore (lv' := [(5, .ref (q9)), (0, .ref (x)), (1, .int (f9)), (2, .int (n0)), (3, .int (pt)), (4, .ref (o))]) hx hb dL_addRing_15 hl (by decide) rfl (fun ls hl => ?_)
  refine lv_iconst (v := nI 1) hx hb dL_addRing_17 (by decide) ?_
  exact kx_iretN hx hb hrt hlk rfl ⟨hW9, hWou⟩ hS (Nat.le_of_ble_eq_true rfl) (Nat.le_of_ble_eq_true rfl) dL_addRing_18
set_option maxHeartbeats 2500000 in
set_option maxRecDepth 100000 in
theorem k_L_addRingT2 (l : Launch) (D : va_G) (cs : Nat → ClassId) (x : Nat) (e : Nat → Int32) (g : Nat → Int64) (e1 : Nat → Int32) (g1 : Nat → Int64) (nx cn : Nat) (se : Nat → Nat → Int32) (sg : Nat → Nat → Int64) (b nn : Nat → Int32) (wd ln pa : Nat) (ft : Int32) (f9 n0 pt : Int32) (hI : Inv e) (hw : wrg e f9 n0 pt = 2) (o : Nat) (f : Nat → Int64) (ho : x + 360 ≤ o) (L : Nat) (hL : L ≤ x) (hfl : l.stackTraces = false) : Met l yL_addRing wsL_addRing ({ frames := 8, cells := 1, slots := 6, locals := 135 } : Room) (PcY D cs L [.ref (x), .int (f9), .int (n0), .int (pt), .ref (o)] (fun H => HrC D cs x e g e1 g1 nx cn se sg b nn wd ln pa ft H ∧ va_at D vwCl (o, .inl (cs 5, 1, .inr (.inl f))) H)) (QcM (some (.int (nI (2)))) (fun H => HrC D cs x e g e1 g1 nx cn se sg b nn wd ln pa ft H ∧ va_at D vwCl (o, .inl (cs 5, 1, .inr (.inl f))) H) (fun y9 => (x ≤ y9 ∧ y9 < x + 360) ∨ y9 = o)) 1 6 (fun y9 => (x ≤ y9 ∧ y9 < x + 360) ∨ y9 = o) := by
  refine kx_metY (cc := cL_addRing) (maxL := 6) (ret := (some .int)) (by decide) rfl (Nat.le_of_ble_eq_true rfl) ?_
  intro p en s m args below meth c hx hb hml hrt hts hown hlk hK hN hX hY htb hP ls hl
  have hl : lv_has ls 6 [(0, .ref (x)), (1, .int (f9)), (2, .int (n0)), (3, .int (pt)), (4, .ref (o))] := hl
  obtain ⟨H, hHe⟩ : ∃ H : Heap, H = s.heap := ⟨_, rfl⟩
  rw [← hHe] at hP ⊢
  have hS : va_S ((fun y9 => (x ≤ y9 ∧ y9 < x + 360) ∨ y9 = o)) s.heap H [] := by rw [← hHe]; exact va_S.rf
  obtain ⟨⟨hWro, hM, hM2, hWhi, hWto, hWtb, hWtn⟩, hWou⟩ := hP
  have hX0 : XK (fun y9 => L ≤ y9) s s.heap := hX
  have hX : XK (fun y9 => L ≤ y9) s H := by rw [hHe]; exact hX0
  refine lv_aload hx hb dL_addRing_0 (lv_at hl 4 rfl) ?_
  refine lv_iconst (v := nI 0) hx hb dL_addRing_2 (by decide) ?_
  refine lv_aload_n hx hb dL_addRing_3 rfl (lv_at hl 0 rfl) ?_
  refine lv_iload_n hx hb dL_addRing_4 rfl (lv_at hl 1 rfl) ?_
  refine lv_iload_n hx hb dL_addRing_5 rfl (lv_at hl 2 rfl) ?_
  refine lv_iload_n hx hb dL_addRing_6 rfl (lv_at hl 3 rfl) ?_
  refine kx_catch (own := RL) (L := L) (vx_runV (As := [.int (f9), .int (n0), .int (pt)]) (rest := [.int (nI (0)), .ref (o)]) ⟨hx, hb, hml, hown, hts⟩ (k_X7_addRingT2 l D cs x e g e1 g1 nx cn se sg b nn wd ln pa ft f9 n0 pt hI hw L (by first | assumption | omega) (by first | assumption | omega)) (cwV 3 hts gL_addRing_X7_addRing rfl rfl rfl (by decide +kernel) ⟨Nat.le_of_ble_eq_true rfl, Nat.le_of_ble_eq_true rfl⟩) (kx_preXV hK hN hX hWro rfl ⟨hWro, hM, hM2, hWhi, hWto, hWtb, hWtn⟩) rfl rfl hl.1 rfl (lv_room (Nat.le_of_ble_eq_true rfl)) dL_addRing_7 ⟨Nat.le_of_ble_eq_true rfl, Nat.le_of_ble_eq_true rfl⟩) hown (hX0) (by decide) (tableOf [(0, 12, 15, 13)]) ⟨0, 12, 19, 15⟩ (tableOf [(0, 12, 23, 17)]) htb (fun z hz => by
    simp only [tableOf, List.map, List.mem_cons, List.not_mem_nil, or_false] at hz
    rcases hz with rfl
    · exact Or.inr ⟨by decide, "java/lang/IndexOutOfBoundsException", hts (.classLink RL 13 "java/lang/IndexOutOfBoundsException") (by decide +kernel), hY ("java/lang/IllegalArgumentException", "java/lang/IndexOutOfBoundsException") (by decide)⟩) (by decide) (by decide) (hts (.classLink RL 15 "java/lang/IllegalArgumentException") (by decide +kernel)) hS (fun q9 H1 hz hk hS => ?_)
  have hW9 := HrC.grow (x := x) ⟨hWro, hM, hM2, hWhi, hWto, hWtb, hWtn⟩ hk
  have hWou := hWou.kept (hk _ hWou.lt)
  refine lv_astore (lv' := [(5, .ref (q9)), (0, .ref (x)), (1, .int (f9)), (2, .int (n0)), (3, .int (pt)), (4, .ref (o))]) hx hb dL_addRing_19 hl (by decide) rfl (fun ls hl => ?_)
  refine lv_iconst (v := nI 2) hx hb dL_addRing_21 (by decide) ?_
  exact kx_iretN hx hb hrt hlk rfl ⟨hW9, hWou⟩ hS (Nat.le_of_ble_eq_true rfl) (Nat.le_of_ble_eq_true rfl) dL_addRing_22
set_option maxHeartbeats 2500000 in
set_option maxRecDepth 100000 in
theorem k_L_addRingT3 (l : Launch) (D : va_G) (cs : Nat → ClassId) (x : Nat) (e : Nat → Int32) (g : Nat → Int64) (e1 : Nat → Int32) (g1 : Nat → Int64) (nx cn : Nat) (se : Nat → Nat → Int32) (sg : Nat → Nat → Int64) (b nn : Nat → Int32) (wd ln pa : Nat) (ft : Int32) (f9 n0 pt : Int32) (hI : Inv e) (hw : wrg e f9 n0 pt = 3) (o : Nat) (f : Nat → Int64) (ho : x + 360 ≤ o) (L : Nat) (hL : L ≤ x) (hfl : l.stackTraces = false) : Met l yL_addRing wsL_addRing ({ frames := 8, cells := 1, slots := 6, locals := 135 } : Room) (PcY D cs L [.ref (x), .int (f9), .int (n0), .int (pt), .ref (o)] (fun H => HrC D cs x e g e1 g1 nx cn se sg b nn wd ln pa ft H ∧ va_at D vwCl (o, .inl (cs 5, 1, .inr (.inl f))) H)) (QcM (some (.int (nI (3)))) (fun H => HrC D cs x e g e1 g1 nx cn se sg b nn wd ln pa ft H ∧ va_at D vwCl (o, .inl (cs 5, 1, .inr (.inl f))) H) (fun y9 => (x ≤ y9 ∧ y9 < x + 360) ∨ y9 = o)) 1 6 (fun y9 => (x ≤ y9 ∧ y9 < x + 360) ∨ y9 = o) := by
  refine kx_metY (cc := cL_addRing) (maxL := 6) (ret := (some .int)) (by decide) rfl (Nat.le_of_ble_eq_true rfl) ?_
  intro p en s m args below meth c hx hb hml hrt hts hown hlk hK hN hX hY htb hP ls hl
  have hl : lv_has ls 6 [(0, .ref (x)), (1, .int (f9)), (2, .int (n0)), (3, .int (pt)), (4, .ref (o))] := hl
  obtain ⟨H, hHe⟩ : ∃ H : Heap, H = s.heap := ⟨_, rfl⟩
  rw [← hHe] at hP ⊢
  have hS : va_S ((fun y9 => (x ≤ y9 ∧ y9 < x + 360) ∨ y9 = o)) s.heap H [] := by rw [← hHe]; exact va_S.rf
  obtain ⟨⟨hWro, hM, hM2, hWhi, hWto, hWtb, hWtn⟩, hWou⟩ := hP
  have hX0 : XK (fun y9 => L ≤ y9) s s.heap := hX
  have hX : XK (fun y9 => L ≤ y9) s H := by rw [hHe]; exact hX0
  refine lv_aload hx hb dL_addRing_0 (lv_at hl 4 rfl) ?_
  refine lv_iconst (v := nI 0) hx hb dL_addRing_2 (by decide) ?_
  refine lv_aload_n hx hb dL_addRing_3 rfl (lv_at hl 0 rfl) ?_
  refine lv_iload_n hx hb dL_addRing_4 rfl (lv_at hl 1 rfl) ?_
  refine lv_iload_n hx hb dL_addRing_5 rfl (lv_at hl 2 rfl) ?_
  refine lv_iload_n hx hb dL_addRing_6 rfl (lv_at hl 3 rfl) ?_
  refine kx_catch (own := RL) (L := L) (vx_runV (As := [.int (f9), .int (n0), .int (pt)]) (rest := [.int (nI (0)), .ref (o)]) ⟨hx, hb, hml, hown, hts⟩ (k_X7_addRingT3 l D cs x e g e1 g1 nx cn se sg b nn wd ln pa ft f9 n0 pt hI hw L (by first | assumption | omega) (by first | assumption | omega)) (cwV 3 hts gL_addRing_X7_addRing rfl rfl rfl (by decide +kernel) ⟨Nat.le_of_ble_eq_true rfl, Nat.le_of_ble_eq_true rfl⟩) (kx_preXV hK hN hX hWro rfl ⟨hWro, hM, hM2, hWhi, hWto, hWtb, hWtn⟩) rfl rfl hl.1 rfl (lv_room (Nat.le_of_ble_eq_true rfl)) dL_addRing_7 ⟨Nat.le_of_ble_eq_true rfl, Nat.le_of_ble_eq_true rfl⟩) hown (hX0) (by decide) (tableOf [(0, 12, 15, 13), (0, 12, 19, 15)]) ⟨0, 12, 23, 17⟩ (tableOf []) htb (fun z hz => by
    simp only [tableOf, List.map, List.mem_cons, List.not_mem_nil, or_false] at hz
    rcases hz with rfl | rfl
    · exact Or.inr ⟨by decide, "java/lang/IndexOutOfBoundsException", hts (.classLink RL 13 "java/lang/IndexOutOfBoundsException") (by decide +kernel), hY ("java/lang/IllegalStateException", "java/lang/IndexOutOfBoundsException") (by decide)⟩
    · exact Or.inr ⟨by decide, "java/lang/IllegalArgumentException", hts (.classLink RL 15 "java/lang/IllegalArgumentException") (by decide +kernel), hY ("java/lang/IllegalStateException", "java/lang/IllegalArgumentException") (by decide)⟩) (by decide) (by decide) (hts (.classLink RL 17 "java/lang/IllegalStateException") (by decide +kernel)) hS (fun q9 H1 hz hk hS => ?_)
  have hW9 := HrC.grow (x := x) ⟨hWro, hM, hM2, hWhi, hWto, hWtb, hWtn⟩ hk
  have hWou := hWou.kept (hk _ hWou.lt)
  refine lv_astore (lv' := [(5, .ref (q9)), (0, .ref (x)), (1, .int (f9)), (2, .int (n0)), (3, .int (pt)), (4, .ref (o))]) hx hb dL_addRing_23 hl (by decide) rfl (fun ls hl => ?_)
  refine lv_iconst (v := nI 3) hx hb dL_addRing_25 (by decide) ?_
  exact kx_iretN hx hb hrt hlk rfl ⟨hW9, hWou⟩ hS (Nat.le_of_ble_eq_true rfl) (Nat.le_of_ble_eq_true rfl) dL_addRing_26
set_option maxHeartbeats 2500000 in
set_option maxRecDepth 100000 in
theorem k_L_cellSet (l : Launch) (D : va_G) (cs : Nat → ClassId) (x : Nat) (e : Nat → Int32) (g : Nat → Int64) (e1 : Nat → Int32) (g1 : Nat → Int64) (nx cn : Nat) (se : Nat → Nat → Int32) (sg : Nat → Nat → Int64) (b nn : Nat → Int32) (wd ln pa : Nat) (ft : Int32) (mv : Nat) (y : Bool) (hI : Inv e) (hG : Msk e g) (hm : mv < Mn e) (o : Nat) (f : Nat → Int64) (ho : x + 360 ≤ o) (L : Nat) (hL : L ≤ x) (hfl : l.stackTraces = false) : Met l yL_cellSet wsL_cellSet ({ frames := 2, cells := 0, slots := 0, locals := 43 } : Room) (PcY D cs L [.ref (x), .int (nI (mv)), .int (bI (y)), .ref (o)] (fun H => HrC D cs x e g e1 g1 nx cn se sg b nn wd ln pa ft H ∧ va_at D vwCl (o, .inl (cs 5, 1, .inr (.inl f))) H)) (QcM (some (.int (nI (0)))) (fun H => HrC D cs x e g e1 g1 nx cn se sg b nn wd ln pa ft H ∧ va_at D vwCl (o, .inl (cs 5, 1, .inr (.inl (vp_updL f 0 (lN (csN e y mv)))))) H) (fun y9 => (x ≤ y9 ∧ y9 < x + 360) ∨ y9 = o)) 0 0 (fun y9 => (x ≤ y9 ∧ y9 < x + 360) ∨ y9 = o) := by
  refine kx_metY (cc := cL_cellSet) (maxL := 5) (ret := (some .int)) (by decide) rfl (Nat.le_of_ble_eq_true rfl) ?_
  intro p en s m args below meth c hx hb hml hrt hts hown hlk hK hN hX hY htb hP ls hl
  have hl : lv_has ls 5 [(0, .ref (x)), (1, .int (nI (mv))), (2, .int (bI (y))), (3, .ref (o))] := hl
  obtain ⟨H, hHe⟩ : ∃ H : Heap, H = s.heap := ⟨_, rfl⟩
  rw [← hHe] at hP ⊢
  have hS : va_S ((fun y9 => (x ≤ y9 ∧ y9 < x + 360) ∨ y9 = o)) s.heap H [] := by rw [← hHe]; exact va_S.rf
  obtain ⟨⟨hWro, hM, hM2, hWhi, hWto, hWtb, hWtn⟩, hWou⟩ := hP
  have h24 := hI.M24
  have h6 := hI.R6
  refine lv_aload_n hx hb dL_cellSet_0 rfl (lv_at hl 3 rfl) ?_
  refine lv_iconst (v := nI 0) hx hb dL_cellSet_1 (by decide) ?_
  refine lv_aload_n hx hb dL_cellSet_2 rfl (lv_at hl 0 rfl) ?_
  refine lv_iload_n hx hb dL_cellSet_3 rfl (lv_at hl 1 rfl) ?_
  refine lv_iload_n hx hb dL_cellSet_4 rfl (lv_at hl 2 rfl) ?_
  refine kx_retP (va_runV (As := [.int (nI (mv)), .int (bI (y))]) (rest := [.int (nI (0)), .ref (o)]) ⟨hx, hb, hml, hown, hts⟩ (k_X7_cellSet l D cs x e g e1 g1 nx cn se sg b nn wd ln pa ft mv y hI hG (by first | assumption | omega)) (cwV 2 hts gL_cellSet_X7_cellSet rfl rfl rfl (by decide +kernel) ⟨Nat.le_of_ble_eq_true rfl, Nat.le_of_ble_eq_true rfl⟩) (kx_preV hK hN hWro rfl ⟨hWro, hM, hM2, hWhi, hWto, hWtb, hWtn⟩) rfl rfl hl.1 rfl (lv_room (Nat.le_of_ble_eq_true rfl)) dL_cellSet_5 ⟨Nat.le_of_ble_eq_true rfl, Nat.le_of_ble_eq_true rfl⟩) ?_
  refine kx_last (i := 0) hx hb hK hWou hS (Or.inr rfl) 5 rfl (by decide) (by decide) dL_cellSet_8 (fun H locs hc hU hS => ?_)
  have hWhi := hWhi.off hU (by omega)
  have hWro := hWro.kept (hU.2 _ (by omega))
  have hM := hM.off hU (by omega)
  have hM2 := hM2.off hU (by omega)
  have hWtb := hWtb.kept (hU.2 _ (by omega))
  have hWtn := hWtn.kept (hU.2 _ (by omega))
  have hWto := hWto.kept (hU.2 _ (by omega))
  have hWou := hc
  clear hc hU
  refine lv_goto (tgt := 16) hx hb dL_cellSet_9 (by decide) ?_
  refine lv_iconst (v := nI 0) hx hb dL_cellSet_16 (by decide) ?_
  exact kx_iretM hx hb hrt hlk rfl ⟨⟨hWro, hM, hM2, hWhi, hWto, hWtb, hWtn⟩, hWou⟩ hS dL_cellSet_17
