set_option maxHeartbeats 2500000 in
set_option maxRecDepth 100000 in
theorem k_L_setPatience (l : Launch) (D : va_G) (cs : Nat → ClassId) (x : Nat) (e : Nat → Int32) (g : Nat → Int64) (e1 : Nat → Int32) (g1 : Nat → Int64) (nx cn : Nat) (se : Nat → Nat → Int32) (sg : Nat → Nat → Int64) (b nn : Nat → Int32) (wd ln pa : Nat) (ft : Int32) (r : Nat) (v : Int32) (hI : Inv e) (hnx : nx < 4) (hcn : cn ≤ 4) (hw : wpt e (nI r) v = 0) (hr : r < 6) (o : Nat) (f : Nat → Int64) (ho : x + 360 ≤ o) (L : Nat) (hL : L ≤ x) (hfl : l.stackTraces = false) : Met l yL_setPatience wsL_setPatience ({ frames := 5, cells := 0, slots := 0, locals := 134 } : Room) (PcY D cs L [.ref (x), .int (nI (r)), .int (v), .ref (o)] (fun H => HrC D cs x e g e1 g1 nx cn se sg b nn wd ln pa ft H ∧ va_at D vwCl (o, .inl (cs 5, 1, .inr (.inl f))) H)) (QcM (some (.int (nI (0)))) (fun H => HrC D cs x ((upd e (56 + 4 * r + 2) v)) g e1 g1 (((nx + 1) % 4)) ((min (cn + 1) 4)) ((hsE se nx (cfF (se nx) e))) ((hsG sg nx (cgM (sg nx) g (Mn e)))) b nn wd ln pa ft H ∧ va_at D vwCl (o, .inl (cs 5, 1, .inr (.inl (vp_updL f 0 ((e (56 + 4 * r + 2)).toInt64))))) H) (fun y9 => (x ≤ y9 ∧ y9 < x + 360) ∨ y9 = o)) 0 0 (fun y9 => (x ≤ y9 ∧ y9 < x + 360) ∨ y9 = o) := by
  refine kx_metY (cc := cL_setPatience) (maxL := 5) (ret := (some .int)) (by decide) rfl (Nat.le_of_ble_eq_true rfl) ?_
  intro p en s m args below meth c hx hb hml hrt hts hown hlk hK hN hX hY htb hP ls hl
  have hl : lv_has ls 5 [(0, .ref (x)), (1, .int (nI (r))), (2, .int (v)), (3, .ref (o))] := hl
  obtain ⟨H, hHe⟩ : ∃ H : Heap, H = s.heap := ⟨_, rfl⟩
  rw [← hHe] at hP ⊢
  have hS : va_S ((fun y9 => (x ≤ y9 ∧ y9 < x + 360) ∨ y9 = o)) s.heap H [] := by rw [← hHe]; exact va_S.rf
  obtain ⟨⟨hWro, hM, hM2, hWhi, hWto, hWtb, hWtn⟩, hWou⟩ := hP
  have h24 := hI.M24
  have h6 := hI.R6
  refine lv_aload_n hx hb dL_setPatience_0 rfl (lv_at hl 3 rfl) ?_
  refine lv_iconst (v := nI 0) hx hb dL_setPatience_1 (by decide) ?_
  refine lv_aload_n hx hb dL_setPatience_2 rfl (lv_at hl 0 rfl) ?_
  refine lv_iload_n hx hb dL_setPatience_3 rfl (lv_at hl 1 rfl) ?_
  refine lv_iload_n hx hb dL_setPatience_4 rfl (lv_at hl 2 rfl) ?_
  refine kx_retM (va_runV (As := [.int (nI (r)), .int (v)]) (rest := [.int (nI (0)), .ref (o)]) ⟨hx, hb, hml, hown, hts⟩ (k_X7_setPatience l D cs x e g e1 g1 nx cn se sg b nn wd ln pa ft r v hI hnx hcn hw hr) (cwV 2 hts gL_setPatience_X7_setPatience rfl rfl rfl (by decide +kernel) ⟨Nat.le_of_ble_eq_true rfl, Nat.le_of_ble_eq_true rfl⟩) (kx_preV hK hN hWro rfl ⟨hWro, hM, hM2, hWhi, hWto, hWtb, hWtn⟩) rfl rfl hl.1 rfl (lv_room (Nat.le_of_ble_eq_true rfl)) dL_setPatience_5 ⟨Nat.le_of_ble_eq_true rfl, Nat.le_of_ble_eq_true rfl⟩) hS (fun x _ h => (Or.inl h)) (fun x h => (Or.inl h)) (fun H locs hMN hk hS => ?_)
  have hWou := hWou.kept (hk.2 _ hWou.lt (fun h => by have h3 := h.1; have h4 := h.2; omega))
  obtain ⟨hWro, hM, hM2, hWhi, hWto, hWtb, hWtn⟩ := hMN
  clear hk
  refine lv_i2l hx hb dL_setPatience_8 rfl ?_
  refine kx_last (i := 0) hx hb hK hWou hS (Or.inr rfl) 5 rfl (by decide) (by decide) dL_setPatience_9 (fun H locs hc hU hS => ?_)
  have hWhi := hWhi.off hU (by omega)
  have hWro := hWro.kept (hU.2 _ (by omega))
  have hM := hM.off hU (by omega)
  have hM2 := hM2.off hU (by omega)
  have hWtb := hWtb.kept (hU.2 _ (by omega))
  have hWtn := hWtn.kept (hU.2 _ (by omega))
  have hWto := hWto.kept (hU.2 _ (by omega))
  have hWou := hc
  clear hc hU
  refine lv_goto (tgt := 21) hx hb dL_setPatience_10 (by decide) ?_
  refine lv_iconst (v := nI 0) hx hb dL_setPatience_21 (by decide) ?_
  exact kx_iretM hx hb hrt hlk rfl ⟨⟨hWro, hM, hM2, hWhi, hWto, hWtb, hWtn⟩, hWou⟩ hS dL_setPatience_22
set_option maxHeartbeats 2500000 in
set_option maxRecDepth 100000 in
theorem k_L_setPatienceT1 (l : Launch) (D : va_G) (cs : Nat → ClassId) (x : Nat) (e : Nat → Int32) (g : Nat → Int64) (e1 : Nat → Int32) (g1 : Nat → Int64) (nx cn : Nat) (se : Nat → Nat → Int32) (sg : Nat → Nat → Int64) (b nn : Nat → Int32) (wd ln pa : Nat) (ft : Int32) (r v : Int32) (hI : Inv e) (hw : wpt e r v = 1) (o : Nat) (f : Nat → Int64) (ho : x + 360 ≤ o) (L : Nat) (hL : L ≤ x) (hfl : l.stackTraces = false) : Met l yL_setPatience wsL_setPatience ({ frames := 8, cells := 1, slots := 6, locals := 134 } : Room) (PcY D cs L [.ref (x), .int (r), .int (v), .ref (o)] (fun H => HrC D cs x e g e1 g1 nx cn se sg b nn wd ln pa ft H ∧ va_at D vwCl (o, .inl (cs 5, 1, .inr (.inl f))) H)) (QcM (some (.int (nI (1)))) (fun H => HrC D cs x e g e1 g1 nx cn se sg b nn wd ln pa ft H ∧ va_at D vwCl (o, .inl (cs 5, 1, .inr (.inl f))) H) (fun y9 => (x ≤ y9 ∧ y9 < x + 360) ∨ y9 = o)) 1 6 (fun y9 => (x ≤ y9 ∧ y9 < x + 360) ∨ y9 = o) := by
  refine kx_metY (cc := cL_setPatience) (maxL := 5) (ret := (some .int)) (by decide) rfl (Nat.le_of_ble_eq_true rfl) ?_
  intro p en s m args below meth c hx hb hml hrt hts hown hlk hK hN hX hY htb hP ls hl
  have hl : lv_has ls 5 [(0, .ref (x)), (1, .int (r)), (2, .int (v)), (3, .ref (o))] := hl
  obtain ⟨H, hHe⟩ : ∃ H : Heap, H = s.heap := ⟨_, rfl⟩
  rw [← hHe] at hP ⊢
  have hS : va_S ((fun y9 => (x ≤ y9 ∧ y9 < x + 360) ∨ y9 = o)) s.heap H [] := by rw [← hHe]; exact va_S.rf
  obtain ⟨⟨hWro, hM, hM2, hWhi, hWto, hWtb, hWtn⟩, hWou⟩ := hP
  have hX0 : XK (fun y9 => L ≤ y9) s s.heap := hX
  have hX : XK (fun y9 => L ≤ y9) s H := by rw [hHe]; exact hX0
  have h24 := hI.M24
  have h6 := hI.R6
  refine lv_aload_n hx hb dL_setPatience_0 rfl (lv_at hl 3 rfl) ?_
  refine lv_iconst (v := nI 0) hx hb dL_setPatience_1 (by decide) ?_
  refine lv_aload_n hx hb dL_setPatience_2 rfl (lv_at hl 0 rfl) ?_
  refine lv_iload_n hx hb dL_setPatience_3 rfl (lv_at hl 1 rfl) ?_
  refine lv_iload_n hx hb dL_setPatience_4 rfl (lv_at hl 2 rfl) ?_
  refine kx_catch (own := RL) (L := L) (vx_runV (As := [.int (r), .int (v)]) (rest := [.int (nI (0)), .ref (o)]) ⟨hx, hb, hml, hown, hts⟩ (k_X7_setPatienceT1 l D cs x e g e1 g1 nx cn se sg b nn wd ln pa ft r v hI hw L (by first | assumption | omega) (by first | assumption | omega)) (cwV 2 hts gL_setPatience_X7_setPatience rfl rfl rfl (by decide +kernel) ⟨Nat.le_of_ble_eq_true rfl, Nat.le_of_ble_eq_true rfl⟩) (kx_preXV hK hN hX hWro rfl ⟨hWro, hM, hM2, hWhi, hWto, hWtb, hWtn⟩) rfl rfl hl.1 rfl (lv_room (Nat.le_of_ble_eq_true rfl)) dL_setPatience_5 ⟨Nat.le_of_ble_eq_true rfl, Nat.le_of_ble_eq_true rfl⟩) hown (hX0) (by decide) (tableOf []) ⟨0, 10, 13, 13⟩ (tableOf [(0, 10, 17, 15)]) htb (fun z hz => nomatch hz) (by decide) (by decide) (hts (.classLink RL 13 "java/lang/IndexOutOfBoundsException") (by decide +kernel)) hS (fun q9 H1 hz hk hS => ?_)
  have hW9 := HrC.grow (x := x) ⟨hWro, hM, hM2, hWhi, hWto, hWtb, hWtn⟩ hk
  have hWou := hWou.kept (hk _ hWou.lt)
  refine lv_astore (lv' := [(4, .ref (q9)), (0, .ref (x)), (1, .int (r)), (2, .int (v)), (3, .ref (o))]) hx hb dL_setPatience_13 hl (by decide) rfl (fun ls hl => ?_)
  refine lv_iconst (v := nI 1) hx hb dL_setPatience_15 (by decide) ?_
  exact kx_iretN hx hb hrt hlk rfl ⟨hW9, hWou⟩ hS (Nat.le_of_ble_eq_true rfl) (Nat.le_of_ble_eq_true rfl) dL_setPatience_16
set_option maxHeartbeats 2500000 in
set_option maxRecDepth 100000 in
theorem k_L_setPatienceT2 (l : Launch) (D : va_G) (cs : Nat → ClassId) (x : Nat) (e : Nat → Int32) (g : Nat → Int64) (e1 : Nat → Int32) (g1 : Nat → Int64) (nx cn : Nat) (se : Nat → Nat → Int32) (sg : Nat → Nat → Int64) (b nn : Nat → Int32) (wd ln pa : Nat) (ft : Int32) (r v : Int32) (hI : Inv e) (hw : wpt e r v = 2) (o : Nat) (f : Nat → Int64) (ho : x + 360 ≤ o) (L : Nat) (hL : L ≤ x) (hfl : l.stackTraces = false) : Met l yL_setPatience wsL_setPatience ({ frames := 8, cells := 1, slots := 6, locals := 134 } : Room) (PcY D cs L [.ref (x), .int (r), .int (v), .ref (o)] (fun H => HrC D cs x e g e1 g1 nx cn se sg b nn wd ln pa ft H ∧ va_at D vwCl (o, .inl (cs 5, 1, .inr (.inl f))) H)) (QcM (some (.int (nI (2)))) (fun H => HrC D cs x e g e1 g1 nx cn se sg b nn wd ln pa ft H ∧ va_at D vwCl (o, .inl (cs 5, 1, .inr (.inl f))) H) (fun y9 => (x ≤ y9 ∧ y9 < x + 360) ∨ y9 = o)) 1 6 (fun y9 => (x ≤ y9 ∧ y9 < x + 360) ∨ y9 = o) := by
  refine kx_metY (cc := cL_setPatience) (maxL := 5) (ret := (some .int)) (by decide) rfl (Nat.le_of_ble_eq_true rfl) ?_
  intro p en s m args below meth c hx hb hml hrt hts hown hlk hK hN hX hY htb hP ls hl
  have hl : lv_has ls 5 [(0, .ref (x)), (1, .int (r)), (2, .int (v)), (3, .ref (o))] := hl
  obtain ⟨H, hHe⟩ : ∃ H : Heap, H = s.heap := ⟨_, rfl⟩
  rw [← hHe] at hP ⊢
  have hS : va_S ((fun y9 => (x ≤ y9 ∧ y9 < x + 360) ∨ y9 = o)) s.heap H [] := by rw [← hHe]; exact va_S.rf
  obtain ⟨⟨hWro, hM, hM2, hWhi, hWto, hWtb, hWtn⟩, hWou⟩ := hP
  have hX0 : XK (fun y9 => L ≤ y9) s s.heap := hX
  have hX : XK (fun y9 => L ≤ y9) s H := by rw [hHe]; exact hX0
  have h24 := hI.M24
  have h6 := hI.R6
  refine lv_aload_n hx hb dL_setPatience_0 rfl (lv_at hl 3 rfl) ?_
  refine lv_iconst (v := nI 0) hx hb dL_setPatience_1 (by decide) ?_
  refine lv_aload_n hx hb dL_setPatience_2 rfl (lv_at hl 0 rfl) ?_
  refine lv_iload_n hx hb dL_setPatience_3 rfl (lv_at hl 1 rfl) ?_
  refine lv_iload_n hx hb dL_setPatience_4 rfl (lv_at hl 2 rfl) ?_
  refine kx_catch (own := RL) (L := L) (vx_runV (As := [.int (r), .int (v)]) (rest := [.int (nI (0)), .ref (o)]) ⟨hx, hb, hml, hown, hts⟩ (k_X7_setPatienceT2 l D cs x e g e1 g1 nx cn se sg b nn wd ln pa ft r v hI hw L (by first | assumption | omega) (by first | assumption | omega)) (cwV 2 hts gL_setPatience_X7_setPatience rfl rfl rfl (by decide +kernel) ⟨Nat.le_of_ble_eq_true rfl, Nat.le_of_ble_eq_true rfl⟩) (kx_preXV hK hN hX hWro rfl ⟨hWro, hM, hM2, hWhi, hWto, hWtb, hWtn⟩) rfl rfl hl.1 rfl (lv_room (Nat.le_of_ble_eq_true rfl)) dL_setPatience_5 ⟨Nat.le_of_ble_eq_true rfl, Nat.le_of_ble_eq_true rfl⟩) hown (hX0) (by decide) (tableOf [(0, 10, 13, 13)]) ⟨0, 10, 17, 15⟩ (tableOf []) htb (fun z hz => by
    simp only [tableOf, List.map, List.mem_cons, List.not_mem_nil, or_false] at hz
    rcases hz with rfl
    · exact Or.inr ⟨by decide, "java/lang/IndexOutOfBoundsException", hts (.classLink RL 13 "java/lang/IndexOutOfBoundsException") (by decide +kernel), hY ("java/lang/IllegalArgumentException", "java/lang/IndexOutOfBoundsException") (by decide)⟩) (by decide) (by decide) (hts (.classLink RL 15 "java/lang/IllegalArgumentException") (by decide +kernel)) hS (fun q9 H1 hz hk hS => ?_)
  have hW9 := HrC.grow (x := x) ⟨hWro, hM, hM2, hWhi, hWto, hWtb, hWtn⟩ hk
  have hWou := hWou.kept (hk _ hWou.lt)
  refine lv_astore (lv' := [(4, .ref (q9)), (0, .ref (x)), (1, .int (r)), (2, .int (v)), (3, .ref (o))]) hx hb dL_setPatience_17 hl (by decide) rfl (fun ls hl => ?_)
  refine lv_iconst (v := nI 2) hx hb dL_setPatience_19 (by decide) ?_
  exact kx_iretN hx hb hrt hlk rfl ⟨hW9, hWou⟩ hS (Nat.le_of_ble_eq_true rfl) (Nat.le_of_ble_eq_true rfl) dL_setPatience_20
set_option maxHeartbeats 2500000 in
set_option maxRecDepth 100000 in
theorem k_L_set (l : Launch) (D : va_G) (cs : Nat → ClassId) (x : Nat) (e : Nat → Int32) (g : Nat → Int64) (e1 : Nat → Int32) (g1 : Nat → Int64) (nx cn : Nat) (se : Nat → Nat → Int32) (sg : Nat → Nat → Int64) (b nn : Nat → Int32) (wd ln pa : Nat) (ft : Int32) (w : Nat) (v : Int32) (hI : Inv e) (hnx : nx < 4) (hcn : cn ≤ 4) (hw : wse (nI w) v = 0) (hw2 : w < 2) (o : Nat) (f : Nat → Int64) (ho : x + 360 ≤ o) (L : Nat) (hL : L ≤ x) (hfl : l.stackTraces = false) : Met l yL_set wsL_set ({ frames := 5, cells := 0, slots := 0, locals := 134 } : Room) (PcY D cs L [.ref (x), .int (nI (w)), .int (v), .ref (o)] (fun H => HrC D cs x e g e1 g1 nx cn se sg b nn wd ln pa ft H ∧ va_at D vwCl (o, .inl (cs 5, 1, .inr (.inl f))) H)) (QcM (some (.int (nI (0)))) (fun H => HrC D cs x ((upd e (1 + w) v)) g e1 g1 (((nx + 1) % 4)) ((min (cn + 1) 4)) ((hsE se nx (cfF (se nx) e))) ((hsG sg nx (cgM (sg nx) g (Mn e)))) b nn wd ln pa ft H ∧ va_at D vwCl (o, .inl (cs 5, 1, .inr (.inl (vp_updL f 0 ((e (1 + w)).toInt64))))) H) (fun y9 => (x ≤ y9 ∧ y9 < x + 360) ∨ y9 = o)) 0 0 (fun y9 => (x ≤ y9 ∧ y9 < x + 360) ∨ y9 = o) := by
  refine kx_metY (cc := cL_set) (maxL := 5) (ret := (some .int)) (by decide) rfl (Nat.le_of_ble_eq_true rfl) ?_
  intro p en s m args below meth c hx hb hml hrt hts hown hlk hK hN hX hY htb hP ls hl
  have hl : lv_has ls 5 [(0, .ref (x)), (1, .int (nI (w))), (2, .int (v)), (3, .ref (o))] := hl
  obtain ⟨H, hHe⟩ : ∃ H : Heap, H = s.heap := ⟨_, rfl⟩
  rw [← hHe] at hP ⊢
  have hS : va_S ((fun y9 => (x ≤ y9 ∧ y9 < x + 360) ∨ y9 = o)) s.heap H [] := by rw [← hHe]; exact va_S.rf
  obtain ⟨⟨hWro, hM, hM2, hWhi, hWto, hWtb, hWtn⟩, hWou⟩ := hP
  have h24 := hI.M24
  have h6 := hI.R6
  refine lv_aload_n hx hb dL_set_0 rfl (lv_at hl 3 rfl) ?_
  refine lv_iconst (v := nI 0) hx hb dL_set_1 (by decide) ?_
  refine lv_aload_n hx hb dL_set_2 rfl (lv_at hl 0 rfl) ?_
  refine lv_iload_n hx hb dL_set_3 rfl (lv_at hl 1 rfl) ?_
  refine lv_iload_n hx hb dL_set_4 rfl (lv_at hl 2 rfl) ?_
  refine kx_retM (va_runV (As := [.int (nI (w)), .int (v)]) (rest := [.int (nI (0)), .ref (o)]) ⟨hx, hb, hml, hown, hts⟩ (k_X7_set l D cs x e g e1 g1 nx cn se sg b nn wd ln pa ft w v hI hnx hcn hw hw2) (cwV 2 hts gL_set_X7_set rfl rfl rfl (by decide +kernel) ⟨Nat.le_of_ble_eq_true rfl, Nat.le_of_ble_eq_true rfl⟩) (kx_preV hK hN hWro rfl ⟨hWro, hM, hM2, hWhi, hWto, hWtb, hWtn⟩) rfl rfl hl.1 rfl (lv_room (Nat.le_of_ble_eq_true rfl)) dL_set_5 ⟨Nat.le_of_ble_eq_true rfl, Nat.le_of_ble_eq_true rfl⟩) hS (fun x _ h => (Or.inl h)) (fun x h => (Or.inl h)) (fun H locs hMN hk hS => ?_)
  have hWou := hWou.kept (hk.2 _ hWou.lt (fun h => by have h3 := h.1; have h4 := h.2; omega))
  obtain ⟨hWro, hM, hM2, hWhi, hWto, hWtb, hWtn⟩ := hMN
  clear hk
  refine lv_i2l hx hb dL_set_8 rfl ?_
  refine kx_last (i := 0) hx hb hK hWou hS (Or.inr rfl) 5 rfl (by decide) (by decide) dL_set_9 (fun H locs hc hU hS => ?_)
  have hWhi := hWhi.off hU (by omega)
  have hWro := hWro.kept (hU.2 _ (by omega))
  have hM := hM.off hU (by omega)
  have hM2 := hM2.off hU (by omega)
  have hWtb := hWtb.kept (hU.2 _ (by omega))
  have hWtn := hWtn.kept (hU.2 _ (by omega))
  have hWto := hWto.kept (hU.2 _ (by omega))
  have hWou := hc
  clear hc hU
  refine lv_goto (tgt := 17) hx hb dL_set_10 (by decide) ?_
  refine lv_iconst (v := nI 0) hx hb dL_set_17 (by decide) ?_
  exact kx_iretM hx hb hrt hlk rfl ⟨⟨hWro, hM, hM2, hWhi, hWto, hWtb, hWtn⟩, hWou⟩ hS dL_set_18
set_option maxHeartbeats 2500000 in
set_option maxRecDepth 100000 in
theorem k_L_setT2 (l : Launch) (D : va_G) (cs : Nat → ClassId) (x : Nat) (e : Nat → Int32) (g : Nat → Int64) (e1 : Nat → Int32) (g1 : Nat → Int64) (nx cn : Nat) (se : Nat → Nat → Int32) (sg : Nat → Nat → Int64) (b nn : Nat → Int32) (wd ln pa : Nat) (ft : Int32) (w0 v : Int32) (hw : c12 (wse w0 v) = 2) (o : Nat) (f : Nat → Int64) (ho : x + 360 ≤ o) (L : Nat) (hL : L ≤ x) (hfl : l.stackTraces = false) : Met l yL_set wsL_set ({ frames := 8, cells := 1, slots := 6, locals := 134 } : Room) (PcY D cs L [.ref (x), .int (w0), .int (v), .ref (o)] (fun H => HrC D cs x e g e1 g1 nx cn se sg b nn wd ln pa ft H ∧ va_at D vwCl (o, .inl (cs 5, 1, .inr (.inl f))) H)) (QcM (some (.int (nI (1)))) (fun H => HrC D cs x e g e1 g1 nx cn se sg b nn wd ln pa ft H ∧ va_at D vwCl (o, .inl (cs 5, 1, .inr (.inl f))) H) (fun y9 => (x ≤ y9 ∧ y9 < x + 360) ∨ y9 = o)) 1 6 (fun y9 => (x ≤ y9 ∧ y9 < x + 360) ∨ y9 = o) := by
  refine kx_metY (cc := cL_set) (maxL := 5) (ret := (some .int)) (by decide) rfl (Nat.le_of_ble_eq_true rfl) ?_
  intro p en s m args below meth c hx hb hml hrt hts hown hlk hK hN hX hY htb hP ls hl
  have hl : lv_has ls 5 [(0, .ref (x)), (1, .int (w0)), (2, .int (v)), (3, .ref (o))] := hl
  obtain ⟨H, hHe⟩ : ∃ H : Heap, H = s.heap := ⟨_, rfl⟩
  rw [← hHe] at hP ⊢
  have hS : va_S ((fun y9 => (x ≤ y9 ∧ y9 < x + 360) ∨ y9 = o)) s.heap H [] := by rw [← hHe]; exact va_S.rf
  obtain ⟨⟨hWro, hM, hM2, hWhi, hWto, hWtb, hWtn⟩, hWou⟩ := hP
  have hX0 : XK (fun y9 => L ≤ y9) s s.heap := hX
  have hX : XK (fun y9 => L ≤ y9) s H := by rw [hHe]; exact hX0
  refine lv_aload_n hx hb dL_set_0 rfl (lv_at hl 3 rfl) ?_
  refine lv_iconst (v := nI 0) hx hb dL_set_1 (by decide) ?_
  refine lv_aload_n hx hb dL_set_2 rfl (lv_at hl 0 rfl) ?_
  refine lv_iload_n hx hb dL_set_3 rfl (lv_at hl 1 rfl) ?_
  refine lv_iload_n hx hb dL_set_4 rfl (lv_at hl 2 rfl) ?_
  refine kx_catch (own := RL) (L := L) (vx_runV (As := [.int (w0), .int (v)]) (rest := [.int (nI (0)), .ref (o)]) ⟨hx, hb, hml, hown, hts⟩ (k_X7_setT2 l D cs x e g e1 g1 nx cn se sg b nn wd ln pa ft w0 v hw L (by first | assumption | omega) (by first | assumption | omega)) (cwV 2 hts gL_set_X7_set rfl rfl rfl (by decide +kernel) ⟨Nat.le_of_ble_eq_true rfl, Nat.le_of_ble_eq_true rfl⟩) (kx_preXV hK hN hX hWro rfl ⟨hWro, hM, hM2, hWhi, hWto, hWtb, hWtn⟩) rfl rfl hl.1 rfl (lv_room (Nat.le_of_ble_eq_true rfl)) dL_set_5 ⟨Nat.le_of_ble_eq_true rfl, Nat.le_of_ble_eq_true rfl⟩) hown (hX0) (by decide) (tableOf []) ⟨0, 10, 13, 15⟩ (tableOf []) htb (fun z hz => nomatch hz) (by decide) (by decide) (hts (.classLink RL 15 "java/lang/IllegalArgumentException") (by decide +kernel)) hS (fun q9 H1 hz hk hS => ?_)
  have hW9 := HrC.grow (x := x) ⟨hWro, hM, hM2, hWhi, hWto, hWtb, hWtn⟩ hk
  have hWou := hWou.kept (hk _ hWou.lt)
  refine lv_astore (lv' := [(4, .ref (q9)), (0, .ref (x)), (1, .int (w0)), (2, .int (v)), (3, .ref (o))]) hx hb dL_set_13 hl (by decide) rfl (fun ls hl => ?_)
  refine lv_iconst (v := nI 1) hx hb dL_set_15 (by decide) ?_
  exact kx_iretN hx hb hrt hlk rfl ⟨hW9, hWou⟩ hS (Nat.le_of_ble_eq_true rfl) (Nat.le_of_ble_eq_true rfl) dL_set_16
set_option maxHeartbeats 2500000 in
set_option maxRecDepth 100000 in
theorem k_L_write (l : Launch) (D : va_G) (cs : Nat → ClassId) (x : Nat) (e : Nat → Int32) (g : Nat → Int64) (e1 : Nat → Int32) (g1 : Nat → Int64) (nx cn : Nat) (se : Nat → Nat → Int32) (sg : Nat → Nat → Int64) (b nn : Nat → Int32) (wd ln pa : Nat) (ft : Int32) (y : Nat) (v : Int32) (hI : Inv e) (hG : Msk e g) (hnx : nx < 4) (hcn : cn ≤ 4) (hw : wwr e (nI y) v = 0) (hy : y < 48) (o : Nat) (f : Nat → Int64) (ho : x + 360 ≤ o) (L : Nat) (hL : L ≤ x) (hfl : l.stackTraces = false) : Met l yL_write wsL_write ({ frames := 5, cells := 0, slots := 0, locals := 134 } : Room) (PcY D cs L [.ref (x), .int (nI (y)), .int (v), .ref (o)] (fun H => HrC D cs x e g e1 g1 nx cn se sg b nn wd ln pa ft H ∧ va_at D vwCl (o, .inl (cs 5, 1, .inr (.inl f))) H)) (QcM (some (.int (nI (0)))) (fun H => HrC D cs x ((upd e (8 + y) v)) g e1 g1 (((nx + 1) % 4)) ((min (cn + 1) 4)) ((hsE se nx (cfF (se nx) e))) ((hsG sg nx (cgM (sg nx) g (Mn e)))) b nn wd ln pa ft H ∧ va_at D vwCl (o, .inl (cs 5, 1, .inr (.inl (vp_updL f 0 ((e (8 + y)).toInt64))))) H) (fun y9 => (x ≤ y9 ∧ y9 < x + 360) ∨ y9 = o)) 0 0 (fun y9 => (x ≤ y9 ∧ y9 < x + 360) ∨ y9 = o) := by
  refine kx_metY (cc := cL_write) (maxL := 5) (ret := (some .int)) (by decide) rfl (Nat.le_of_ble_eq_true rfl) ?_
  intro p en s m args below meth c hx hb hml hrt hts hown hlk hK hN hX hY htb hP ls hl
  have hl : lv_has ls 5 [(0, .ref (x)), (1, .int (nI (y))), (2, .int (v)), (3, .ref (o))] := hl
  obtain ⟨H, hHe⟩ : ∃ H : Heap, H = s.heap := ⟨_, rfl⟩
  rw [← hHe] at hP ⊢
  have hS : va_S ((fun y9 => (x ≤ y9 ∧ y9 < x + 360) ∨ y9 = o)) s.heap H [] := by rw [← hHe]; exact va_S.rf
  obtain ⟨⟨hWro, hM, hM2, hWhi, hWto, hWtb, hWtn⟩, hWou⟩ := hP
  have h24 := hI.M24
  have h6 := hI.R6
  refine lv_aload_n hx hb dL_write_0 rfl (lv_at hl 3 rfl) ?_
  refine lv_iconst (v := nI 0) hx hb dL_write_1 (by decide) ?_
  refine lv_aload_n hx hb dL_write_2 rfl (lv_at hl 0 rfl) ?_
  refine lv_iload_n hx hb dL_write_3 rfl (lv_at hl 1 rfl) ?_
  refine lv_iload_n hx hb dL_write_4 rfl (lv_at hl 2 rfl) ?_
  refine kx_retM (va_runV (As := [.int (nI (y)), .int (v)]) (rest := [.int (nI (0)), .ref (o)]) ⟨hx, hb, hml, hown, hts⟩ (k_X7_write l D cs x e g e1 g1 nx cn se sg b nn wd ln pa ft y v hI hG hnx hcn hw hy) (cwV 2 hts gL_write_X7_write rfl rfl rfl (by decide +kernel) ⟨Nat.le_of_ble_eq_true rfl, Nat.le_of_ble_eq_true rfl⟩) (kx_preV hK hN hWro rfl ⟨hWro, hM, hM2, hWhi, hWto, hWtb, hWtn⟩) rfl rfl hl.1 rfl (lv_room (Nat.le_of_ble_eq_true rfl)) dL_write_5 ⟨Nat.le_of_ble_eq_true rfl, Nat.le_of_ble_eq_true rfl⟩) hS (fun x _ h => (Or.inl h)) (fun x h => (Or.inl h)) (fun H locs hMN hk hS => ?_)
  have hWou := hWou.kept (hk.2 _ hWou.lt (fun h => by have h3 := h.1; have h4 := h.2; omega))
  obtain ⟨hWro, hM, hM2, hWhi, hWto, hWtb, hWtn⟩ := hMN
  clear hk
  refine lv_i2l hx hb dL_write_8 rfl ?_
  refine kx_last (i := 0) hx hb hK hWou hS (Or.inr rfl) 5 rfl (by decide) (by decide) dL_write_9 (fun H locs hc hU hS => ?_)
  have hWhi := hWhi.off hU (by omega)
  have hWro := hWro.kept (hU.2 _ (by omega))
  have hM := hM.off hU (by omega)
  have hM2 := hM2.off hU (by omega)
  have hWtb := hWtb.kept (hU.2 _ (by omega))
  have hWtn := hWtn.kept (hU.2 _ (by omega))
  have hWto := hWto.kept (hU.2 _ (by omega))
  have hWou := hc
  clear hc hU
  refine lv_goto (tgt := 25) hx hb dL_write_10 (by decide) ?_
  refine lv_iconst (v := nI 0) hx hb dL_write_25 (by decide) ?_
  exact kx_iretM hx hb hrt hlk rfl ⟨⟨hWro, hM, hM2, hWhi, hWto, hWtb, hWtn⟩, hWou⟩ hS dL_write_26
set_option maxHeartbeats 2500000 in
set_option maxRecDepth 100000 in
theorem k_L_writeT1 (l : Launch) (D : va_G) (cs : Nat → ClassId) (x : Nat) (e : Nat → Int32) (g : Nat → Int64) (e1 : Nat → Int32) (g1 : Nat → Int64) (nx cn : Nat) (se : Nat → Nat → Int32) (sg : Nat → Nat → Int64) (b nn : Nat → Int32) (wd ln pa : Nat) (ft : Int32) (y v : Int32) (hI : Inv e) (hG : Msk e g) (hw : wwr e y v = 1) (o : Nat) (f : Nat → Int64) (ho : x + 360 ≤ o) (L : Nat) (hL : L ≤ x) (hfl : l.stackTraces = false) : Met l yL_write wsL_write ({ frames := 8, cells := 1, slots := 6, locals := 134 } : Room) (PcY D cs L [.ref (x), .int (y), .int (v), .ref (o)] (fun H => HrC D cs x e g e1 g1 nx cn se sg b nn wd ln pa ft H ∧ va_at D vwCl (o, .inl (cs 5, 1, .inr (.inl f))) H)) (QcM (some (.int (nI (1)))) (fun H => HrC D cs x e g e1 g1 nx cn se sg b nn wd ln pa ft H ∧ va_at D vwCl (o, .inl (cs 5, 1, .inr (.inl f))) H) (fun y9 => (x ≤ y9 ∧ y9 < x + 360) ∨ y9 = o)) 1 6 (fun y9 => (x ≤ y9 ∧ y9 < x + 360) ∨ y9 = o) := by
  refine kx_metY (cc := cL_write) (maxL := 5) (ret := (some .int)) (by decide) rfl (Nat.le_of_ble_eq_true rfl) ?_
  intro p en s m args below meth c hx hb hml hrt hts hown hlk hK hN hX hY htb hP ls hl
  have hl : lv_has ls 5 [(0, .ref (x)), (1, .int (y)), (2, .int (v)), (3, .ref (o))] := hl
  obtain ⟨H, hHe⟩ : ∃ H : Heap, H = s.heap := ⟨_, rfl⟩
  rw [← hHe] at hP ⊢
  have hS : va_S ((fun y9 => (x ≤ y9 ∧ y9 < x + 360) ∨ y9 = o)) s.heap H [] := by rw [← hHe]; exact va_S.rf
  obtain ⟨⟨hWro, hM, hM2, hWhi, hWto, hWtb, hWtn⟩, hWou⟩ := hP
  have hX0 : XK (fun y9 => L ≤ y9) s s.heap := hX
  have hX : XK (fun y9 => L ≤ y9) s H := by rw [hHe]; exact hX0
  have h24 := hI.M24
  have h6 := hI.R6
  refine lv_aload_n hx hb dL_write_0 rfl (lv_at hl 3 rfl) ?_
  refine lv_iconst (v := nI 0) hx hb dL_write_1 (by decide) ?_
  refine lv_aload_n hx hb dL_write_2 rfl (lv_at hl 0 rfl) ?_
  refine lv_iload_n hx hb dL_write_3 rfl (lv_at hl 1 rfl) ?_
  refine lv_iload_n hx hb dL_write_4 rfl (lv_at hl 2 rfl) ?_
  refine kx_catch (own := RL) (L := L) (vx_runV (As := [.int (y), .int (v)]) (rest := [.int (nI (0)), .ref (o)]) ⟨hx, hb, hml, hown, hts⟩ (k_X7_writeT1 l D cs x e g e1 g1 nx cn se sg b nn wd ln pa ft y v hI hG hw L (by first | assumption | omega) (by first | assumption | omega)) (cwV 2 hts gL_write_X7_write rfl rfl rfl (by decide +kernel) ⟨Nat.le_of_ble_eq_true rfl, Nat.le_of_ble_eq_true rfl⟩) (kx_preXV hK hN hX hWro rfl ⟨hWro, hM, hM2, hWhi, hWto, hWtb, hWtn⟩) rfl rfl hl.1 rfl (lv_room (Nat.le_of_ble_eq_true rfl)) dL_write_5 ⟨Nat.le_of_ble_eq_true rfl, Nat.le_of_ble_eq_true rfl⟩) hown (hX0) (by decide) (tableOf []) ⟨0, 10, 13, 13⟩ (tableOf [(0, 10, 17, 15), (0, 10, 21, 17)]) htb (fun z hz => nomatch hz) (by decide) (by decide) (hts (.classLink RL 13 "java/lang/IndexOutOfBoundsException") (by decide +kernel)) hS (fun q9 H1 hz hk hS => ?_)
  have hW9 := HrC.grow (x := x) ⟨hWro, hM, hM2, hWhi, hWto, hWtb, hWtn⟩ hk
  have hWou := hWou.kept (hk _ hWou.lt)
  refine lv_astore (lv' := [(4, .ref (q9)), (0, .ref (x)), (1, .int (y)), (2, .int (v)), (3, .ref (o))]) hx hb dL_write_13 hl (by decide) rfl (fun ls hl => ?_)
  refine lv_iconst (v := nI 1) hx hb dL_write_15 (by decide) ?_
  exact kx_iretN hx hb hrt hlk rfl ⟨hW9, hWou⟩ hS (Nat.le_of_ble_eq_true rfl) (Nat.le_of_ble_eq_true rfl) dL_write_16
set_option maxHeartbeats 2500000 in
set_option maxRecDepth 100000 in
theorem k_L_writeT2 (l : Launch) (D : va_G) (cs : Nat → ClassId) (x : Nat) (e : Nat → Int32) (g : Nat → Int64) (e1 : Nat → Int32) (g1 : Nat → Int64) (nx cn : Nat) (se : Nat → Nat → Int32) (sg : Nat → Nat → Int64) (b nn : Nat → Int32) (wd ln pa : Nat) (ft : Int32) (y v : Int32) (hI : Inv e) (hG : Msk e g) (hw : wwr e y v = 2) (o : Nat) (f : Nat → Int64) (ho : x + 360 ≤ o) (L : Nat) (hL : L ≤ x) (hfl : l.stackTraces = false) : Met l yL_write wsL_write ({ frames := 8, cells := 1, slots := 6, locals := 134 } : Room) (PcY D cs L [.ref (x), .int (y), .int (v), .ref (o)] (fun H => HrC D cs x e g e1 g1 nx cn se sg b nn wd ln pa ft H ∧ va_at D vwCl (o, .inl (cs 5, 1, .inr (.inl f))) H)) (QcM (some (.int (nI (2)))) (fun H => HrC D cs x e g e1 g1 nx cn se sg b nn wd ln pa ft H ∧ va_at D vwCl (o, .inl (cs 5, 1, .inr (.inl f))) H) (fun y9 => (x ≤ y9 ∧ y9 < x + 360) ∨ y9 = o)) 1 6 (fun y9 => (x ≤ y9 ∧ y9 < x + 360) ∨ y9 = o) := by
  refine kx_metY (cc := cL_write) (maxL := 5) (ret := (some .int)) (by decide) rfl (Nat.le_of_ble_eq_true rfl) ?_
  intro p en s m args below meth c hx hb hml hrt hts hown hlk hK hN hX hY htb hP ls hl
  have hl : lv_has ls 5 [(0, .ref (x)), (1, .int (y)), (2, .int (v)), (3, .ref (o))] := hl
  obtain ⟨H, hHe⟩ : ∃ H : Heap, H = s.heap := ⟨_, rfl⟩
  rw [← hHe] at hP ⊢
  have hS : va_S ((fun y9 => (x ≤ y9 ∧ y9 < x + 360) ∨ y9 = o)) s.heap H [] := by rw [← hHe]; exact va_S.rf
  obtain ⟨⟨hWro, hM, hM2, hWhi, hWto, hWtb, hWtn⟩, hWou⟩ := hP
  have hX0 : XK (fun y9 => L ≤ y9) s s.heap := hX
  have hX : XK (fun y9 => L ≤ y9) s H := by rw [hHe]; exact hX0
  have h24 := hI.M24
  have h6 := hI.R6
  refine lv_aload_n hx hb dL_write_0 rfl (lv_at hl 3 rfl) ?_
  refine lv_iconst (v := nI 0) hx hb dL_write_1 (by decide) ?_
  refine lv_aload_n hx hb dL_write_2 rfl (lv_at hl 0 rfl) ?_
  refine lv_iload_n hx hb dL_write_3 rfl (lv_at hl 1 rfl) ?_
  refine lv_iload_n hx hb dL_write_4 rfl (lv_at hl 2 rfl) ?_
  refine kx_catch (own := RL) (L := L) (vx_runV (As := [.int (y), .int (v)]) (rest := [.int (nI (0)), .ref (o)]) ⟨hx, hb, hml, hown, hts⟩ (k_X7_writeT2 l D cs x e g e1 g1 nx cn se sg b nn wd ln pa ft y v hI hG hw L (by first | assumption | omega) (by first | assumption | omega)) (cwV 2 hts gL_write_X7_write rfl rfl rfl (by decide +kernel) ⟨Nat.le_of_ble_eq_true rfl, Nat.le_of_ble_eq_true rfl⟩) (kx_preXV hK hN hX hWro rfl ⟨hWro, hM, hM2, hWhi, hWto, hWtb, hWtn⟩) rfl rfl hl.1 rfl (lv_room (Nat.le_of_ble_eq_true rfl)) dL_write_5 ⟨Nat.le_of_ble_eq_true rfl, Nat.le_of_ble_eq_true rfl⟩) hown (hX0) (by decide) (tableOf [(0, 10, 13, 13)]) ⟨0, 10, 17, 15⟩ (tableOf [(0, 10, 21, 17)]) htb (fun z hz => by
    simp only [tableOf, List.map, List.mem_cons, List.not_mem_nil, or_false] at hz
    rcases hz with rfl
    · exact Or.inr ⟨by decide, "java/lang/IndexOutOfBoundsException", hts (.classLink RL 13 "java/lang/IndexOutOfBoundsException") (by decide +kernel), hY ("java/lang/IllegalArgumentException", "java/lang/IndexOutOfBoundsException") (by decide)⟩) (by decide) (by decide) (hts (.classLink RL 15 "java/lang/IllegalArgumentException") (by decide +kernel)) hS (fun q9 H1 hz hk hS => ?_)
  have hW9 := HrC.grow (x := x) ⟨hWro, hM, hM2, hWhi, hWto, hWtb, hWtn⟩ hk
  have hWou := hWou.kept (hk _ hWou.lt)
  refine lv_astore (lv' := [(4, .ref (q9)), (0, .ref (x)), (1, .int (y)), (2, .int (v)), (3, .ref (o))]) hx hb dL_write_17 hl (by decide) rfl (fun ls hl => ?_)
  refine lv_iconst (v := nI 2) hx hb dL_write_19 (by decide) ?_
  exact kx_iretN hx hb hrt hlk rfl ⟨hW9, hWou⟩ hS (Nat.le_of_ble_eq_true rfl) (Nat.le_of_ble_eq_true rfl) dL_write_20
set_option maxHeartbeats 2500000 in
set_option maxRecDepth 100000 in
theorem k_L_writeT3 (l : Launch) (D : va_G) (cs : Nat → ClassId) (x : Nat) (e : Nat → Int32) (g : Nat → Int64) (e1 : Nat → Int32) (g1 : Nat → Int64) (nx cn : Nat) (se : Nat → Nat → Int32) (sg : Nat → Nat → Int64) (b nn : Nat → Int32) (wd ln pa : Nat) (ft : Int32) (y v : Int32) (hI : Inv e) (hG : Msk e g) (hw : wwr e y v = 3) (o : Nat) (f : Nat → Int64) (ho : x + 360 ≤ o) (L : Nat) (hL : L ≤ x) (hfl : l.stackTraces = false) : Met l yL_write wsL_write ({ frames := 8, cells := 1, slots := 6, locals := 134 } : Room) (PcY D cs L [.ref (x), .int (y), .int (v), .ref (o)] (fun H => HrC D cs x e g e1 g1 nx cn se sg b nn wd ln pa ft H ∧ va_at D vwCl (o, .inl (cs 5, 1, .inr (.inl f))) H)) (QcM (some (.int (nI (3)))) (fun H => HrC D cs x e g e1 g1 nx cn se sg b nn wd ln pa ft H ∧ va_at D vwCl (o, .inl (cs 5, 1, .inr (.inl f))) H) (fun y9 => (x ≤ y9 ∧ y9 < x + 360) ∨ y9 = o)) 1 6 (fun y9 => (x ≤ y9 ∧ y9 < x + 360) ∨ y9 = o) := by
  refine kx_metY (cc := cL_write) (maxL := 5) (ret := (some .int)) (by decide) rfl (Nat.le_of_ble_eq_true rfl) ?_
  intro p en s m args below meth c hx hb hml hrt hts hown hlk hK hN hX hY htb hP ls hl
  have hl : lv_has ls 5 [(0, .ref (x)), (1, .int (y)), (2, .int (v)), (3, .ref (o))] := hl
  obtain ⟨H, hHe⟩ : ∃ H : Heap, H = s.heap := ⟨_, rfl⟩
  rw [← hHe] at hP ⊢
  have hS : va_S ((fun y9 => (x ≤ y9 ∧ y9 < x + 360) ∨ y9 = o)) s.heap H [] := by rw [← hHe]; exact va_S.rf
  obtain ⟨⟨hWro, hM, hM2, hWhi, hWto, hWtb, hWtn⟩, hWou⟩ := hP
  have hX0 : XK (fun y9 => L ≤ y9) s s.heap := hX
  have hX : XK (fun y9 => L ≤ y9) s H := by rw [hHe]; exact hX0
  have h24 := hI.M24
  have h6 := hI.R6
  refine lv_aload_n hx hb dL_write_0 rfl (lv_at hl 3 rfl) ?_
  refine lv_iconst (v := nI 0) hx hb dL_write_1 (by decide) ?_
  refine lv_aload_n hx hb dL_write_2 rfl (lv_at hl 0 rfl) ?_
  refine lv_iload_n hx hb dL_write_3 rfl (lv_at hl 1 rfl) ?_
  refine lv_iload_n hx hb dL_write_4 rfl (lv_at hl 2 rfl) ?_
  refine kx_catch (own := RL) (L := L) (vx_runV (As := [.int (y), .int (v)]) (rest := [.int (nI (0)), .ref (o)]) ⟨hx, hb, hml, hown, hts⟩ (k_X7_writeT3 l D cs x e g e1 g1 nx cn se sg b nn wd ln pa ft y v hI hG hw L (by first | assumption | omega) (by first | assumption | omega)) (cwV 2 hts gL_write_X7_write rfl rfl rfl (by decide +kernel) ⟨Nat.le_of_ble_eq_true rfl, Nat.le_of_ble_eq_true rfl⟩) (kx_preXV hK hN hX hWro rfl ⟨hWro, hM, hM2, hWhi, hWto, hWtb, hWtn⟩) rfl rfl hl.1 rfl (lv_room (Nat.le_of_ble_eq_true rfl)) dL_write_5 ⟨Nat.le_of_ble_eq_true rfl, Nat.le_of_ble_eq_true rfl⟩) hown (hX0) (by decide) (tableOf [(0, 10, 13, 13), (0, 10, 17, 15)]) ⟨0, 10, 21, 17⟩ (tableOf []) htb (fun z hz => by
    simp only [tableOf, List.map, List.mem_cons, List.not_mem_nil, or_false] at hz
    rcases hz with rfl | rfl
    · exact Or.inr ⟨by decide, "java/lang/IndexOutOfBoundsException", hts (.classLink RL 13 "java/lang/IndexOutOfBoundsException") (by decide +kernel), hY ("java/lang/IllegalStateException", "java/lang/IndexOutOfBoundsException") (by decide)⟩
    · exact Or.inr ⟨by decide, "java/lang/IllegalArgumentException", hts (.classLink RL 15 "java/lang/IllegalArgumentException") (by decide +kernel), hY ("java/lang/IllegalStateException", "java/lang/IllegalArgumentException") (by decide)⟩) (by decide) (by decide) (hts (.classLink RL 17 "java/lang/IllegalStateException") (by decide +kernel)) hS (fun q9 H1 hz hk hS => ?_)
  have hW9 := HrC.grow (x := x) ⟨hWro, hM, hM2, hWhi, hWto, hWtb, hWtn⟩ hk
  have hWou := hWou.kept (hk _ hWou.lt)
  refine lv_astore (lv' := [(4, .ref (q9)), (0, .ref (x)), (1, .int (y)), (2, .int (v)), (3, .ref (o))]) hx hb dL_write_21 hl (by decide) rfl (fun ls hl => ?_)
  refine lv_iconst (v := nI 3) hx hb dL_write_23 (by decide) ?_
  exact kx_iretN hx hb hrt hlk rfl ⟨hW9, hWou⟩ hS (Nat.le_of_ble_eq_true rfl) (Nat.le_of_ble_eq_true rfl) dL_write_24
set_option maxHeartbeats 2500000 in
set_option maxRecDepth 100000 in
theorem k_L_move (l : Launch) (D : va_G) (cs : Nat → ClassId) (x : Nat) (e : Nat → Int32) (g : Nat → Int64) (e1 : Nat → Int32) (g1 : Nat → Int64) (nx cn : Nat) (se : Nat → Nat → Int32) (sg : Nat → Nat → Int64) (b nn : Nat → Int32) (wd ln pa : Nat) (ft : Int32) (qf qa qt qb qn : Nat) (hI : Inv e) (hnx : nx < 4) (hcn : cn ≤ 4) (hw : wmv e (nI qf) (nI qa) (nI qt) (nI qb) (nI qn) = 0) (hM24 : Mn e < 24) (hf : qf < Rn e) (ht : qt < Rn e) (ha : qa ≤ 99) (hb9 : qb ≤ 99) (hn : qn ≤ 16) (o : Nat) (f : Nat → Int64) (ho : x + 360 ≤ o) (L : Nat) (hL : L ≤ x) (hfl : l.stackTraces = false) : Met l yL_move wsL_move ({ frames := 5, cells := 0, slots := 0, locals := 137 } : Room) (PcY D cs L [.ref (x), .int (nI (qf)), .int (nI (qa)), .int (nI (qt)), .int (nI (qb)), .int (nI (qn)), .ref (o)] (fun H => HrC D cs x e g e1 g1 nx cn se sg b nn wd ln pa ft H ∧ va_at D vwCl (o, .inl (cs 5, 1, .inr (.inl f))) H)) (QcM (some (.int (nI (0)))) (fun H => HrC D cs x ((pmF e (nI qf) (nI qa) (nI qt) (nI qb) (nI qn))) ((pmG e g qf qa qt qb qn)) e1 g1 (((nx + 1) % 4)) ((min (cn + 1) 4)) ((hsE se nx (cfF (se nx) e))) ((hsG sg nx (cgM (sg nx) g (Mn e)))) b nn wd ln pa ft H ∧ va_at D vwCl (o, .inl (cs 5, 1, .inr (.inl (vp_updL f 0 ((nI (Mn e)).toInt64))))) H) (fun y9 => (x ≤ y9 ∧ y9 < x + 360) ∨ y9 = o)) 0 0 (fun y9 => (x ≤ y9 ∧ y9 < x + 360) ∨ y9 = o) := by
  refine kx_metY (cc := cL_move) (maxL := 8) (ret := (some .int)) (by decide) rfl (Nat.le_of_ble_eq_true rfl) ?_
  intro p en s m args below meth c hx hb hml hrt hts hown hlk hK hN hX hY htb hP ls hl
  have hl : lv_has ls 8 [(0, .ref (x)), (1, .int (nI (qf))), (2, .int (nI (qa))), (3, .int (nI (qt))), (4, .int (nI (qb))), (5, .int (nI (qn))), (6, .ref (o))] := hl
  obtain ⟨H, hHe⟩ : ∃ H : Heap, H = s.heap := ⟨_, rfl⟩
  rw [← hHe] at hP ⊢
  have hS : va_S ((fun y9 => (x ≤ y9 ∧ y9 < x + 360) ∨ y9 = o)) s.heap H [] := by rw [← hHe]; exact va_S.rf
  obtain ⟨⟨hWro, hM, hM2, hWhi, hWto, hWtb, hWtn⟩, hWou⟩ := hP
  have h24 := hI.M24
  have h6 := hI.R6
  refine lv_aload hx hb dL_move_0 (lv_at hl 6 rfl) ?_
  refine lv_iconst (v := nI 0) hx hb dL_move_2 (by decide) ?_
  refine lv_aload_n hx hb dL_move_3 rfl (lv_at hl 0 rfl) ?_
  refine lv_iload_n hx hb dL_move_4 rfl (lv_at hl 1 rfl) ?_
  refine lv_iload_n hx hb dL_move_5 rfl (lv_at hl 2 rfl) ?_
  refine lv_iload_n hx hb dL_move_6 rfl (lv_at hl 3 rfl) ?_
  refine lv_iload hx hb dL_move_7 (lv_at hl 4 rfl) ?_
  refine lv_iload hx hb dL_move_9 (lv_at hl 5 rfl) ?_
  refine kx_retM (va_runV (As := [.int (nI (qf)), .int (nI (qa)), .int (nI (qt)), .int (nI (qb)), .int (nI (qn))]) (rest := [.int (nI (0)), .ref (o)]) ⟨hx, hb, hml, hown, hts⟩ (k_X7_move l D cs x e g e1 g1 nx cn se sg b nn wd ln pa ft qf qa qt qb qn hI hnx hcn hw hM24 hf ht ha hb9 hn) (cwV 5 hts gL_move_X7_move rfl rfl rfl (by decide +kernel) ⟨Nat.le_of_ble_eq_true rfl, Nat.le_of_ble_eq_true rfl⟩) (kx_preV hK hN hWro rfl ⟨hWro, hM, hM2, hWhi, hWto, hWtb, hWtn⟩) rfl rfl hl.1 rfl (lv_room (Nat.le_of_ble_eq_true rfl)) dL_move_11 ⟨Nat.le_of_ble_eq_true rfl, Nat.le_of_ble_eq_true rfl⟩) hS (fun x _ h => (Or.inl h)) (fun x h => (Or.inl h)) (fun H locs hMN hk hS => ?_)
  have hWou := hWou.kept (hk.2 _ hWou.lt (fun h => by have h3 := h.1; have h4 := h.2; omega))
  obtain ⟨hWro, hM, hM2, hWhi, hWto, hWtb, hWtn⟩ := hMN
  clear hk
  refine lv_i2l hx hb dL_move_14 rfl ?_
  refine kx_last (i := 0) hx hb hK hWou hS (Or.inr rfl) 5 rfl (by decide) (by decide) dL_move_15 (fun H locs hc hU hS => ?_)
  have hWhi := hWhi.off hU (by omega)
  have hWro := hWro.kept (hU.2 _ (by omega))
  have hM := hM.off hU (by omega)
  have hM2 := hM2.off hU (by omega)
  have hWtb := hWtb.kept (hU.2 _ (by omega))
  have hWtn := hWtn.kept (hU.2 _ (by omega))
  have hWto := hWto.kept (hU.2 _ (by omega))
  have hWou := hc
  clear hc hU
  refine lv_goto (tgt := 31) hx hb dL_move_16 (by decide) ?_
  refine lv_iconst (v := nI 0) hx hb dL_move_31 (by decide) ?_
  exact kx_iretM hx hb hrt hlk rfl ⟨⟨hWro, hM, hM2, hWhi, hWto, hWtb, hWtn⟩, hWou⟩ hS dL_move_32
set_option maxHeartbeats 2500000 in
set_option maxRecDepth 100000 in
theorem k_L_moveT1 (l : Launch) (D : va_G) (cs : Nat → ClassId) (x : Nat) (e : Nat → Int32) (g : Nat → Int64) (e1 : Nat → Int32) (g1 : Nat → Int64) (nx cn : Nat) (se : Nat → Nat → Int32) (sg : Nat → Nat → Int64) (b nn : Nat → Int32) (wd ln pa : Nat) (ft : Int32) (f9 fp t tp n0 : Int32) (hI : Inv e) (hw : wmv e f9 fp t tp n0 = 1) (o : Nat) (f : Nat → Int64) (ho : x + 360 ≤ o) (L : Nat) (hL : L ≤ x) (hfl : l.stackTraces = false) : Met l yL_move wsL_move ({ frames := 8, cells := 1, slots := 6, locals := 137 } : Room) (PcY D cs L [.ref (x), .int (f9), .int (fp), .int (t), .int (tp), .int (n0), .ref (o)] (fun H => HrC D cs x e g e1 g1 nx cn se sg b nn wd ln pa ft H ∧ va_at D vwCl (o, .inl (cs 5, 1, .inr (.inl f))) H)) (QcM (some (.int (nI (1)))) (fun H => HrC D cs x e g e1 g1 nx cn se sg b nn wd ln pa ft H ∧ va_at D vwCl (o, .inl (cs 5, 1, .inr (.inl f))) H) (fun y9 => (x ≤ y9 ∧ y9 < x + 360) ∨ y9 = o)) 1 6 (fun y9 => (x ≤ y9 ∧ y9 < x + 360) ∨ y9 = o) := by
  refine kx_metY (cc := cL_move) (maxL := 8) (ret := (some .int)) (by decide) rfl (Nat.le_of_ble_eq_true rfl) ?_
  intro p en s m args below meth c hx hb hml hrt hts hown hlk hK hN hX hY htb hP ls hl
  have hl : lv_has ls 8 [(0, .ref (x)), (1, .int (f9)), (2, .int (fp)), (3, .int (t)), (4, .int (tp)), (5, .int (n0)), (6, .ref (o))] := hl
  obtain ⟨H, hHe⟩ : ∃ H : Heap, H = s.heap := ⟨_, rfl⟩
  rw [← hHe] at hP ⊢
  have hS : va_S ((fun y9 => (x ≤ y9 ∧ y9 < x + 360) ∨ y9 = o)) s.heap H [] := by rw [← hHe]; exact va_S.rf
  obtain ⟨⟨hWro, hM, hM2, hWhi, hWto, hWtb, hWtn⟩, hWou⟩ := hP
  have hX0 : XK (fun y9 => L ≤ y9) s s.heap := hX
  have hX : XK (fun y9 => L ≤ y9) s H := by rw [hHe]; exact hX0
  have h24 := hI.M24
  have h6 := hI.R6
  refine lv_aload hx hb dL_move_0 (lv_at hl 6 rfl) ?_
  refine lv_iconst (v := nI 0) hx hb dL_move_2 (by decide) ?_
  refine lv_aload_n hx hb dL_move_3 rfl (lv_at hl 0 rfl) ?_
  refine lv_iload_n hx hb dL_move_4 rfl (lv_at hl 1 rfl) ?_
  refine lv_iload_n hx hb dL_move_5 rfl (lv_at hl 2 rfl) ?_
  refine lv_iload_n hx hb dL_move_6 rfl (lv_at hl 3 rfl) ?_
  refine lv_iload hx hb dL_move_7 (lv_at hl 4 rfl) ?_
  refine lv_iload hx hb dL_move_9 (lv_at hl 5 rfl) ?_
  refine kx_catch (own := RL) (L := L) (vx_runV (As := [.int (f9), .int (fp), .int (t), .int (tp), .int (n0)]) (rest := [.int (nI (0)), .ref (o)]) ⟨hx, hb, hml, hown, hts⟩ (k_X7_moveT1 l D cs x e g e1 g1 nx cn se sg b nn wd ln pa ft f9 fp t tp n0 hI hw L (by first | assumption | omega) (by first | assumption | omega)) (cwV 5 hts gL_move_X7_move rfl rfl rfl (by decide +kernel) ⟨Nat.le_of_ble_eq_true rfl, Nat.le_of_ble_eq_true rfl⟩) (kx_preXV hK hN hX hWro rfl ⟨hWro, hM, hM2, hWhi, hWto, hWtb, hWtn⟩) rfl rfl hl.1 rfl (lv_room (Nat.le_of_ble_eq_true rfl)) dL_move_11 ⟨Nat.le_of_ble_eq_true rfl, Nat.le_of_ble_eq_true rfl⟩) hown (hX0) (by decide) (tableOf []) ⟨0, 16, 19, 13⟩ (tableOf [(0, 16, 23, 15), (0, 16, 27, 17)]) htb (fun z hz => nomatch hz) (by decide) (by decide) (hts (.classLink RL 13 "java/lang/IndexOutOfBoundsException") (by decide +kernel)) hS (fun q9 H1 hz hk hS => ?_)
  have hW9 := HrC.grow (x := x) ⟨hWro, hM, hM2, hWhi, hWto, hWtb, hWtn⟩ hk
  have hWou := hWou.kept (hk _ hWou.lt)
  refine lv_astore (lv' := [(7, .ref (q9)), (0, .ref (x)), (1, .int (f9)), (2, .int (fp)), (3, .int (t)), (4, .int (tp)), (5, .int (n0)), (6, .ref (o))]) hx hb dL_move_19 hl (by decide) rfl (fun ls hl => ?_)
  refine lv_iconst (v := nI 1) hx hb dL_move_21 (by decide) ?_
  exact kx_iretN hx hb hrt hlk rfl ⟨hW9, hWou⟩ hS (Nat.le_of_ble_eq_true rfl) (Nat.le_of_ble_eq_true rfl) dL_move_22
set_option maxHeartbeats 2500000 in
set_option maxRecDepth 100000 in
theorem k_L_moveT2 (l : Launch) (D : va_G) (cs : Nat → ClassId) (x : Nat) (e : Nat → Int32) (g : Nat → Int64) (e1 : Nat → Int32) (g1 : Nat → Int64) (nx cn : Nat) (se : Nat → Nat → Int32) (sg : Nat → Nat → Int64) (b nn : Nat → Int32) (wd ln pa : Nat) (ft : Int32) (f9 fp t tp n0 : Int32) (hI : Inv e) (hw : wmv e f9 fp t tp n0 = 2) (o : Nat) (f : Nat → Int64) (ho : x + 360 ≤ o) (L : Nat) (hL : L ≤ x) (hfl : l.stackTraces = false) : Met l yL_move wsL_move ({ frames := 8, cells := 1, slots := 6, locals := 137 } : Room) (PcY D cs L [.ref (x), .int (f9), .int (fp), .int (t), .int (tp), .int (n0), .ref (o)] (fun H => HrC D cs x e g e1 g1 nx cn se sg b nn wd ln pa ft H ∧ va_at D vwCl (o, .inl (cs 5, 1, .inr (.inl f))) H)) (QcM (some (.int (nI (2)))) (fun H => HrC D cs x e g e1 g1 nx cn se sg b nn wd ln pa ft H ∧ va_at D vwCl (o, .inl (cs 5, 1, .inr (.inl f))) H) (fun y9 => (x ≤ y9 ∧ y9 < x + 360) ∨ y9 = o)) 1 6 (fun y9 => (x ≤ y9 ∧ y9 < x + 360) ∨ y9 = o) := by
  refine kx_metY (cc := cL_move) (maxL := 8) (ret := (some .int)) (by decide) rfl (Nat.le_of_ble_eq_true rfl) ?_
  intro p en s m args below meth c hx hb hml hrt hts hown hlk hK hN hX hY htb hP ls hl
  have hl : lv_has ls 8 [(0, .ref (x)), (1, .int (f9)), (2, .int (fp)), (3, .int (t)), (4, .int (tp)), (5, .int (n0)), (6, .ref (o))] := hl
  obtain ⟨H, hHe⟩ : ∃ H : Heap, H = s.heap := ⟨_, rfl⟩
  rw [← hHe] at hP ⊢
  have hS : va_S ((fun y9 => (x ≤ y9 ∧ y9 < x + 360) ∨ y9 = o)) s.heap H [] := by rw [← hHe]; exact va_S.rf
  obtain ⟨⟨hWro, hM, hM2, hWhi, hWto, hWtb, hWtn⟩, hWou⟩ := hP
  have hX0 : XK (fun y9 => L ≤ y9) s s.heap := hX
  have hX : XK (fun y9 => L ≤ y9) s H := by rw [hHe]; exact hX0
  have h24 := hI.M24
  have h6 := hI.R6
  refine lv_aload hx hb dL_move_0 (lv_at hl 6 rfl) ?_
  refine lv_iconst (v := nI 0) hx hb dL_move_2 (by decide) ?_
  refine lv_aload_n hx hb dL_move_3 rfl (lv_at hl 0 rfl) ?_
  refine lv_iload_n hx hb dL_move_4 rfl (lv_at hl 1 rfl) ?_
  refine lv_iload_n hx hb dL_move_5 rfl (lv_at hl 2 rfl) ?_
  refine lv_iload_n hx hb dL_move_6 rfl (lv_at hl 3 rfl) ?_
  refine lv_iload hx hb dL_move_7 (lv_at hl 4 rfl) ?_
  refine lv_iload hx hb dL_move_9 (lv_at hl 5 rfl) ?_
  refine kx_catch (own := RL) (L := L) (vx_runV (As := [.int (f9), .int (fp), .int (t), .int (tp), .int (n0)]) (rest := [.int (nI (0)), .ref (o)]) ⟨hx, hb, hml, hown, hts⟩ (k_X7_moveT2 l D cs x e g e1 g1 nx cn se sg b nn wd ln pa ft f9 fp t tp n0 hI hw L (by first | assumption | omega) (by first | assumption | omega)) (cwV 5 hts gL_move_X7_move rfl rfl rfl (by decide +kernel) ⟨Nat.le_of_ble_eq_true rfl, Nat.le_of_ble_eq_true rfl⟩) (kx_preXV hK hN hX hWro rfl ⟨hWro, hM, hM2, hWhi, hWto, hWtb, hWtn⟩) rfl rfl hl.1 rfl (lv_room (Nat.le_of_ble_eq_true rfl)) dL_move_11 ⟨Nat.le_of_ble_eq_true rfl, Nat.le_of_ble_eq_true rfl⟩) hown (hX0) (by decide) (tableOf [(0, 16, 19, 13)]) ⟨0, 16, 23, 15⟩ (tableOf [(0, 16, 27, 17)]) htb (fun z hz => by
    simp only [tableOf, List.map, List.mem_cons, List.not_mem_nil, or_false] at hz
    rcases hz with rfl
    · exact Or.inr ⟨by decide, "java/lang/IndexOutOfBoundsException", hts (.classLink RL 13 "java/lang/IndexOutOfBoundsException") (by decide +kernel), hY ("java/lang/IllegalArgumentException", "java/lang/IndexOutOfBoundsException") (by decide)⟩) (by decide) (by decide) (hts (.classLink RL 15 "java/lang/IllegalArgumentException") (by decide +kernel)) hS (fun q9 H1 hz hk hS => ?_)
  have hW9 := HrC.grow (x := x) ⟨hWro, hM, hM2, hWhi, hWto, hWtb, hWtn⟩ hk
  have hWou := hWou.kept (hk _ hWou.lt)
  refine lv_astore (lv' := [(7, .ref (q9)), (0, .ref (x)), (1, .int (f9)), (2, .int (fp)), (3, .int (t)), (4, .int (tp)), (5, .int (n0)), (6, .ref (o))]) hx hb dL_move_23 hl (by decide) rfl (fun ls hl => ?_)
  refine lv_iconst (v := nI 2) hx hb dL_move_25 (by decide) ?_
  exact kx_iretN hx hb hrt hlk rfl ⟨hW9, hWou⟩ hS (Nat.le_of_ble_eq_true rfl) (Nat.le_of_ble_eq_true rfl) dL_move_26
set_option maxHeartbeats 2500000 in
set_option maxRecDepth 100000 in
theorem k_L_moveT3 (l : Launch) (D : va_G) (cs : Nat → ClassId) (x : Nat) (e : Nat → Int32) (g : Nat → Int64) (e1 : Nat → Int32) (g1 : Nat → Int64) (nx cn : Nat) (se : Nat → Nat → Int32) (sg : Nat → Nat → Int64) (b nn : Nat → Int32) (wd ln pa : Nat) (ft : Int32) (f9 fp t tp n0 : Int32) (hI : Inv e) (hw : wmv e f9 fp t tp n0 = 3) (o : Nat) (f : Nat → Int64) (ho : x + 360 ≤ o) (L : Nat) (hL : L ≤ x) (hfl : l.stackTraces = false) : Met l yL_move wsL_move ({ frames := 8, cells := 1, slots := 6, locals := 137 } : Room) (PcY D cs L [.ref (x), .int (f9), .int (fp), .int (t), .int (tp), .int (n0), .ref (o)] (fun H => HrC D cs x e g e1 g1 nx cn se sg b nn wd ln pa ft H ∧ va_at D vwCl (o, .inl (cs 5, 1, .inr (.inl f))) H)) (QcM (some (.int (nI (3)))) (fun H => HrC D cs x e g e1 g1 nx cn se sg b nn wd ln pa ft H ∧ va_at D vwCl (o, .inl (cs 5, 1, .inr (.inl f))) H) (fun y9 => (x ≤ y9 ∧ y9 < x + 360) ∨ y9 = o)) 1 6 (fun y9 => (x ≤ y9 ∧ y9 < x + 360) ∨ y9 = o) := by
  refine kx_metY (cc := cL_move) (maxL := 8) (ret := (some .int)) (by decide) rfl (Nat.le_of_ble_eq_true rfl) ?_
  intro p en s m args below meth c hx hb hml hrt hts hown hlk hK hN hX hY htb hP ls hl
  have hl : lv_has ls 8 [(0, .ref (x)), (1, .int (f9)), (2, .int (fp)), (3, .int (t)), (4, .int (tp)), (5, .int (n0)), (6, .ref (o))] := hl
  obtain ⟨H, hHe⟩ : ∃ H : Heap, H = s.heap := ⟨_, rfl⟩
  rw [← hHe] at hP ⊢
  have hS : va_S ((fun y9 => (x ≤ y9 ∧ y9 < x + 360) ∨ y9 = o)) s.heap H [] := by rw [← hHe]; exact va_S.rf
  obtain ⟨⟨hWro, hM, hM2, hWhi, hWto, hWtb, hWtn⟩, hWou⟩ := hP
  have hX0 : XK (fun y9 => L ≤ y9) s s.heap := hX
  have hX : XK (fun y9 => L ≤ y9) s H := by rw [hHe]; exact hX0
  have h24 := hI.M24
  have h6 := hI.R6
  refine lv_aload hx hb dL_move_0 (lv_at hl 6 rfl) ?_
  refine lv_iconst (v := nI 0) hx hb dL_move_2 (by decide) ?_
  refine lv_aload_n hx hb dL_move_3 rfl (lv_at hl 0 rfl) ?_
  refine lv_iload_n hx hb dL_move_4 rfl (lv_at hl 1 rfl) ?_
  refine lv_iload_n hx hb dL_move_5 rfl (lv_at hl 2 rfl) ?_
  refine lv_iload_n hx hb dL_move_6 rfl (lv_at hl 3 rfl) ?_
  refine lv_iload hx hb dL_move_7 (lv_at hl 4 rfl) ?_
  refine lv_iload hx hb dL_move_9 (lv_at hl 5 rfl) ?_
  refine kx_catch (own := RL) (L := L) (vx_runV (As := [.int (f9), .int (fp), .int (t), .int (tp), .int (n0)]) (rest := [.int (nI (0)), .ref (o)]) ⟨hx, hb, hml, hown, hts⟩ (k_X7_moveT3 l D cs x e g e1 g1 nx cn se sg b nn wd ln pa ft f9 fp t tp n0 hI hw L (by first | assumption | omega) (by first | assumption | omega)) (cwV 5 hts gL_move_X7_move rfl rfl rfl (by decide +kernel) ⟨Nat.le_of_ble_eq_true rfl, Nat.le_of_ble_eq_true rfl⟩) (kx_preXV hK hN hX hWro rfl ⟨hWro, hM, hM2, hWhi, hWto, hWtb, hWtn⟩) rfl rfl hl.1 rfl (lv_room (Nat.le_of_ble_eq_true rfl)) dL_move_11 ⟨Nat.le_of_ble_eq_true rfl, Nat.le_of_ble_eq_true rfl⟩) hown (hX0) (by decide) (tableOf [(0, 16, 19, 13), (0, 16, 23, 15)]) ⟨0, 16, 27, 17⟩ (tableOf []) htb (fun z hz => by
    simp only [tableOf, List.map, List.mem_cons, List.not_mem_nil, or_false] at hz
    rcases hz with rfl | rfl
    · exact Or.inr ⟨by decide, "java/lang/IndexOutOfBoundsException", hts (.classLink RL 13 "java/lang/IndexOutOfBoundsException") (by decide +kernel), hY ("java/lang/IllegalStateException", "java/lang/IndexOutOfBoundsException") (by decide)⟩
    · exact Or.inr ⟨by decide, "java/lang/IllegalArgumentException", hts (.classLink RL 15 "java/lang/IllegalArgumentException") (by decide +kernel), hY ("java/lang/IllegalStateException", "java/lang/IllegalArgumentException") (by decide)⟩) (by decide) (by decide) (hts (.classLink RL 17 "java/lang/IllegalStateException") (by decide +kernel)) hS (fun q9 H1 hz hk hS => ?_)
  have hW9 := HrC.grow (x := x) ⟨hWro, hM, hM2, hWhi, hWto, hWtb, hWtn⟩ hk
  have hWou := hWou.kept (hk _ hWou.lt)
  refine lv_astore (lv' := [(7, .ref (q9)), (0, .ref (x)), (1, .int (f9)), (2, .int (fp)), (3, .int (t)), (4, .int (tp)), (5, .int (n0)), (6, .ref (o))]) hx hb dL_move_27 hl (by decide) rfl (fun ls hl => ?_)
  refine lv_iconst (v := nI 3) hx hb dL_move_29 (by decide) ?_
  exact kx_iretN hx hb hrt hlk rfl ⟨hW9, hWou⟩ hS (Nat.le_of_ble_eq_true rfl) (Nat.le_of_ble_eq_true rfl) dL_move_30
set_option maxHeartbeats 2500000 in
set_option maxRecDepth 100000 in
theorem k_L_sign (l : Launch) (D : va_G) (cs : Nat → ClassId) (x : Nat) (e : Nat → Int32) (g : Nat → Int64) (e1 : Nat → Int32) (g1 : Nat → Int64) (nx cn : Nat) (se : Nat → Nat → Int32) (sg : Nat → Nat → Int64) (b nn : Nat → Int32) (wd ln pa : Nat) (ft : Int32) (r : Nat) (hI : Inv e) (hnx : nx < 4) (hcn : cn ≤ 4) (hw : wsg e (nI r) = 0) (hr : r < Rn e) (hf : fcN e r < Mn e) (o : Nat) (f : Nat → Int64) (ho : x + 360 ≤ o) (L : Nat) (hL : L ≤ x) (hfl : l.stackTraces = false) : Met l yL_sign wsL_sign ({ frames := 5, cells := 0, slots := 0, locals := 133 } : Room) (PcY D cs L [.ref (x), .int (nI (r)), .ref (o)] (fun H => HrC D cs x e g e1 g1 nx cn se sg b nn wd ln pa ft H ∧ va_at D vwCl (o, .inl (cs 5, 1, .inr (.inl f))) H)) (QcM (some (.int (nI (0)))) (fun H => HrC D cs x ((signF e (fcN e r))) g e1 g1 (((nx + 1) % 4)) ((min (cn + 1) 4)) ((hsE se nx (cfF (se nx) e))) ((hsG sg nx (cgM (sg nx) g (Mn e)))) b nn wd ln pa ft H ∧ va_at D vwCl (o, .inl (cs 5, 1, .inr (.inl (vp_updL f 0 ((nI (fcN e r)).toInt64))))) H) (fun y9 => (x ≤ y9 ∧ y9 < x + 360) ∨ y9 = o)) 0 0 (fun y9 => (x ≤ y9 ∧ y9 < x + 360) ∨ y9 = o) := by
  refine kx_metY (cc := cL_sign) (maxL := 4) (ret := (some .int)) (by decide) rfl (Nat.le_of_ble_eq_true rfl) ?_
  intro p en s m args below meth c hx hb hml hrt hts hown hlk hK hN hX hY htb hP ls hl
  have hl : lv_has ls 4 [(0, .ref (x)), (1, .int (nI (r))), (2, .ref (o))] := hl
  obtain ⟨H, hHe⟩ : ∃ H : Heap, H = s.heap := ⟨_, rfl⟩
  rw [← hHe] at hP ⊢
  have hS : va_S ((fun y9 => (x ≤ y9 ∧ y9 < x + 360) ∨ y9 = o)) s.heap H [] := by rw [← hHe]; exact va_S.rf
  obtain ⟨⟨hWro, hM, hM2, hWhi, hWto, hWtb, hWtn⟩, hWou⟩ := hP
  have h24 := hI.M24
  have h6 := hI.R6
  refine lv_aload_n hx hb dL_sign_0 rfl (lv_at hl 2 rfl) ?_
  refine lv_iconst (v := nI 0) hx hb dL_sign_1 (by decide) ?_
  refine lv_aload_n hx hb dL_sign_2 rfl (lv_at hl 0 rfl) ?_
  refine lv_iload_n hx hb dL_sign_3 rfl (lv_at hl 1 rfl) ?_
  refine kx_retM (va_runV (As := [.int (nI (r))]) (rest := [.int (nI (0)), .ref (o)]) ⟨hx, hb, hml, hown, hts⟩ (k_X7_sign l D cs x e g e1 g1 nx cn se sg b nn wd ln pa ft r hI hnx hcn hw hr hf) (cwV 1 hts gL_sign_X7_sign rfl rfl rfl (by decide +kernel) ⟨Nat.le_of_ble_eq_true rfl, Nat.le_of_ble_eq_true rfl⟩) (kx_preV hK hN hWro rfl ⟨hWro, hM, hM2, hWhi, hWto, hWtb, hWtn⟩) rfl rfl hl.1 rfl (lv_room (Nat.le_of_ble_eq_true rfl)) dL_sign_4 ⟨Nat.le_of_ble_eq_true rfl, Nat.le_of_ble_eq_true rfl⟩) hS (fun x _ h => (Or.inl h)) (fun x h => (Or.inl h)) (fun H locs hMN hk hS => ?_)
  have hWou := hWou.kept (hk.2 _ hWou.lt (fun h => by have h3 := h.1; have h4 := h.2; omega))
  obtain ⟨hWro, hM, hM2, hWhi, hWto, hWtb, hWtn⟩ := hMN
  clear hk
  refine lv_i2l hx hb dL_sign_7 rfl ?_
  refine kx_last (i := 0) hx hb hK hWou hS (Or.inr rfl) 5 rfl (by decide) (by decide) dL_sign_8 (fun H locs hc hU hS => ?_)
  have hWhi := hWhi.off hU (by omega)
  have hWro := hWro.kept (hU.2 _ (by omega))
  have hM := hM.off hU (by omega)
  have hM2 := hM2.off hU (by omega)
  have hWtb := hWtb.kept (hU.2 _ (by omega))
  have hWtn := hWtn.kept (hU.2 _ (by omega))
  have hWto := hWto.kept (hU.2 _ (by omega))
  have hWou := hc
  clear hc hU
  refine lv_goto (tgt := 18) hx hb dL_sign_9 (by decide) ?_
  refine lv_iconst (v := nI 0) hx hb dL_sign_18 (by decide) ?_
  exact kx_iretM hx hb hrt hlk rfl ⟨⟨hWro, hM, hM2, hWhi, hWto, hWtb, hWtn⟩, hWou⟩ hS dL_sign_19
set_option maxHeartbeats 2500000 in
set_option maxRecDepth 100000 in
theorem k_L_signT1 (l : Launch) (D : va_G) (cs : Nat → ClassId) (x : Nat) (e : Nat → Int32) (g : Nat → Int64) (e1 : Nat → Int32) (g1 : Nat → Int64) (nx cn : Nat) (se : Nat → Nat → Int32) (sg : Nat → Nat → Int64) (b nn : Nat → Int32) (wd ln pa : Nat) (ft : Int32) (r : Int32) (hI : Inv e) (hw : c23 (wsg e r) = 1) (o : Nat) (f : Nat → Int64) (ho : x + 360 ≤ o) (L : Nat) (hL : L ≤ x) (hfl : l.stackTraces = false) : Met l yL_sign wsL_sign ({ frames := 8, cells := 1, slots := 6, locals := 133 } : Room) (PcY D cs L [.ref (x), .int (r), .ref (o)] (fun H => HrC D cs x e g e1 g1 nx cn se sg b nn wd ln pa ft H ∧ va_at D vwCl (o, .inl (cs 5, 1, .inr (.inl f))) H)) (QcM (some (.int (nI (1)))) (fun H => HrC D cs x e g e1 g1 nx cn se sg b nn wd ln pa ft H ∧ va_at D vwCl (o, .inl (cs 5, 1, .inr (.inl f))) H) (fun y9 => (x ≤ y9 ∧ y9 < x + 360) ∨ y9 = o)) 1 6 (fun y9 => (x ≤ y9 ∧ y9 < x + 360) ∨ y9 = o) := by
  refine kx_metY (cc := cL_sign) (maxL := 4) (ret := (some .int)) (by decide) rfl (Nat.le_of_ble_eq_true rfl) ?_
  intro p en s m args below meth c hx hb hml hrt hts hown hlk hK hN hX hY htb hP ls hl
  have hl : lv_has ls 4 [(0, .ref (x)), (1, .int (r)), (2, .ref (o))] := hl
  obtain ⟨H, hHe⟩ : ∃ H : Heap, H = s.heap := ⟨_, rfl⟩
  rw [← hHe] at hP ⊢
  have hS : va_S ((fun y9 => (x ≤ y9 ∧ y9 < x + 360) ∨ y9 = o)) s.heap H [] := by rw [← hHe]; exact va_S.rf
  obtain ⟨⟨hWro, hM, hM2, hWhi, hWto, hWtb, hWtn⟩, hWou⟩ := hP
  have hX0 : XK (fun y9 => L ≤ y9) s s.heap := hX
  have hX : XK (fun y9 => L ≤ y9) s H := by rw [hHe]; exact hX0
  have h24 := hI.M24
  have h6 := hI.R6
  refine lv_aload_n hx hb dL_sign_0 rfl (lv_at hl 2 rfl) ?_
  refine lv_iconst (v := nI 0) hx hb dL_sign_1 (by decide) ?_
  refine lv_aload_n hx hb dL_sign_2 rfl (lv_at hl 0 rfl) ?_
  refine lv_iload_n hx hb dL_sign_3 rfl (lv_at hl 1 rfl) ?_
  refine kx_catch (own := RL) (L := L) (vx_runV (As := [.int (r)]) (rest := [.int (nI (0)), .ref (o)]) ⟨hx, hb, hml, hown, hts⟩ (k_X7_signT1 l D cs x e g e1 g1 nx cn se sg b nn wd ln pa ft r hI hw L (by first | assumption | omega) (by first | assumption | omega)) (cwV 1 hts gL_sign_X7_sign rfl rfl rfl (by decide +kernel) ⟨Nat.le_of_ble_eq_true rfl, Nat.le_of_ble_eq_true rfl⟩) (kx_preXV hK hN hX hWro rfl ⟨hWro, hM, hM2, hWhi, hWto, hWtb, hWtn⟩) rfl rfl hl.1 rfl (lv_room (Nat.le_of_ble_eq_true rfl)) dL_sign_4 ⟨Nat.le_of_ble_eq_true rfl, Nat.le_of_ble_eq_true rfl⟩) hown (hX0) (by decide) (tableOf []) ⟨0, 9, 12, 13⟩ (tableOf [(0, 9, 15, 17)]) htb (fun z hz => nomatch hz) (by decide) (by decide) (hts (.classLink RL 13 "java/lang/IndexOutOfBoundsException") (by decide +kernel)) hS (fun q9 H1 hz hk hS => ?_)
  have hW9 := HrC.grow (x := x) ⟨hWro, hM, hM2, hWhi, hWto, hWtb, hWtn⟩ hk
  have hWou := hWou.kept (hk _ hWou.lt)
  refine lv_astore_n (lv' := [(3, .ref (q9)), (0, .ref (x)), (1, .int (r)), (2, .ref (o))]) hx hb dL_sign_12 rfl hl (by decide) rfl (fun ls hl => ?_)
  refine lv_iconst (v := nI 1) hx hb dL_sign_13 (by decide) ?_
  exact kx_iretN hx hb hrt hlk rfl ⟨hW9, hWou⟩ hS (Nat.le_of_ble_eq_true rfl) (Nat.le_of_ble_eq_true rfl) dL_sign_14
set_option maxHeartbeats 2500000 in
set_option maxRecDepth 100000 in
theorem k_L_signT3 (l : Launch) (D : va_G) (cs : Nat → ClassId) (x : Nat) (e : Nat → Int32) (g : Nat → Int64) (e1 : Nat → Int32) (g1 : Nat → Int64) (nx cn : Nat) (se : Nat → Nat → Int32) (sg : Nat → Nat → Int64) (b nn : Nat → Int32) (wd ln pa : Nat) (ft : Int32) (r : Int32) (hI : Inv e) (hw : c23 (wsg e r) = 3) (o : Nat) (f : Nat → Int64) (ho : x + 360 ≤ o) (L : Nat) (hL : L ≤ x) (hfl : l.stackTraces = false) : Met l yL_sign wsL_sign ({ frames := 8, cells := 1, slots := 6, locals := 133 } : Room) (PcY D cs L [.ref (x), .int (r), .ref (o)] (fun H => HrC D cs x e g e1 g1 nx cn se sg b nn wd ln pa ft H ∧ va_at D vwCl (o, .inl (cs 5, 1, .inr (.inl f))) H)) (QcM (some (.int (nI (2)))) (fun H => HrC D cs x e g e1 g1 nx cn se sg b nn wd ln pa ft H ∧ va_at D vwCl (o, .inl (cs 5, 1, .inr (.inl f))) H) (fun y9 => (x ≤ y9 ∧ y9 < x + 360) ∨ y9 = o)) 1 6 (fun y9 => (x ≤ y9 ∧ y9 < x + 360) ∨ y9 = o) := by
  refine kx_metY (cc := cL_sign) (maxL := 4) (ret := (some .int)) (by decide) rfl (Nat.le_of_ble_eq_true rfl) ?_
  intro p en s m args below meth c hx hb hml hrt hts hown hlk hK hN hX hY htb hP ls hl
  have hl : lv_has ls 4 [(0, .ref (x)), (1, .int (r)), (2, .ref (o))] := hl
  obtain ⟨H, hHe⟩ : ∃ H : Heap, H = s.heap := ⟨_, rfl⟩
  rw [← hHe] at hP ⊢
  have hS : va_S ((fun y9 => (x ≤ y9 ∧ y9 < x + 360) ∨ y9 = o)) s.heap H [] := by rw [← hHe]; exact va_S.rf
  obtain ⟨⟨hWro, hM, hM2, hWhi, hWto, hWtb, hWtn⟩, hWou⟩ := hP
  have hX0 : XK (fun y9 => L ≤ y9) s s.heap := hX
  have hX : XK (fun y9 => L ≤ y9) s H := by rw [hHe]; exact hX0
  have h24 := hI.M24
  have h6 := hI.R6
  refine lv_aload_n hx hb dL_sign_0 rfl (lv_at hl 2 rfl) ?_
  refine lv_iconst (v := nI 0) hx hb dL_sign_1 (by decide) ?_
  refine lv_aload_n hx hb dL_sign_2 rfl (lv_at hl 0 rfl) ?_
  refine lv_iload_n hx hb dL_sign_3 rfl (lv_at hl 1 rfl) ?_
  refine kx_catch (own := RL) (L := L) (vx_runV (As := [.int (r)]) (rest := [.int (nI (0)), .ref (o)]) ⟨hx, hb, hml, hown, hts⟩ (k_X7_signT3 l D cs x e g e1 g1 nx cn se sg b nn wd ln pa ft r hI hw L (by first | assumption | omega) (by first | assumption | omega)) (cwV 1 hts gL_sign_X7_sign rfl rfl rfl (by decide +kernel) ⟨Nat.le_of_ble_eq_true rfl, Nat.le_of_ble_eq_true rfl⟩) (kx_preXV hK hN hX hWro rfl ⟨hWro, hM, hM2, hWhi, hWto, hWtb, hWtn⟩) rfl rfl hl.1 rfl (lv_room (Nat.le_of_ble_eq_true rfl)) dL_sign_4 ⟨Nat.le_of_ble_eq_true rfl, Nat.le_of_ble_eq_true rfl⟩) hown (hX0) (by decide) (tableOf [(0, 9, 12, 13)]) ⟨0, 9, 15, 17⟩ (tableOf []) htb (fun z hz => by
    simp only [tableOf, List.map, List.mem_cons, List.not_mem_nil, or_false] at hz
    rcases hz with rfl
    · exact Or.inr ⟨by decide, "java/lang/IndexOutOfBoundsException", hts (.classLink RL 13 "java/lang/IndexOutOfBoundsException") (by decide +kernel), hY ("java/lang/IllegalStateException", "java/lang/IndexOutOfBoundsException") (by decide)⟩) (by decide) (by decide) (hts (.classLink RL 17 "java/lang/IllegalStateException") (by decide +kernel)) hS (fun q9 H1 hz hk hS => ?_)
  have hW9 := HrC.grow (x := x) ⟨hWro, hM, hM2, hWhi, hWto, hWtb, hWtn⟩ hk
  have hWou := hWou.kept (hk _ hWou.lt)
  refine lv_astore_n (lv' := [(3, .ref (q9)), (0, .ref (x)), (1, .int (r)), (2, .ref (o))]) hx hb dL_sign_15 rfl hl (by decide) rfl (fun ls hl => ?_)
  refine lv_iconst (v := nI 2) hx hb dL_sign_16 (by decide) ?_
  exact kx_iretN hx hb hrt hlk rfl ⟨hW9, hWou⟩ hS (Nat.le_of_ble_eq_true rfl) (Nat.le_of_ble_eq_true rfl) dL_sign_17
set_option maxHeartbeats 2500000 in
set_option maxRecDepth 100000 in
theorem k_L_strike (l : Launch) (D : va_G) (cs : Nat → ClassId) (x : Nat) (e : Nat → Int32) (g : Nat → Int64) (e1 : Nat → Int32) (g1 : Nat → Int64) (nx cn : Nat) (se : Nat → Nat → Int32) (sg : Nat → Nat → Int64) (b nn : Nat → Int32) (wd ln pa : Nat) (ft : Int32) (r : Nat) (y : Bool) (hI : Inv e) (hnx : nx < 4) (hcn : cn ≤ 4) (hw : wst e (nI r) (bI y) = 0) (hr : r < Rn e) (o : Nat) (f : Nat → Int64) (ho : x + 360 ≤ o) (L : Nat) (hL : L ≤ x) (hfl : l.stackTraces = false) : Met l yL_strike wsL_strike ({ frames := 5, cells := 0, slots := 0, locals := 134 } : Room) (PcY D cs L [.ref (x), .int (nI (r)), .int (bI (y)), .ref (o)] (fun H => HrC D cs x e g e1 g1 nx cn se sg b nn wd ln pa ft H ∧ va_at D vwCl (o, .inl (cs 5, 1, .inr (.inl f))) H)) (QcM (some (.int (nI (0)))) (fun H => HrC D cs x ((upd e (56 + 4 * r + 3) (bI y))) g e1 g1 (((nx + 1) % 4)) ((min (cn + 1) 4)) ((hsE se nx (cfF (se nx) e))) ((hsG sg nx (cgM (sg nx) g (Mn e)))) b nn wd ln pa ft H ∧ va_at D vwCl (o, .inl (cs 5, 1, .inr (.inl (vp_updL f 0 ((nI (cpN e r)).toInt64))))) H) (fun y9 => (x ≤ y9 ∧ y9 < x + 360) ∨ y9 = o)) 0 0 (fun y9 => (x ≤ y9 ∧ y9 < x + 360) ∨ y9 = o) := by
  refine kx_metY (cc := cL_strike) (maxL := 5) (ret := (some .int)) (by decide) rfl (Nat.le_of_ble_eq_true rfl) ?_
  intro p en s m args below meth c hx hb hml hrt hts hown hlk hK hN hX hY htb hP ls hl
  have hl : lv_has ls 5 [(0, .ref (x)), (1, .int (nI (r))), (2, .int (bI (y))), (3, .ref (o))] := hl
  obtain ⟨H, hHe⟩ : ∃ H : Heap, H = s.heap := ⟨_, rfl⟩
  rw [← hHe] at hP ⊢
  have hS : va_S ((fun y9 => (x ≤ y9 ∧ y9 < x + 360) ∨ y9 = o)) s.heap H [] := by rw [← hHe]; exact va_S.rf
  obtain ⟨⟨hWro, hM, hM2, hWhi, hWto, hWtb, hWtn⟩, hWou⟩ := hP
  have h24 := hI.M24
  have h6 := hI.R6
  refine lv_aload_n hx hb dL_strike_0 rfl (lv_at hl 3 rfl) ?_
  refine lv_iconst (v := nI 0) hx hb dL_strike_1 (by decide) ?_
  refine lv_aload_n hx hb dL_strike_2 rfl (lv_at hl 0 rfl) ?_
  refine lv_iload_n hx hb dL_strike_3 rfl (lv_at hl 1 rfl) ?_
  refine lv_iload_n hx hb dL_strike_4 rfl (lv_at hl 2 rfl) ?_
  refine kx_retM (va_runV (As := [.int (nI (r)), .int (bI (y))]) (rest := [.int (nI (0)), .ref (o)]) ⟨hx, hb, hml, hown, hts⟩ (k_X7_strike l D cs x e g e1 g1 nx cn se sg b nn wd ln pa ft r y hI hnx hcn hw hr) (cwV 2 hts gL_strike_X7_strike rfl rfl rfl (by decide +kernel) ⟨Nat.le_of_ble_eq_true rfl, Nat.le_of_ble_eq_true rfl⟩) (kx_preV hK hN hWro rfl ⟨hWro, hM, hM2, hWhi, hWto, hWtb, hWtn⟩) rfl rfl hl.1 rfl (lv_room (Nat.le_of_ble_eq_true rfl)) dL_strike_5 ⟨Nat.le_of_ble_eq_true rfl, Nat.le_of_ble_eq_true rfl⟩) hS (fun x _ h => (Or.inl h)) (fun x h => (Or.inl h)) (fun H locs hMN hk hS => ?_)
  have hWou := hWou.kept (hk.2 _ hWou.lt (fun h => by have h3 := h.1; have h4 := h.2; omega))
  obtain ⟨hWro, hM, hM2, hWhi, hWto, hWtb, hWtn⟩ := hMN
  clear hk
  refine lv_i2l hx hb dL_strike_8 rfl ?_
  refine kx_last (i := 0) hx hb hK hWou hS (Or.inr rfl) 5 rfl (by decide) (by decide) dL_strike_9 (fun H locs hc hU hS => ?_)
  have hWhi := hWhi.off hU (by omega)
  have hWro := hWro.kept (hU.2 _ (by omega))
  have hM := hM.off hU (by omega)
  have hM2 := hM2.off hU (by omega)
  have hWtb := hWtb.kept (hU.2 _ (by omega))
  have hWtn := hWtn.kept (hU.2 _ (by omega))
  have hWto := hWto.kept (hU.2 _ (by omega))
  have hWou := hc
  clear hc hU
  refine lv_goto (tgt := 21) hx hb dL_strike_10 (by decide) ?_
  refine lv_iconst (v := nI 0) hx hb dL_strike_21 (by decide) ?_
  exact kx_iretM hx hb hrt hlk rfl ⟨⟨hWro, hM, hM2, hWhi, hWto, hWtb, hWtn⟩, hWou⟩ hS dL_strike_22
set_option maxHeartbeats 2500000 in
set_option maxRecDepth 100000 in
theorem k_L_strikeT1 (l : Launch) (D : va_G) (cs : Nat → ClassId) (x : Nat) (e : Nat → Int32) (g : Nat → Int64) (e1 : Nat → Int32) (g1 : Nat → Int64) (nx cn : Nat) (se : Nat → Nat → Int32) (sg : Nat → Nat → Int64) (b nn : Nat → Int32) (wd ln pa : Nat) (ft : Int32) (r : Int32) (y : Bool) (hI : Inv e) (hw : c23 (wst e r (bI y)) = 1) (o : Nat) (f : Nat → Int64) (ho : x + 360 ≤ o) (L : Nat) (hL : L ≤ x) (hfl : l.stackTraces = false) : Met l yL_strike wsL_strike ({ frames := 8, cells := 1, slots := 6, locals := 134 } : Room) (PcY D cs L [.ref (x), .int (r), .int (bI (y)), .ref (o)] (fun H => HrC D cs x e g e1 g1 nx cn se sg b nn wd ln pa ft H ∧ va_at D vwCl (o, .inl (cs 5, 1, .inr (.inl f))) H)) (QcM (some (.int (nI (1)))) (fun H => HrC D cs x e g e1 g1 nx cn se sg b nn wd ln pa ft H ∧ va_at D vwCl (o, .inl (cs 5, 1, .inr (.inl f))) H) (fun y9 => (x ≤ y9 ∧ y9 < x + 360) ∨ y9 = o)) 1 6 (fun y9 => (x ≤ y9 ∧ y9 < x + 360) ∨ y9 = o) := by
  refine kx_metY (cc := cL_strike) (maxL := 5) (ret := (some .int)) (by decide) rfl (Nat.le_of_ble_eq_true rfl) ?_
  intro p en s m args below meth c hx hb hml hrt hts hown hlk hK hN hX hY htb hP ls hl
  have hl : lv_has ls 5 [(0, .ref (x)), (1, .int (r)), (2, .int (bI (y))), (3, .ref (o))] := hl
  obtain ⟨H, hHe⟩ : ∃ H : Heap, H = s.heap := ⟨_, rfl⟩
  rw [← hHe] at hP ⊢
  have hS : va_S ((fun y9 => (x ≤ y9 ∧ y9 < x + 360) ∨ y9 = o)) s.heap H [] := by rw [← hHe]; exact va_S.rf
  obtain ⟨⟨hWro, hM, hM2, hWhi, hWto, hWtb, hWtn⟩, hWou⟩ := hP
  have hX0 : XK (fun y9 => L ≤ y9) s s.heap := hX
  have hX : XK (fun y9 => L ≤ y9) s H := by rw [hHe]; exact hX0
  have h24 := hI.M24
  have h6 := hI.R6
  refine lv_aload_n hx hb dL_strike_0 rfl (lv_at hl 3 rfl) ?_
  refine lv_iconst (v := nI 0) hx hb dL_strike_1 (by decide) ?_
  refine lv_aload_n hx hb dL_strike_2 rfl (lv_at hl 0 rfl) ?_
  refine lv_iload_n hx hb dL_strike_3 rfl (lv_at hl 1 rfl) ?_
  refine lv_iload_n hx hb dL_strike_4 rfl (lv_at hl 2 rfl) ?_
  refine kx_catch (own := RL) (L := L) (vx_runV (As := [.int (r), .int (bI (y))]) (rest := [.int (nI (0)), .ref (o)]) ⟨hx, hb, hml, hown, hts⟩ (k_X7_strikeT1 l D cs x e g e1 g1 nx cn se sg b nn wd ln pa ft r y hI hw L (by first | assumption | omega) (by first | assumption | omega)) (cwV 2 hts gL_strike_X7_strike rfl rfl rfl (by decide +kernel) ⟨Nat.le_of_ble_eq_true rfl, Nat.le_of_ble_eq_true rfl⟩) (kx_preXV hK hN hX hWro rfl ⟨hWro, hM, hM2, hWhi, hWto, hWtb, hWtn⟩) rfl rfl hl.1 rfl (lv_room (Nat.le_of_ble_eq_true rfl)) dL_strike_5 ⟨Nat.le_of_ble_eq_true rfl, Nat.le_of_ble_eq_true rfl⟩) hown (hX0) (by decide) (tableOf []) ⟨0, 10, 13, 13⟩ (tableOf [(0, 10, 17, 17)]) htb (fun z hz => nomatch hz) (by decide) (by decide) (hts (.classLink RL 13 "java/lang/IndexOutOfBoundsException") (by decide +kernel)) hS (fun q9 H1 hz hk hS => ?_)
  have hW9 := HrC.grow (x := x) ⟨hWro, hM, hM2, hWhi, hWto, hWtb, hWtn⟩ hk
  have hWou := hWou.kept (hk _ hWou.lt)
  refine lv_astore (lv' := [(4, .ref (q9)), (0, .ref (x)), (1, .int (r)), (2, .int (bI (y))), (3, .ref (o))]) hx hb dL_strike_13 hl (by decide) rfl (fun ls hl => ?_)
  refine lv_iconst (v := nI 1) hx hb dL_strike_15 (by decide) ?_
  exact kx_iretN hx hb hrt hlk rfl ⟨hW9, hWou⟩ hS (Nat.le_of_ble_eq_true rfl) (Nat.le_of_ble_eq_true rfl) dL_strike_16
set_option maxHeartbeats 2500000 in
set_option maxRecDepth 100000 in
theorem k_L_strikeT3 (l : Launch) (D : va_G) (cs : Nat → ClassId) (x : Nat) (e : Nat → Int32) (g : Nat → Int64) (e1 : Nat → Int32) (g1 : Nat → Int64) (nx cn : Nat) (se : Nat → Nat → Int32) (sg : Nat → Nat → Int64) (b nn : Nat → Int32) (wd ln pa : Nat) (ft : Int32) (r : Int32) (y : Bool) (hI : Inv e) (hw : c23 (wst e r (bI y)) = 3) (o : Nat) (f : Nat → Int64) (ho : x + 360 ≤ o) (L : Nat) (hL : L ≤ x) (hfl : l.stackTraces = false) : Met l yL_strike wsL_strike ({ frames := 8, cells := 1, slots := 6, locals := 134 } : Room) (PcY D cs L [.ref (x), .int (r), .int (bI (y)), .ref (o)] (fun H => HrC D cs x e g e1 g1 nx cn se sg b nn wd ln pa ft H ∧ va_at D vwCl (o, .inl (cs 5, 1, .inr (.inl f))) H)) (QcM (some (.int (nI (2)))) (fun H => HrC D cs x e g e1 g1 nx cn se sg b nn wd ln pa ft H ∧ va_at D vwCl (o, .inl (cs 5, 1, .inr (.inl f))) H) (fun y9 => (x ≤ y9 ∧ y9 < x + 360) ∨ y9 = o)) 1 6 (fun y9 => (x ≤ y9 ∧ y9 < x + 360) ∨ y9 = o) := by
  refine kx_metY (cc := cL_strike) (maxL := 5) (ret := (some .int)) (by decide) rfl (Nat.le_of_ble_eq_true rfl) ?_
  intro p en s m args below meth c hx hb hml hrt hts hown hlk hK hN hX hY htb hP ls hl
  have hl : lv_has ls 5 [(0, .ref (x)), (1, .int (r)), (2, .int (bI (y))), (3, .ref (o))] := hl
  obtain ⟨H, hHe⟩ : ∃ H : Heap, H = s.heap := ⟨_, rfl⟩
  rw [← hHe] at hP ⊢
  have hS : va_S ((fun y9 => (x ≤ y9 ∧ y9 < x + 360) ∨ y9 = o)) s.heap H [] := by rw [← hHe]; exact va_S.rf
  obtain ⟨⟨hWro, hM, hM2, hWhi, hWto, hWtb, hWtn⟩, hWou⟩ := hP
  have hX0 : XK (fun y9 => L ≤ y9) s s.heap := hX
  have hX : XK (fun y9 => L ≤ y9) s H := by rw [hHe]; exact hX0
  have h24 := hI.M24
  have h6 := hI.R6
  refine lv_aload_n hx hb dL_strike_0 rfl (lv_at hl 3 rfl) ?_
  refine lv_iconst (v := nI 0) hx hb dL_strike_1 (by decide) ?_
  refine lv_aload_n hx hb dL_strike_2 rfl (lv_at hl 0 rfl) ?_
  refine lv_iload_n hx hb dL_strike_3 rfl (lv_at hl 1 rfl) ?_
  refine lv_iload_n hx hb dL_strike_4 rfl (lv_at hl 2 rfl) ?_
  refine kx_catch (own := RL) (L := L) (vx_runV (As := [.int (r), .int (bI (y))]) (rest := [.int (nI (0)), .ref (o)]) ⟨hx, hb, hml, hown, hts⟩ (k_X7_strikeT3 l D cs x e g e1 g1 nx cn se sg b nn wd ln pa ft r y hI hw L (by first | assumption | omega) (by first | assumption | omega)) (cwV 2 hts gL_strike_X7_strike rfl rfl rfl (by decide +kernel) ⟨Nat.le_of_ble_eq_true rfl, Nat.le_of_ble_eq_true rfl⟩) (kx_preXV hK hN hX hWro rfl ⟨hWro, hM, hM2, hWhi, hWto, hWtb, hWtn⟩) rfl rfl hl.1 rfl (lv_room (Nat.le_of_ble_eq_true rfl)) dL_strike_5 ⟨Nat.le_of_ble_eq_true rfl, Nat.le_of_ble_eq_true rfl⟩) hown (hX0) (by decide) (tableOf [(0, 10, 13, 13)]) ⟨0, 10, 17, 17⟩ (tableOf []) htb (fun z hz => by
    simp only [tableOf, List.map, List.mem_cons, List.not_mem_nil, or_false] at hz
    rcases hz with rfl
    · exact Or.inr ⟨by decide, "java/lang/IndexOutOfBoundsException", hts (.classLink RL 13 "java/lang/IndexOutOfBoundsException") (by decide +kernel), hY ("java/lang/IllegalStateException", "java/lang/IndexOutOfBoundsException") (by decide)⟩) (by decide) (by decide) (hts (.classLink RL 17 "java/lang/IllegalStateException") (by decide +kernel)) hS (fun q9 H1 hz hk hS => ?_)
  have hW9 := HrC.grow (x := x) ⟨hWro, hM, hM2, hWhi, hWto, hWtb, hWtn⟩ hk
  have hWou := hWou.kept (hk _ hWou.lt)
  refine lv_astore (lv' := [(4, .ref (q9)), (0, .ref (x)), (1, .int (r)), (2, .int (bI (y))), (3, .ref (o))]) hx hb dL_strike_17 hl (by decide) rfl (fun ls hl => ?_)
  refine lv_iconst (v := nI 2) hx hb dL_strike_19 (by decide) ?_
  exact kx_iretN hx hb hrt hlk rfl ⟨hW9, hWou⟩ hS (Nat.le_of_ble_eq_true rfl) (Nat.le_of_ble_eq_true rfl) dL_strike_20
set_option maxHeartbeats 2500000 in
set_option maxRecDepth 100000 in
theorem k_L_pass (l : Launch) (D : va_G) (cs : Nat → ClassId) (x : Nat) (e : Nat → Int32) (g : Nat → Int64) (e1 : Nat → Int32) (g1 : Nat → Int64) (nx cn : Nat) (se : Nat → Nat → Int32) (sg : Nat → Nat → Int64) (b nn : Nat → Int32) (wd ln pa : Nat) (ft : Int32) (n0 : Nat) (hI : Inv e) (hG : Msk e g) (hnx : nx < 4) (hcn : cn ≤ 4) (hw : wtk e (nI n0) = 0) (hn : n0 < 1000) (o : Nat) (f : Nat → Int64) (ho : x + 360 ≤ o) (L : Nat) (hL : L ≤ x) (hfl : l.stackTraces = false) : Met l yL_pass wsL_pass ({ frames := 6, cells := 0, slots := 0, locals := 133 } : Room) (PcY D cs L [.ref (x), .int (nI (n0)), .ref (o)] (fun H => HrC D cs x e g e1 g1 nx cn se sg b nn wd ln pa ft H ∧ va_at D vwCl (o, .inl (cs 5, 1, .inr (.inl f))) H)) (QcM (some (.int (nI (0)))) (fun H => HrC D cs x ((psF e n0)) g e1 g1 (((nx + 1) % 4)) ((min (cn + 1) 4)) ((hsE se nx (cfF (se nx) e))) ((hsG sg nx (cgM (sg nx) g (Mn e)))) b nn wd ln pa ft H ∧ va_at D vwCl (o, .inl (cs 5, 1, .inr (.inl (vp_updL f 0 ((nI (psN e n0)).toInt64))))) H) (fun y9 => (x ≤ y9 ∧ y9 < x + 360) ∨ y9 = o)) 0 0 (fun y9 => (x ≤ y9 ∧ y9 < x + 360) ∨ y9 = o) := by
  refine kx_metY (cc := cL_pass) (maxL := 4) (ret := (some .int)) (by decide) rfl (Nat.le_of_ble_eq_true rfl) ?_
  intro p en s m args below meth c hx hb hml hrt hts hown hlk hK hN hX hY htb hP ls hl
  have hl : lv_has ls 4 [(0, .ref (x)), (1, .int (nI (n0))), (2, .ref (o))] := hl
  obtain ⟨H, hHe⟩ : ∃ H : Heap, H = s.heap := ⟨_, rfl⟩
  rw [← hHe] at hP ⊢
  have hS : va_S ((fun y9 => (x ≤ y9 ∧ y9 < x + 360) ∨ y9 = o)) s.heap H [] := by rw [← hHe]; exact va_S.rf
  obtain ⟨⟨hWro, hM, hM2, hWhi, hWto, hWtb, hWtn⟩, hWou⟩ := hP
  have h24 := hI.M24
  have h6 := hI.R6
  refine lv_aload_n hx hb dL_pass_0 rfl (lv_at hl 2 rfl) ?_
  refine lv_iconst (v := nI 0) hx hb dL_pass_1 (by decide) ?_
  refine lv_aload_n hx hb dL_pass_2 rfl (lv_at hl 0 rfl) ?_
  refine lv_iload_n hx hb dL_pass_3 rfl (lv_at hl 1 rfl) ?_
  refine kx_retM (va_runV (As := [.int (nI (n0))]) (rest := [.int (nI (0)), .ref (o)]) ⟨hx, hb, hml, hown, hts⟩ (k_X7_pass l D cs x e g e1 g1 nx cn se sg b nn wd ln pa ft n0 hI hG hnx hcn hw hn) (cwV 1 hts gL_pass_X7_pass rfl rfl rfl (by decide +kernel) ⟨Nat.le_of_ble_eq_true rfl, Nat.le_of_ble_eq_true rfl⟩) (kx_preV hK hN hWro rfl ⟨hWro, hM, hM2, hWhi, hWto, hWtb, hWtn⟩) rfl rfl hl.1 rfl (lv_room (Nat.le_of_ble_eq_true rfl)) dL_pass_4 ⟨Nat.le_of_ble_eq_true rfl, Nat.le_of_ble_eq_true rfl⟩) hS (fun x _ h => (Or.inl h)) (fun x h => (Or.inl h)) (fun H locs hMN hk hS => ?_)
  have hWou := hWou.kept (hk.2 _ hWou.lt (fun h => by have h3 := h.1; have h4 := h.2; omega))
  obtain ⟨hWro, hM, hM2, hWhi, hWto, hWtb, hWtn⟩ := hMN
  clear hk
  refine lv_i2l hx hb dL_pass_7 rfl ?_
  refine kx_last (i := 0) hx hb hK hWou hS (Or.inr rfl) 5 rfl (by decide) (by decide) dL_pass_8 (fun H locs hc hU hS => ?_)
  have hWhi := hWhi.off hU (by omega)
  have hWro := hWro.kept (hU.2 _ (by omega))
  have hM := hM.off hU (by omega)
  have hM2 := hM2.off hU (by omega)
  have hWtb := hWtb.kept (hU.2 _ (by omega))
  have hWtn := hWtn.kept (hU.2 _ (by omega))
  have hWto := hWto.kept (hU.2 _ (by omega))
  have hWou := hc
  clear hc hU
  refine lv_goto (tgt := 18) hx hb dL_pass_9 (by decide) ?_
  refine lv_iconst (v := nI 0) hx hb dL_pass_18 (by decide) ?_
  exact kx_iretM hx hb hrt hlk rfl ⟨⟨hWro, hM, hM2, hWhi, hWto, hWtb, hWtn⟩, hWou⟩ hS dL_pass_19
set_option maxHeartbeats 2500000 in
set_option maxRecDepth 100000 in
theorem k_L_passT2 (l : Launch) (D : va_G) (cs : Nat → ClassId) (x : Nat) (e : Nat → Int32) (g : Nat → Int64) (e1 : Nat → Int32) (g1 : Nat → Int64) (nx cn : Nat) (se : Nat → Nat → Int32) (sg : Nat → Nat → Int64) (b nn : Nat → Int32) (wd ln pa : Nat) (ft : Int32) (n0 : Int32) (hw : c12 (wtk e n0) = 2) (o : Nat) (f : Nat → Int64) (ho : x + 360 ≤ o) (L : Nat) (hL : L ≤ x) (hfl : l.stackTraces = false) : Met l yL_pass wsL_pass ({ frames := 8, cells := 1, slots := 6, locals := 133 } : Room) (PcY D cs L [.ref (x), .int (n0), .ref (o)] (fun H => HrC D cs x e g e1 g1 nx cn se sg b nn wd ln pa ft H ∧ va_at D vwCl (o, .inl (cs 5, 1, .inr (.inl f))) H)) (QcM (some (.int (nI (1)))) (fun H => HrC D cs x e g e1 g1 nx cn se sg b nn wd ln pa ft H ∧ va_at D vwCl (o, .inl (cs 5, 1, .inr (.inl f))) H) (fun y9 => (x ≤ y9 ∧ y9 < x + 360) ∨ y9 = o)) 1 6 (fun y9 => (x ≤ y9 ∧ y9 < x + 360) ∨ y9 = o) := by
  refine kx_metY (cc := cL_pass) (maxL := 4) (ret := (some .int)) (by decide) rfl (Nat.le_of_ble_eq_true rfl) ?_
  intro p en s m args below meth c hx hb hml hrt hts hown hlk hK hN hX hY htb hP ls hl
  have hl : lv_has ls 4 [(0, .ref (x)), (1, .int (n0)), (2, .ref (o))] := hl
  obtain ⟨H, hHe⟩ : ∃ H : Heap, H = s.heap := ⟨_, rfl⟩
  rw [← hHe] at hP ⊢
  have hS : va_S ((fun y9 => (x ≤ y9 ∧ y9 < x + 360) ∨ y9 = o)) s.heap H [] := by rw [← hHe]; exact va_S.rf
  obtain ⟨⟨hWro, hM, hM2, hWhi, hWto, hWtb, hWtn⟩, hWou⟩ := hP
  have hX0 : XK (fun y9 => L ≤ y9) s s.heap := hX
  have hX : XK (fun y9 => L ≤ y9) s H := by rw [hHe]; exact hX0
  refine lv_aload_n hx hb dL_pass_0 rfl (lv_at hl 2 rfl) ?_
  refine lv_iconst (v := nI 0) hx hb dL_pass_1 (by decide) ?_
  refine lv_aload_n hx hb dL_pass_2 rfl (lv_at hl 0 rfl) ?_
  refine lv_iload_n hx hb dL_pass_3 rfl (lv_at hl 1 rfl) ?_
  refine kx_catch (own := RL) (L := L) (vx_runV (As := [.int (n0)]) (rest := [.int (nI (0)), .ref (o)]) ⟨hx, hb, hml, hown, hts⟩ (k_X7_passT2 l D cs x e g e1 g1 nx cn se sg b nn wd ln pa ft n0 hw L (by first | assumption | omega) (by first | assumption | omega)) (cwV 1 hts gL_pass_X7_pass rfl rfl rfl (by decide +kernel) ⟨Nat.le_of_ble_eq_true rfl, Nat.le_of_ble_eq_true rfl⟩) (kx_preXV hK hN hX hWro rfl ⟨hWro, hM, hM2, hWhi, hWto, hWtb, hWtn⟩) rfl rfl hl.1 rfl (lv_room (Nat.le_of_ble_eq_true rfl)) dL_pass_4 ⟨Nat.le_of_ble_eq_true rfl, Nat.le_of_ble_eq_true rfl⟩) hown (hX0) (by decide) (tableOf []) ⟨0, 9, 12, 15⟩ (tableOf [(0, 9, 15, 17)]) htb (fun z hz => nomatch hz) (by decide) (by decide) (hts (.classLink RL 15 "java/lang/IllegalArgumentException") (by decide +kernel)) hS (fun q9 H1 hz hk hS => ?_)
  have hW9 := HrC.grow (x := x) ⟨hWro, hM, hM2, hWhi, hWto, hWtb, hWtn⟩ hk
  have hWou := hWou.kept (hk _ hWou.lt)
  refine lv_astore_n (lv' := [(3, .ref (q9)), (0, .ref (x)), (1, .int (n0)), (2, .ref (o))]) hx hb dL_pass_12 rfl hl (by decide) rfl (fun ls hl => ?_)
  refine lv_iconst (v := nI 1) hx hb dL_pass_13 (by decide) ?_
  exact kx_iretN hx hb hrt hlk rfl ⟨hW9, hWou⟩ hS (Nat.le_of_ble_eq_true rfl) (Nat.le_of_ble_eq_true rfl) dL_pass_14
set_option maxHeartbeats 2500000 in
set_option maxRecDepth 100000 in
theorem k_L_passT3 (l : Launch) (D : va_G) (cs : Nat → ClassId) (x : Nat) (e : Nat → Int32) (g : Nat → Int64) (e1 : Nat → Int32) (g1 : Nat → Int64) (nx cn : Nat) (se : Nat → Nat → Int32) (sg : Nat → Nat → Int64) (b nn : Nat → Int32) (wd ln pa : Nat) (ft : Int32) (n0 : Int32) (hw : c12 (wtk e n0) = 3) (o : Nat) (f : Nat → Int64) (ho : x + 360 ≤ o) (L : Nat) (hL : L ≤ x) (hfl : l.stackTraces = false) : Met l yL_pass wsL_pass ({ frames := 8, cells := 1, slots := 6, locals := 133 } : Room) (PcY D cs L [.ref (x), .int (n0), .ref (o)] (fun H => HrC D cs x e g e1 g1 nx cn se sg b nn wd ln pa ft H ∧ va_at D vwCl (o, .inl (cs 5, 1, .inr (.inl f))) H)) (QcM (some (.int (nI (2)))) (fun H => HrC D cs x e g e1 g1 nx cn se sg b nn wd ln pa ft H ∧ va_at D vwCl (o, .inl (cs 5, 1, .inr (.inl f))) H) (fun y9 => (x ≤ y9 ∧ y9 < x + 360) ∨ y9 = o)) 1 6 (fun y9 => (x ≤ y9 ∧ y9 < x + 360) ∨ y9 = o) := by
  refine kx_metY (cc := cL_pass) (maxL := 4) (ret := (some .int)) (by decide) rfl (Nat.le_of_ble_eq_true rfl) ?_
  intro p en s m args below meth c hx hb hml hrt hts hown hlk hK hN hX hY htb hP ls hl
  have hl : lv_has ls 4 [(0, .ref (x)), (1, .int (n0)), (2, .ref (o))] := hl
  obtain ⟨H, hHe⟩ : ∃ H : Heap, H = s.heap := ⟨_, rfl⟩
  rw [← hHe] at hP ⊢
  have hS : va_S ((fun y9 => (x ≤ y9 ∧ y9 < x + 360) ∨ y9 = o)) s.heap H [] := by rw [← hHe]; exact va_S.rf
  obtain ⟨⟨hWro, hM, hM2, hWhi, hWto, hWtb, hWtn⟩, hWou⟩ := hP
  have hX0 : XK (fun y9 => L ≤ y9) s s.heap := hX
  have hX : XK (fun y9 => L ≤ y9) s H := by rw [hHe]; exact hX0
  refine lv_aload_n hx hb dL_pass_0 rfl (lv_at hl 2 rfl) ?_
  refine lv_iconst (v := nI 0) hx hb dL_pass_1 (by decide) ?_
  refine lv_aload_n hx hb dL_pass_2 rfl (lv_at hl 0 rfl) ?_
  refine lv_iload_n hx hb dL_pass_3 rfl (lv_at hl 1 rfl) ?_
  refine kx_catch (own := RL) (L := L) (vx_runV (As := [.int (n0)]) (rest := [.int (nI (0)), .ref (o)]) ⟨hx, hb, hml, hown, hts⟩ (k_X7_passT3 l D cs x e g e1 g1 nx cn se sg b nn wd ln pa ft n0 hw L (by first | assumption | omega) (by first | assumption | omega)) (cwV 1 hts gL_pass_X7_pass rfl rfl rfl (by decide +kernel) ⟨Nat.le_of_ble_eq_true rfl, Nat.le_of_ble_eq_true rfl⟩) (kx_preXV hK hN hX hWro rfl ⟨hWro, hM, hM2, hWhi, hWto, hWtb, hWtn⟩) rfl rfl hl.1 rfl (lv_room (Nat.le_of_ble_eq_true rfl)) dL_pass_4 ⟨Nat.le_of_ble_eq_true rfl, Nat.le_of_ble_eq_true rfl⟩) hown (hX0) (by decide) (tableOf [(0, 9, 12, 15)]) ⟨0, 9, 15, 17⟩ (tableOf []) htb (fun z hz => by
    simp only [tableOf, List.map, List.mem_cons, List.not_mem_nil, or_false] at hz
    rcases hz with rfl
    · exact Or.inr ⟨by decide, "java/lang/IllegalArgumentException", hts (.classLink RL 15 "java/lang/IllegalArgumentException") (by decide +kernel), hY ("java/lang/IllegalStateException", "java/lang/IllegalArgumentException") (by decide)⟩) (by decide) (by decide) (hts (.classLink RL 17 "java/lang/IllegalStateException") (by decide +kernel)) hS (fun q9 H1 hz hk hS => ?_)
  have hW9 := HrC.grow (x := x) ⟨hWro, hM, hM2, hWhi, hWto, hWtb, hWtn⟩ hk
  have hWou := hWou.kept (hk _ hWou.lt)
  refine lv_astore_n (lv' := [(3, .ref (q9)), (0, .ref (x)), (1, .int (n0)), (2, .ref (o))]) hx hb dL_pass_15 rfl hl (by decide) rfl (fun ls hl => ?_)
  refine lv_iconst (v := nI 2) hx hb dL_pass_16 (by decide) ?_
  exact kx_iretN hx hb hrt hlk rfl ⟨hW9, hWou⟩ hS (Nat.le_of_ble_eq_true rfl) (Nat.le_of_ble_eq_true rfl) dL_pass_17
set_option maxHeartbeats 2500000 in
set_option maxRecDepth 100000 in
theorem k_L_ring (l : Launch) (D : va_G) (cs : Nat → ClassId) (x : Nat) (e : Nat → Int32) (g : Nat → Int64) (e1 : Nat → Int32) (g1 : Nat → Int64) (nx cn : Nat) (se : Nat → Nat → Int32) (sg : Nat → Nat → Int64) (b nn : Nat → Int32) (wd ln pa : Nat) (ft : Int32) (r w : Nat) (hI : Inv e) (hr : r < Rn e) (hw : w < 8) (o : Nat) (f : Nat → Int64) (ho : x + 360 ≤ o) (L : Nat) (hL : L ≤ x) (hfl : l.stackTraces = false) : Met l yL_ring wsL_ring ({ frames := 4, cells := 0, slots := 0, locals := 89 } : Room) (PcY D cs L [.ref (x), .int (nI (r)), .int (nI (w)), .ref (o)] (fun H => HrC D cs x e g e1 g1 nx cn se sg b nn wd ln pa ft H ∧ va_at D vwCl (o, .inl (cs 5, 1, .inr (.inl f))) H)) (QcM (some (.int (nI (0)))) (fun H => HrC D cs x e g e1 g1 nx cn se sg b nn wd ln pa ft H ∧ va_at D vwCl (o, .inl (cs 5, 1, .inr (.inl (vp_updL f 0 ((rvI e r w).toInt64))))) H) (fun y9 => (x ≤ y9 ∧ y9 < x + 360) ∨ y9 = o)) 0 0 (fun y9 => (x ≤ y9 ∧ y9 < x + 360) ∨ y9 = o) := by
  refine kx_metY (cc := cL_ring) (maxL := 5) (ret := (some .int)) (by decide) rfl (Nat.le_of_ble_eq_true rfl) ?_
  intro p en s m args below meth c hx hb hml hrt hts hown hlk hK hN hX hY htb hP ls hl
  have hl : lv_has ls 5 [(0, .ref (x)), (1, .int (nI (r))), (2, .int (nI (w))), (3, .ref (o))] := hl
  obtain ⟨H, hHe⟩ : ∃ H : Heap, H = s.heap := ⟨_, rfl⟩
  rw [← hHe] at hP ⊢
  have hS : va_S ((fun y9 => (x ≤ y9 ∧ y9 < x + 360) ∨ y9 = o)) s.heap H [] := by rw [← hHe]; exact va_S.rf
  obtain ⟨⟨hWro, hM, hM2, hWhi, hWto, hWtb, hWtn⟩, hWou⟩ := hP
  have h24 := hI.M24
  have h6 := hI.R6
  refine lv_aload_n hx hb dL_ring_0 rfl (lv_at hl 3 rfl) ?_
  refine lv_iconst (v := nI 0) hx hb dL_ring_1 (by decide) ?_
  refine lv_aload_n hx hb dL_ring_2 rfl (lv_at hl 0 rfl) ?_
  refine lv_iload_n hx hb dL_ring_3 rfl (lv_at hl 1 rfl) ?_
  refine lv_iload_n hx hb dL_ring_4 rfl (lv_at hl 2 rfl) ?_
  refine kx_retP (va_runV (As := [.int (nI (r)), .int (nI (w))]) (rest := [.int (nI (0)), .ref (o)]) ⟨hx, hb, hml, hown, hts⟩ (k_X7_ring l D cs x e g e1 g1 nx cn se sg b nn wd ln pa ft r w hI hr hw) (cwV 2 hts gL_ring_X7_ring rfl rfl rfl (by decide +kernel) ⟨Nat.le_of_ble_eq_true rfl, Nat.le_of_ble_eq_true rfl⟩) (kx_preV hK hN hWro rfl ⟨hWro, hM, hM2, hWhi, hWto, hWtb, hWtn⟩) rfl rfl hl.1 rfl (lv_room (Nat.le_of_ble_eq_true rfl)) dL_ring_5 ⟨Nat.le_of_ble_eq_true rfl, Nat.le_of_ble_eq_true rfl⟩) ?_
  refine lv_i2l hx hb dL_ring_8 rfl ?_
  refine kx_last (i := 0) hx hb hK hWou hS (Or.inr rfl) 5 rfl (by decide) (by decide) dL_ring_9 (fun H locs hc hU hS => ?_)
  have hWhi := hWhi.off hU (by omega)
  have hWro := hWro.kept (hU.2 _ (by omega))
  have hM := hM.off hU (by omega)
  have hM2 := hM2.off hU (by omega)
  have hWtb := hWtb.kept (hU.2 _ (by omega))
  have hWtn := hWtn.kept (hU.2 _ (by omega))
  have hWto := hWto.kept (hU.2 _ (by omega))
  have hWou := hc
  clear hc hU
  refine lv_goto (tgt := 21) hx hb dL_ring_10 (by decide) ?_
  refine lv_iconst (v := nI 0) hx hb dL_ring_21 (by decide) ?_
  exact kx_iretM hx hb hrt hlk rfl ⟨⟨hWro, hM, hM2, hWhi, hWto, hWtb, hWtn⟩, hWou⟩ hS dL_ring_22
set_option maxHeartbeats 2500000 in
set_option maxRecDepth 100000 in
theorem k_L_ringT1 (l : Launch) (D : va_G) (cs : Nat → ClassId) (x : Nat) (e : Nat → Int32) (g : Nat → Int64) (e1 : Nat → Int32) (g1 : Nat → Int64) (nx cn : Nat) (se : Nat → Nat → Int32) (sg : Nat → Nat → Int64) (b nn : Nat → Int32) (wd ln pa : Nat) (ft : Int32) (r w : Int32) (hI : Inv e) (hw : lsB r (Rn e) = false) (o : Nat) (f : Nat → Int64) (ho : x + 360 ≤ o) (L : Nat) (hL : L ≤ x) (hfl : l.stackTraces = false) : Met l yL_ring wsL_ring ({ frames := 7, cells := 1, slots := 6, locals := 104 } : Room) (PcY D cs L [.ref (x), .int (r), .int (w), .ref (o)] (fun H => HrC D cs x e g e1 g1 nx cn se sg b nn wd ln pa ft H ∧ va_at D vwCl (o, .inl (cs 5, 1, .inr (.inl f))) H)) (QcM (some (.int (nI (1)))) (fun H => HrC D cs x e g e1 g1 nx cn se sg b nn wd ln pa ft H ∧ va_at D vwCl (o, .inl (cs 5, 1, .inr (.inl f))) H) (fun y9 => (x ≤ y9 ∧ y9 < x + 360) ∨ y9 = o)) 1 6 (fun y9 => (x ≤ y9 ∧ y9 < x + 360) ∨ y9 = o) := by
  refine kx_metY (cc := cL_ring) (maxL := 5) (ret := (some .int)) (by decide) rfl (Nat.le_of_ble_eq_true rfl) ?_
  intro p en s m args below meth c hx hb hml hrt hts hown hlk hK hN hX hY htb hP ls hl
  have hl : lv_has ls 5 [(0, .ref (x)), (1, .int (r)), (2, .int (w)), (3, .ref (o))] := hl
  obtain ⟨H, hHe⟩ : ∃ H : Heap, H = s.heap := ⟨_, rfl⟩
  rw [← hHe] at hP ⊢
  have hS : va_S ((fun y9 => (x ≤ y9 ∧ y9 < x + 360) ∨ y9 = o)) s.heap H [] := by rw [← hHe]; exact va_S.rf
  obtain ⟨⟨hWro, hM, hM2, hWhi, hWto, hWtb, hWtn⟩, hWou⟩ := hP
  have hX0 : XK (fun y9 => L ≤ y9) s s.heap := hX
  have hX : XK (fun y9 => L ≤ y9) s H := by rw [hHe]; exact hX0
  have h24 := hI.M24
  have h6 := hI.R6
  refine lv_aload_n hx hb dL_ring_0 rfl (lv_at hl 3 rfl) ?_
  refine lv_iconst (v := nI 0) hx hb dL_ring_1 (by decide) ?_
  refine lv_aload_n hx hb dL_ring_2 rfl (lv_at hl 0 rfl) ?_
  refine lv_iload_n hx hb dL_ring_3 rfl (lv_at hl 1 rfl) ?_
  refine lv_iload_n hx hb dL_ring_4 rfl (lv_at hl 2 rfl) ?_
  refine kx_catch (own := RL) (L := L) (vx_runV (As := [.int (r), .int (w)]) (rest := [.int (nI (0)), .ref (o)]) ⟨hx, hb, hml, hown, hts⟩ (k_X7_ringT1 l D cs x e g e1 g1 nx cn se sg b nn wd ln pa ft r w hI hw L (by first | assumption | omega) (by first | assumption | omega)) (cwV 2 hts gL_ring_X7_ring rfl rfl rfl (by decide +kernel) ⟨Nat.le_of_ble_eq_true rfl, Nat.le_of_ble_eq_true rfl⟩) (kx_preXV hK hN hX hWro rfl ⟨hWro, hM, hM2, hWhi, hWto, hWtb, hWtn⟩) rfl rfl hl.1 rfl (lv_room (Nat.le_of_ble_eq_true rfl)) dL_ring_5 ⟨Nat.le_of_ble_eq_true rfl, Nat.le_of_ble_eq_true rfl⟩) hown (hX0) (by decide) (tableOf []) ⟨0, 10, 13, 13⟩ (tableOf [(0, 10, 17, 15)]) htb (fun z hz => nomatch hz) (by decide) (by decide) (hts (.classLink RL 13 "java/lang/IndexOutOfBoundsException") (by decide +kernel)) hS (fun q9 H1 hz hk hS => ?_)
  have hW9 := HrC.grow (x := x) ⟨hWro, hM, hM2, hWhi, hWto, hWtb, hWtn⟩ hk
  have hWou := hWou.kept (hk _ hWou.lt)
  refine lv_astore (lv' := [(4, .ref (q9)), (0, .ref (x)), (1, .int (r)), (2, .int (w)), (3, .ref (o))]) hx hb dL_ring_13 hl (by decide) rfl (fun ls hl => ?_)
  refine lv_iconst (v := nI 1) hx hb dL_ring_15 (by decide) ?_
  exact kx_iretN hx hb hrt hlk rfl ⟨hW9, hWou⟩ hS (Nat.le_of_ble_eq_true rfl) (Nat.le_of_ble_eq_true rfl) dL_ring_16
set_option maxHeartbeats 2500000 in
set_option maxRecDepth 100000 in
theorem k_L_ringT2 (l : Launch) (D : va_G) (cs : Nat → ClassId) (x : Nat) (e : Nat → Int32) (g : Nat → Int64) (e1 : Nat → Int32) (g1 : Nat → Int64) (nx cn : Nat) (se : Nat → Nat → Int32) (sg : Nat → Nat → Int64) (b nn : Nat → Int32) (wd ln pa : Nat) (ft : Int32) (r w : Int32) (hI : Inv e) (hr : lsB r (Rn e) = true) (hw : wiB w (nI 0) (nI 7) = false) (o : Nat) (f : Nat → Int64) (ho : x + 360 ≤ o) (L : Nat) (hL : L ≤ x) (hfl : l.stackTraces = false) : Met l yL_ring wsL_ring ({ frames := 8, cells := 1, slots := 6, locals := 125 } : Room) (PcY D cs L [.ref (x), .int (r), .int (w), .ref (o)] (fun H => HrC D cs x e g e1 g1 nx cn se sg b nn wd ln pa ft H ∧ va_at D vwCl (o, .inl (cs 5, 1, .inr (.inl f))) H)) (QcM (some (.int (nI (2)))) (fun H => HrC D cs x e g e1 g1 nx cn se sg b nn wd ln pa ft H ∧ va_at D vwCl (o, .inl (cs 5, 1, .inr (.inl f))) H) (fun y9 => (x ≤ y9 ∧ y9 < x + 360) ∨ y9 = o)) 1 6 (fun y9 => (x ≤ y9 ∧ y9 < x + 360) ∨ y9 = o) := by
  refine kx_metY (cc := cL_ring) (maxL := 5) (ret := (some .int)) (by decide) rfl (Nat.le_of_ble_eq_true rfl) ?_
  intro p en s m args below meth c hx hb hml hrt hts hown hlk hK hN hX hY htb hP ls hl
  have hl : lv_has ls 5 [(0, .ref (x)), (1, .int (r)), (2, .int (w)), (3, .ref (o))] := hl
  obtain ⟨H, hHe⟩ : ∃ H : Heap, H = s.heap := ⟨_, rfl⟩
  rw [← hHe] at hP ⊢
  have hS : va_S ((fun y9 => (x ≤ y9 ∧ y9 < x + 360) ∨ y9 = o)) s.heap H [] := by rw [← hHe]; exact va_S.rf
  obtain ⟨⟨hWro, hM, hM2, hWhi, hWto, hWtb, hWtn⟩, hWou⟩ := hP
  have hX0 : XK (fun y9 => L ≤ y9) s s.heap := hX
  have hX : XK (fun y9 => L ≤ y9) s H := by rw [hHe]; exact hX0
  have h24 := hI.M24
  have h6 := hI.R6
  refine lv_aload_n hx hb dL_ring_0 rfl (lv_at hl 3 rfl) ?_
  refine lv_iconst (v := nI 0) hx hb dL_ring_1 (by decide) ?_
  refine lv_aload_n hx hb dL_ring_2 rfl (lv_at hl 0 rfl) ?_
  refine lv_iload_n hx hb dL_ring_3 rfl (lv_at hl 1 rfl) ?_
  refine lv_iload_n hx hb dL_ring_4 rfl (lv_at hl 2 rfl) ?_
  refine kx_catch (own := RL) (L := L) (vx_runV (As := [.int (r), .int (w)]) (rest := [.int (nI (0)), .ref (o)]) ⟨hx, hb, hml, hown, hts⟩ (k_X7_ringT2 l D cs x e g e1 g1 nx cn se sg b nn wd ln pa ft r w hI hr hw L (by first | assumption | omega) (by first | assumption | omega)) (cwV 2 hts gL_ring_X7_ring rfl rfl rfl (by decide +kernel) ⟨Nat.le_of_ble_eq_true rfl, Nat.le_of_ble_eq_true rfl⟩) (kx_preXV hK hN hX hWro rfl ⟨hWro, hM, hM2, hWhi, hWto, hWtb, hWtn⟩) rfl rfl hl.1 rfl (lv_room (Nat.le_of_ble_eq_true rfl)) dL_ring_5 ⟨Nat.le_of_ble_eq_true rfl, Nat.le_of_ble_eq_true rfl⟩) hown (hX0) (by decide) (tableOf [(0, 10, 13, 13)]) ⟨0, 10, 17, 15⟩ (tableOf []) htb (fun z hz => by
    simp only [tableOf, List.map, List.mem_cons, List.not_mem_nil, or_false] at hz
    rcases hz with rfl
    · exact Or.inr ⟨by decide, "java/lang/IndexOutOfBoundsException", hts (.classLink RL 13 "java/lang/IndexOutOfBoundsException") (by decide +kernel), hY ("java/lang/IllegalArgumentException", "java/lang/IndexOutOfBoundsException") (by decide)⟩) (by decide) (by decide) (hts (.classLink RL 15 "java/lang/IllegalArgumentException") (by decide +kernel)) hS (fun q9 H1 hz hk hS => ?_)
  have hW9 := HrC.grow (x := x) ⟨hWro, hM, hM2, hWhi, hWto, hWtb, hWtn⟩ hk
  have hWou := hWou.kept (hk _ hWou.lt)
  refine lv_astore (lv' := [(4, .ref (q9)), (0, .ref (x)), (1, .int (r)), (2, .int (w)), (3, .ref (o))]) hx hb dL_ring_17 hl (by decide) rfl (fun ls hl => ?_)
  refine lv_iconst (v := nI 2) hx hb dL_ring_19 (by decide) ?_
  exact kx_iretN hx hb hrt hlk rfl ⟨hW9, hWou⟩ hS (Nat.le_of_ble_eq_true rfl) (Nat.le_of_ble_eq_true rfl) dL_ring_20
set_option maxHeartbeats 2500000 in
set_option maxRecDepth 100000 in
theorem k_L_moveOf (l : Launch) (D : va_G) (cs : Nat → ClassId) (x : Nat) (e : Nat → Int32) (g : Nat → Int64) (e1 : Nat → Int32) (g1 : Nat → Int64) (nx cn : Nat) (se : Nat → Nat → Int32) (sg : Nat → Nat → Int64) (b nn : Nat → Int32) (wd ln pa : Nat) (ft : Int32) (mv w : Nat) (hI : Inv e) (hm : mv < Mn e) (hw : w < 10) (o : Nat) (f : Nat → Int64) (ho : x + 360 ≤ o) (L : Nat) (hL : L ≤ x) (hfl : l.stackTraces = false) : Met l yL_moveOf wsL_moveOf ({ frames := 3, cells := 0, slots := 0, locals := 65 } : Room) (PcY D cs L [.ref (x), .int (nI (mv)), .int (nI (w)), .ref (o)] (fun H => HrC D cs x e g e1 g1 nx cn se sg b nn wd ln pa ft H ∧ va_at D vwCl (o, .inl (cs 5, 1, .inr (.inl f))) H)) (QcM (some (.int (nI (0)))) (fun H => HrC D cs x e g e1 g1 nx cn se sg b nn wd ln pa ft H ∧ va_at D vwCl (o, .inl (cs 5, 1, .inr (.inl (vp_updL f 0 ((e (80 + 10 * mv + w)).toInt64))))) H) (fun y9 => (x ≤ y9 ∧ y9 < x + 360) ∨ y9 = o)) 0 0 (fun y9 => (x ≤ y9 ∧ y9 < x + 360) ∨ y9 = o) := by
  refine kx_metY (cc := cL_moveOf) (maxL := 5) (ret := (some .int)) (by decide) rfl (Nat.le_of_ble_eq_true rfl) ?_
  intro p en s m args below meth c hx hb hml hrt hts hown hlk hK hN hX hY htb hP ls hl
  have hl : lv_has ls 5 [(0, .ref (x)), (1, .int (nI (mv))), (2, .int (nI (w))), (3, .ref (o))] := hl
  obtain ⟨H, hHe⟩ : ∃ H : Heap, H = s.heap := ⟨_, rfl⟩
  rw [← hHe] at hP ⊢
  have hS : va_S ((fun y9 => (x ≤ y9 ∧ y9 < x + 360) ∨ y9 = o)) s.heap H [] := by rw [← hHe]; exact va_S.rf
  obtain ⟨⟨hWro, hM, hM2, hWhi, hWto, hWtb, hWtn⟩, hWou⟩ := hP
  have h24 := hI.M24
  have h6 := hI.R6
  refine lv_aload_n hx hb dL_moveOf_0 rfl (lv_at hl 3 rfl) ?_
  refine lv_iconst (v := nI 0) hx hb dL_moveOf_1 (by decide) ?_
  refine lv_aload_n hx hb dL_moveOf_2 rfl (lv_at hl 0 rfl) ?_
  refine lv_iload_n hx hb dL_moveOf_3 rfl (lv_at hl 1 rfl) ?_
  refine lv_iload_n hx hb dL_moveOf_4 rfl (lv_at hl 2 rfl) ?_
  refine kx_retP (va_runV (As := [.int (nI (mv)), .int (nI (w))]) (rest := [.int (nI (0)), .ref (o)]) ⟨hx, hb, hml, hown, hts⟩ (k_X7_moveOf l D cs x e g e1 g1 nx cn se sg b nn wd ln pa ft mv w hI hm hw) (cwV 2 hts gL_moveOf_X7_moveOf rfl rfl rfl (by decide +kernel) ⟨Nat.le_of_ble_eq_true rfl, Nat.le_of_ble_eq_true rfl⟩) (kx_preV hK hN hWro rfl ⟨hWro, hM, hM2, hWhi, hWto, hWtb, hWtn⟩) rfl rfl hl.1 rfl (lv_room (Nat.le_of_ble_eq_true rfl)) dL_moveOf_5 ⟨Nat.le_of_ble_eq_true rfl, Nat.le_of_ble_eq_true rfl⟩) ?_
  refine lv_i2l hx hb dL_moveOf_8 rfl ?_
  refine kx_last (i := 0) hx hb hK hWou hS (Or.inr rfl) 5 rfl (by decide) (by decide) dL_moveOf_9 (fun H locs hc hU hS => ?_)
  have hWhi := hWhi.off hU (by omega)
  have hWro := hWro.kept (hU.2 _ (by omega))
  have hM := hM.off hU (by omega)
  have hM2 := hM2.off hU (by omega)
  have hWtb := hWtb.kept (hU.2 _ (by omega))
  have hWtn := hWtn.kept (hU.2 _ (by omega))
  have hWto := hWto.kept (hU.2 _ (by omega))
  have hWou := hc
  clear hc hU
  refine lv_goto (tgt := 21) hx hb dL_moveOf_10 (by decide) ?_
  refine lv_iconst (v := nI 0) hx hb dL_moveOf_21 (by decide) ?_
  exact kx_iretM hx hb hrt hlk rfl ⟨⟨hWro, hM, hM2, hWhi, hWto, hWtb, hWtn⟩, hWou⟩ hS dL_moveOf_22
set_option maxHeartbeats 2500000 in
set_option maxRecDepth 100000 in
theorem k_L_moveOfT1 (l : Launch) (D : va_G) (cs : Nat → ClassId) (x : Nat) (e : Nat → Int32) (g : Nat → Int64) (e1 : Nat → Int32) (g1 : Nat → Int64) (nx cn : Nat) (se : Nat → Nat → Int32) (sg : Nat → Nat → Int64) (b nn : Nat → Int32) (wd ln pa : Nat) (ft : Int32) (y w : Int32) (hI : Inv e) (hw : lsB y (Mn e) = false) (o : Nat) (f : Nat → Int64) (ho : x + 360 ≤ o) (L : Nat) (hL : L ≤ x) (hfl : l.stackTraces = false) : Met l yL_moveOf wsL_moveOf ({ frames := 8, cells := 1, slots := 6, locals := 125 } : Room) (PcY D cs L [.ref (x), .int (y), .int (w), .ref (o)] (fun H => HrC D cs x e g e1 g1 nx cn se sg b nn wd ln pa ft H ∧ va_at D vwCl (o, .inl (cs 5, 1, .inr (.inl f))) H)) (QcM (some (.int (nI (1)))) (fun H => HrC D cs x e g e1 g1 nx cn se sg b nn wd ln pa ft H ∧ va_at D vwCl (o, .inl (cs 5, 1, .inr (.inl f))) H) (fun y9 => (x ≤ y9 ∧ y9 < x + 360) ∨ y9 = o)) 1 6 (fun y9 => (x ≤ y9 ∧ y9 < x + 360) ∨ y9 = o) := by
  refine kx_metY (cc := cL_moveOf) (maxL := 5) (ret := (some .int)) (by decide) rfl (Nat.le_of_ble_eq_true rfl) ?_
  intro p en s m args below meth c hx hb hml hrt hts hown hlk hK hN hX hY htb hP ls hl
  have hl : lv_has ls 5 [(0, .ref (x)), (1, .int (y)), (2, .int (w)), (3, .ref (o))] := hl
  obtain ⟨H, hHe⟩ : ∃ H : Heap, H = s.heap := ⟨_, rfl⟩
  rw [← hHe] at hP ⊢
  have hS : va_S ((fun y9 => (x ≤ y9 ∧ y9 < x + 360) ∨ y9 = o)) s.heap H [] := by rw [← hHe]; exact va_S.rf
  obtain ⟨⟨hWro, hM, hM2, hWhi, hWto, hWtb, hWtn⟩, hWou⟩ := hP
  have hX0 : XK (fun y9 => L ≤ y9) s s.heap := hX
  have hX : XK (fun y9 => L ≤ y9) s H := by rw [hHe]; exact hX0
  have h24 := hI.M24
  have h6 := hI.R6
  refine lv_aload_n hx hb dL_moveOf_0 rfl (lv_at hl 3 rfl) ?_
  refine lv_iconst (v := nI 0) hx hb dL_moveOf_1 (by decide) ?_
  refine lv_aload_n hx hb dL_moveOf_2 rfl (lv_at hl 0 rfl) ?_
  refine lv_iload_n hx hb dL_moveOf_3 rfl (lv_at hl 1 rfl) ?_
  refine lv_iload_n hx hb dL_moveOf_4 rfl (lv_at hl 2 rfl) ?_
  refine kx_catch (own := RL) (L := L) (vx_runV (As := [.int (y), .int (w)]) (rest := [.int (nI (0)), .ref (o)]) ⟨hx, hb, hml, hown, hts⟩ (k_X7_moveOfT1 l D cs x e g e1 g1 nx cn se sg b nn wd ln pa ft y w hI hw L (by first | assumption | omega) (by first | assumption | omega)) (cwV 2 hts gL_moveOf_X7_moveOf rfl rfl rfl (by decide +kernel) ⟨Nat.le_of_ble_eq_true rfl, Nat.le_of_ble_eq_true rfl⟩) (kx_preXV hK hN hX hWro rfl ⟨hWro, hM, hM2, hWhi, hWto, hWtb, hWtn⟩) rfl rfl hl.1 rfl (lv_room (Nat.le_of_ble_eq_true rfl)) dL_moveOf_5 ⟨Nat.le_of_ble_eq_true rfl, Nat.le_of_ble_eq_true rfl⟩) hown (hX0) (by decide) (tableOf []) ⟨0, 10, 13, 13⟩ (tableOf [(0, 10, 17, 15)]) htb (fun z hz => nomatch hz) (by decide) (by decide) (hts (.classLink RL 13 "java/lang/IndexOutOfBoundsException") (by decide +kernel)) hS (fun q9 H1 hz hk hS => ?_)
  have hW9 := HrC.grow (x := x) ⟨hWro, hM, hM2, hWhi, hWto, hWtb, hWtn⟩ hk
  have hWou := hWou.kept (hk _ hWou.lt)
  refine lv_astore (lv' := [(4, .ref (q9)), (0, .ref (x)), (1, .int (y)), (2, .int (w)), (3, .ref (o))]) hx hb dL_moveOf_13 hl (by decide) rfl (fun ls hl => ?_)
  refine lv_iconst (v := nI 1) hx hb dL_moveOf_15 (by decide) ?_
  exact kx_iretN hx hb hrt hlk rfl ⟨hW9, hWou⟩ hS (Nat.le_of_ble_eq_true rfl) (Nat.le_of_ble_eq_true rfl) dL_moveOf_16
set_option maxHeartbeats 2500000 in
set_option maxRecDepth 100000 in
theorem k_L_moveOfT2 (l : Launch) (D : va_G) (cs : Nat → ClassId) (x : Nat) (e : Nat → Int32) (g : Nat → Int64) (e1 : Nat → Int32) (g1 : Nat → Int64) (nx cn : Nat) (se : Nat → Nat → Int32) (sg : Nat → Nat → Int64) (b nn : Nat → Int32) (wd ln pa : Nat) (ft : Int32) (mv : Nat) (w : Int32) (hI : Inv e) (hm : mv < Mn e) (hw : wiB w (nI 0) (nI 9) = false) (o : Nat) (f : Nat → Int64) (ho : x + 360 ≤ o) (L : Nat) (hL : L ≤ x) (hfl : l.stackTraces = false) : Met l yL_moveOf wsL_moveOf ({ frames := 8, cells := 1, slots := 6, locals := 125 } : Room) (PcY D cs L [.ref (x), .int (nI (mv)), .int (w), .ref (o)] (fun H => HrC D cs x e g e1 g1 nx cn se sg b nn wd ln pa ft H ∧ va_at D vwCl (o, .inl (cs 5, 1, .inr (.inl f))) H)) (QcM (some (.int (nI (2)))) (fun H => HrC D cs x e g e1 g1 nx cn se sg b nn wd ln pa ft H ∧ va_at D vwCl (o, .inl (cs 5, 1, .inr (.inl f))) H) (fun y9 => (x ≤ y9 ∧ y9 < x + 360) ∨ y9 = o)) 1 6 (fun y9 => (x ≤ y9 ∧ y9 < x + 360) ∨ y9 = o) := by
  refine kx_metY (cc := cL_moveOf) (maxL := 5) (ret := (some .int)) (by decide) rfl (Nat.le_of_ble_eq_true rfl) ?_
  intro p en s m args below meth c hx hb hml hrt hts hown hlk hK hN hX hY htb hP ls hl
  have hl : lv_has ls 5 [(0, .ref (x)), (1, .int (nI (mv))), (2, .int (w)), (3, .ref (o))] := hl
  obtain ⟨H, hHe⟩ : ∃ H : Heap, H = s.heap := ⟨_, rfl⟩
  rw [← hHe] at hP ⊢
  have hS : va_S ((fun y9 => (x ≤ y9 ∧ y9 < x + 360) ∨ y9 = o)) s.heap H [] := by rw [← hHe]; exact va_S.rf
  obtain ⟨⟨hWro, hM, hM2, hWhi, hWto, hWtb, hWtn⟩, hWou⟩ := hP
  have hX0 : XK (fun y9 => L ≤ y9) s s.heap := hX
  have hX : XK (fun y9 => L ≤ y9) s H := by rw [hHe]; exact hX0
  have h24 := hI.M24
  have h6 := hI.R6
  refine lv_aload_n hx hb dL_moveOf_0 rfl (lv_at hl 3 rfl) ?_
  refine lv_iconst (v := nI 0) hx hb dL_moveOf_1 (by decide) ?_
  refine lv_aload_n hx hb dL_moveOf_2 rfl (lv_at hl 0 rfl) ?_
  refine lv_iload_n hx hb dL_moveOf_3 rfl (lv_at hl 1 rfl) ?_
  refine lv_iload_n hx hb dL_moveOf_4 rfl (lv_at hl 2 rfl) ?_
  refine kx_catch (own := RL) (L := L) (vx_runV (As := [.int (nI (mv)), .int (w)]) (rest := [.int (nI (0)), .ref (o)]) ⟨hx, hb, hml, hown, hts⟩ (k_X7_moveOfT2 l D cs x e g e1 g1 nx cn se sg b nn wd ln pa ft mv w hI hm hw L (by first | assumption | omega) (by first | assumption | omega)) (cwV 2 hts gL_moveOf_X7_moveOf rfl rfl rfl (by decide +kernel) ⟨Nat.le_of_ble_eq_true rfl, Nat.le_of_ble_eq_true rfl⟩) (kx_preXV hK hN hX hWro rfl ⟨hWro, hM, hM2, hWhi, hWto, hWtb, hWtn⟩) rfl rfl hl.1 rfl (lv_room (Nat.le_of_ble_eq_true rfl)) dL_moveOf_5 ⟨Nat.le_of_ble_eq_true rfl, Nat.le_of_ble_eq_true rfl⟩) hown (hX0) (by decide) (tableOf [(0, 10, 13, 13)]) ⟨0, 10, 17, 15⟩ (tableOf []) htb (fun z hz => by
    simp only [tableOf, List.map, List.mem_cons, List.not_mem_nil, or_false] at hz
    rcases hz with rfl
    · exact Or.inr ⟨by decide, "java/lang/IndexOutOfBoundsException", hts (.classLink RL 13 "java/lang/IndexOutOfBoundsException") (by decide +kernel), hY ("java/lang/IllegalArgumentException", "java/lang/IndexOutOfBoundsException") (by decide)⟩) (by decide) (by decide) (hts (.classLink RL 15 "java/lang/IllegalArgumentException") (by decide +kernel)) hS (fun q9 H1 hz hk hS => ?_)
  have hW9 := HrC.grow (x := x) ⟨hWro, hM, hM2, hWhi, hWto, hWtb, hWtn⟩ hk
  have hWou := hWou.kept (hk _ hWou.lt)
  refine lv_astore (lv' := [(4, .ref (q9)), (0, .ref (x)), (1, .int (nI (mv))), (2, .int (w)), (3, .ref (o))]) hx hb dL_moveOf_17 hl (by decide) rfl (fun ls hl => ?_)
  refine lv_iconst (v := nI 2) hx hb dL_moveOf_19 (by decide) ?_
  exact kx_iretN hx hb hrt hlk rfl ⟨hW9, hWou⟩ hS (Nat.le_of_ble_eq_true rfl) (Nat.le_of_ble_eq_true rfl) dL_moveOf_20
set_option maxHeartbeats 2500000 in
set_option maxRecDepth 100000 in
theorem k_L_hostage (l : Launch) (D : va_G) (cs : Nat → ClassId) (x : Nat) (e : Nat → Int32) (g : Nat → Int64) (e1 : Nat → Int32) (g1 : Nat → Int64) (nx cn : Nat) (se : Nat → Nat → Int32) (sg : Nat → Nat → Int64) (b nn : Nat → Int32) (wd ln pa : Nat) (ft : Int32) (mv i0 : Nat) (hI : Inv e) (hm : mv < Mn e) (hi9 : i0 < 2 ^ 31) (o : Nat) (f : Nat → Int64) (ho : x + 360 ≤ o) (L : Nat) (hL : L ≤ x) (hfl : l.stackTraces = false) : Met l yL_hostage wsL_hostage ({ frames := 3, cells := 0, slots := 0, locals := 63 } : Room) (PcY D cs L [.ref (x), .int (nI (mv)), .int (nI (i0)), .ref (o)] (fun H => HrC D cs x e g e1 g1 nx cn se sg b nn wd ln pa ft H ∧ va_at D vwCl (o, .inl (cs 5, 1, .inr (.inl f))) H)) (QcM (some (.int (nI (0)))) (fun H => HrC D cs x e g e1 g1 nx cn se sg b nn wd ln pa ft H ∧ va_at D vwCl (o, .inl (cs 5, 1, .inr (.inl (vp_updL f 0 ((hxI e mv (nI i0)).toInt64))))) H) (fun y9 => (x ≤ y9 ∧ y9 < x + 360) ∨ y9 = o)) 0 0 (fun y9 => (x ≤ y9 ∧ y9 < x + 360) ∨ y9 = o) := by
  refine kx_metY (cc := cL_hostage) (maxL := 5) (ret := (some .int)) (by decide) rfl (Nat.le_of_ble_eq_true rfl) ?_
  intro p en s m args below meth c hx hb hml hrt hts hown hlk hK hN hX hY htb hP ls hl
  have hl : lv_has ls 5 [(0, .ref (x)), (1, .int (nI (mv))), (2, .int (nI (i0))), (3, .ref (o))] := hl
  obtain ⟨H, hHe⟩ : ∃ H : Heap, H = s.heap := ⟨_, rfl⟩
  rw [← hHe] at hP ⊢
  have hS : va_S ((fun y9 => (x ≤ y9 ∧ y9 < x + 360) ∨ y9 = o)) s.heap H [] := by rw [← hHe]; exact va_S.rf
  obtain ⟨⟨hWro, hM, hM2, hWhi, hWto, hWtb, hWtn⟩, hWou⟩ := hP
  have h24 := hI.M24
  have h6 := hI.R6
  refine lv_aload_n hx hb dL_hostage_0 rfl (lv_at hl 3 rfl) ?_
  refine lv_iconst (v := nI 0) hx hb dL_hostage_1 (by decide) ?_
  refine lv_aload_n hx hb dL_hostage_2 rfl (lv_at hl 0 rfl) ?_
  refine lv_iload_n hx hb dL_hostage_3 rfl (lv_at hl 1 rfl) ?_
  refine lv_iload_n hx hb dL_hostage_4 rfl (lv_at hl 2 rfl) ?_
  refine kx_retP (va_runV (As := [.int (nI (mv)), .int (nI (i0))]) (rest := [.int (nI (0)), .ref (o)]) ⟨hx, hb, hml, hown, hts⟩ (k_X7_hostage l D cs x e g e1 g1 nx cn se sg b nn wd ln pa ft mv i0 hI hm hi9) (cwV 2 hts gL_hostage_X7_hostage rfl rfl rfl (by decide +kernel) ⟨Nat.le_of_ble_eq_true rfl, Nat.le_of_ble_eq_true rfl⟩) (kx_preV hK hN hWro rfl ⟨hWro, hM, hM2, hWhi, hWto, hWtb, hWtn⟩) rfl rfl hl.1 rfl (lv_room (Nat.le_of_ble_eq_true rfl)) dL_hostage_5 ⟨Nat.le_of_ble_eq_true rfl, Nat.le_of_ble_eq_true rfl⟩) ?_
  refine lv_i2l hx hb dL_hostage_8 rfl ?_
  refine kx_last (i := 0) hx hb hK hWou hS (Or.inr rfl) 5 rfl (by decide) (by decide) dL_hostage_9 (fun H locs hc hU hS => ?_)
  have hWhi := hWhi.off hU (by omega)
  have hWro := hWro.kept (hU.2 _ (by omega))
  have hM := hM.off hU (by omega)
  have hM2 := hM2.off hU (by omega)
  have hWtb := hWtb.kept (hU.2 _ (by omega))
  have hWtn := hWtn.kept (hU.2 _ (by omega))
  have hWto := hWto.kept (hU.2 _ (by omega))
  have hWou := hc
  clear hc hU
  refine lv_goto (tgt := 21) hx hb dL_hostage_10 (by decide) ?_
  refine lv_iconst (v := nI 0) hx hb dL_hostage_21 (by decide) ?_
  exact kx_iretM hx hb hrt hlk rfl ⟨⟨hWro, hM, hM2, hWhi, hWto, hWtb, hWtn⟩, hWou⟩ hS dL_hostage_22
set_option maxHeartbeats 2500000 in
set_option maxRecDepth 100000 in
theorem k_L_hostageT1 (l : Launch) (D : va_G) (cs : Nat → ClassId) (x : Nat) (e : Nat → Int32) (g : Nat → Int64) (e1 : Nat → Int32) (g1 : Nat → Int64) (nx cn : Nat) (se : Nat → Nat → Int32) (sg : Nat → Nat → Int64) (b nn : Nat → Int32) (wd ln pa : Nat) (ft : Int32) (y w : Int32) (hI : Inv e) (hw : lsB y (Mn e) = false) (o : Nat) (f : Nat → Int64) (ho : x + 360 ≤ o) (L : Nat) (hL : L ≤ x) (hfl : l.stackTraces = false) : Met l yL_hostage wsL_hostage ({ frames := 8, cells := 1, slots := 6, locals := 125 } : Room) (PcY D cs L [.ref (x), .int (y), .int (w), .ref (o)] (fun H => HrC D cs x e g e1 g1 nx cn se sg b nn wd ln pa ft H ∧ va_at D vwCl (o, .inl (cs 5, 1, .inr (.inl f))) H)) (QcM (some (.int (nI (1)))) (fun H => HrC D cs x e g e1 g1 nx cn se sg b nn wd ln pa ft H ∧ va_at D vwCl (o, .inl (cs 5, 1, .inr (.inl f))) H) (fun y9 => (x ≤ y9 ∧ y9 < x + 360) ∨ y9 = o)) 1 6 (fun y9 => (x ≤ y9 ∧ y9 < x + 360) ∨ y9 = o) := by
  refine kx_metY (cc := cL_hostage) (maxL := 5) (ret := (some .int)) (by decide) rfl (Nat.le_of_ble_eq_true rfl) ?_
  intro p en s m args below meth c hx hb hml hrt hts hown hlk hK hN hX hY htb hP ls hl
  have hl : lv_has ls 5 [(0, .ref (x)), (1, .int (y)), (2, .int (w)), (3, .ref (o))] := hl
  obtain ⟨H, hHe⟩ : ∃ H : Heap, H = s.heap := ⟨_, rfl⟩
  rw [← hHe] at hP ⊢
  have hS : va_S ((fun y9 => (x ≤ y9 ∧ y9 < x + 360) ∨ y9 = o)) s.heap H [] := by rw [← hHe]; exact va_S.rf
  obtain ⟨⟨hWro, hM, hM2, hWhi, hWto, hWtb, hWtn⟩, hWou⟩ := hP
  have hX0 : XK (fun y9 => L ≤ y9) s s.heap := hX
  have hX : XK (fun y9 => L ≤ y9) s H := by rw [hHe]; exact hX0
  have h24 := hI.M24
  have h6 := hI.R6
  refine lv_aload_n hx hb dL_hostage_0 rfl (lv_at hl 3 rfl) ?_
  refine lv_iconst (v := nI 0) hx hb dL_hostage_1 (by decide) ?_
  refine lv_aload_n hx hb dL_hostage_2 rfl (lv_at hl 0 rfl) ?_
  refine lv_iload_n hx hb dL_hostage_3 rfl (lv_at hl 1 rfl) ?_
  refine lv_iload_n hx hb dL_hostage_4 rfl (lv_at hl 2 rfl) ?_
  refine kx_catch (own := RL) (L := L) (vx_runV (As := [.int (y), .int (w)]) (rest := [.int (nI (0)), .ref (o)]) ⟨hx, hb, hml, hown, hts⟩ (k_X7_hostageT1 l D cs x e g e1 g1 nx cn se sg b nn wd ln pa ft y w hI hw L (by first | assumption | omega) (by first | assumption | omega)) (cwV 2 hts gL_hostage_X7_hostage rfl rfl rfl (by decide +kernel) ⟨Nat.le_of_ble_eq_true rfl, Nat.le_of_ble_eq_true rfl⟩) (kx_preXV hK hN hX hWro rfl ⟨hWro, hM, hM2, hWhi, hWto, hWtb, hWtn⟩) rfl rfl hl.1 rfl (lv_room (Nat.le_of_ble_eq_true rfl)) dL_hostage_5 ⟨Nat.le_of_ble_eq_true rfl, Nat.le_of_ble_eq_true rfl⟩) hown (hX0) (by decide) (tableOf []) ⟨0, 10, 13, 13⟩ (tableOf [(0, 10, 17, 15)]) htb (fun z hz => nomatch hz) (by decide) (by decide) (hts (.classLink RL 13 "java/lang/IndexOutOfBoundsException") (by decide +kernel)) hS (fun q9 H1 hz hk hS => ?_)
  have hW9 := HrC.grow (x := x) ⟨hWro, hM, hM2, hWhi, hWto, hWtb, hWtn⟩ hk
  have hWou := hWou.kept (hk _ hWou.lt)
  refine lv_astore (lv' := [(4, .ref (q9)), (0, .ref (x)), (1, .int (y)), (2, .int (w)), (3, .ref (o))]) hx hb dL_hostage_13 hl (by decide) rfl (fun ls hl => ?_)
  refine lv_iconst (v := nI 1) hx hb dL_hostage_15 (by decide) ?_
  exact kx_iretN hx hb hrt hlk rfl ⟨hW9, hWou⟩ hS (Nat.le_of_ble_eq_true rfl) (Nat.le_of_ble_eq_true rfl) dL_hostage_16
set_option maxHeartbeats 2500000 in
set_option maxRecDepth 100000 in
theorem k_L_hostageT2 (l : Launch) (D : va_G) (cs : Nat → ClassId) (x : Nat) (e : Nat → Int32) (g : Nat → Int64) (e1 : Nat → Int32) (g1 : Nat → Int64) (nx cn : Nat) (se : Nat → Nat → Int32) (sg : Nat → Nat → Int64) (b nn : Nat → Int32) (wd ln pa : Nat) (ft : Int32) (mv : Nat) (w : Int32) (hI : Inv e) (hm : mv < Mn e) (hw : w < 0) (o : Nat) (f : Nat → Int64) (ho : x + 360 ≤ o) (L : Nat) (hL : L ≤ x) (hfl : l.stackTraces = false) : Met l yL_hostage wsL_hostage ({ frames := 7, cells := 1, slots := 6, locals := 104 } : Room) (PcY D cs L [.ref (x), .int (nI (mv)), .int (w), .ref (o)] (fun H => HrC D cs x e g e1 g1 nx cn se sg b nn wd ln pa ft H ∧ va_at D vwCl (o, .inl (cs 5, 1, .inr (.inl f))) H)) (QcM (some (.int (nI (2)))) (fun H => HrC D cs x e g e1 g1 nx cn se sg b nn wd ln pa ft H ∧ va_at D vwCl (o, .inl (cs 5, 1, .inr (.inl f))) H) (fun y9 => (x ≤ y9 ∧ y9 < x + 360) ∨ y9 = o)) 1 6 (fun y9 => (x ≤ y9 ∧ y9 < x + 360) ∨ y9 = o) := by
  refine kx_metY (cc := cL_hostage) (maxL := 5) (ret := (some .int)) (by decide) rfl (Nat.le_of_ble_eq_true rfl) ?_
  intro p en s m args below meth c hx hb hml hrt hts hown hlk hK hN hX hY htb hP ls hl
  have hl : lv_has ls 5 [(0, .ref (x)), (1, .int (nI (mv))), (2, .int (w)), (3, .ref (o))] := hl
  obtain ⟨H, hHe⟩ : ∃ H : Heap, H = s.heap := ⟨_, rfl⟩
  rw [← hHe] at hP ⊢
  have hS : va_S ((fun y9 => (x ≤ y9 ∧ y9 < x + 360) ∨ y9 = o)) s.heap H [] := by rw [← hHe]; exact va_S.rf
  obtain ⟨⟨hWro, hM, hM2, hWhi, hWto, hWtb, hWtn⟩, hWou⟩ := hP
  have hX0 : XK (fun y9 => L ≤ y9) s s.heap := hX
  have hX : XK (fun y9 => L ≤ y9) s H := by rw [hHe]; exact hX0
  have h24 := hI.M24
  have h6 := hI.R6
  refine lv_aload_n hx hb dL_hostage_0 rfl (lv_at hl 3 rfl) ?_
  refine lv_iconst (v := nI 0) hx hb dL_hostage_1 (by decide) ?_
  refine lv_aload_n hx hb dL_hostage_2 rfl (lv_at hl 0 rfl) ?_
  refine lv_iload_n hx hb dL_hostage_3 rfl (lv_at hl 1 rfl) ?_
  refine lv_iload_n hx hb dL_hostage_4 rfl (lv_at hl 2 rfl) ?_
  refine kx_catch (own := RL) (L := L) (vx_runV (As := [.int (nI (mv)), .int (w)]) (rest := [.int (nI (0)), .ref (o)]) ⟨hx, hb, hml, hown, hts⟩ (k_X7_hostageT2 l D cs x e g e1 g1 nx cn se sg b nn wd ln pa ft mv w hI hm hw L (by first | assumption | omega) (by first | assumption | omega)) (cwV 2 hts gL_hostage_X7_hostage rfl rfl rfl (by decide +kernel) ⟨Nat.le_of_ble_eq_true rfl, Nat.le_of_ble_eq_true rfl⟩) (kx_preXV hK hN hX hWro rfl ⟨hWro, hM, hM2, hWhi, hWto, hWtb, hWtn⟩) rfl rfl hl.1 rfl (lv_room (Nat.le_of_ble_eq_true rfl)) dL_hostage_5 ⟨Nat.le_of_ble_eq_true rfl, Nat.le_of_ble_eq_true rfl⟩) hown (hX0) (by decide) (tableOf [(0, 10, 13, 13)]) ⟨0, 10, 17, 15⟩ (tableOf []) htb (fun z hz => by
    simp only [tableOf, List.map, List.mem_cons, List.not_mem_nil, or_false] at hz
    rcases hz with rfl
    · exact Or.inr ⟨by decide, "java/lang/IndexOutOfBoundsException", hts (.classLink RL 13 "java/lang/IndexOutOfBoundsException") (by decide +kernel), hY ("java/lang/IllegalArgumentException", "java/lang/IndexOutOfBoundsException") (by decide)⟩) (by decide) (by decide) (hts (.classLink RL 15 "java/lang/IllegalArgumentException") (by decide +kernel)) hS (fun q9 H1 hz hk hS => ?_)
  have hW9 := HrC.grow (x := x) ⟨hWro, hM, hM2, hWhi, hWto, hWtb, hWtn⟩ hk
  have hWou := hWou.kept (hk _ hWou.lt)
  refine lv_astore (lv' := [(4, .ref (q9)), (0, .ref (x)), (1, .int (nI (mv))), (2, .int (w)), (3, .ref (o))]) hx hb dL_hostage_17 hl (by decide) rfl (fun ls hl => ?_)
  refine lv_iconst (v := nI 2) hx hb dL_hostage_19 (by decide) ?_
  exact kx_iretN hx hb hrt hlk rfl ⟨hW9, hWou⟩ hS (Nat.le_of_ble_eq_true rfl) (Nat.le_of_ble_eq_true rfl) dL_hostage_20
set_option maxHeartbeats 2500000 in
set_option maxRecDepth 100000 in
theorem k_L_cellSetT1 (l : Launch) (D : va_G) (cs : Nat → ClassId) (x : Nat) (e : Nat → Int32) (g : Nat → Int64) (e1 : Nat → Int32) (g1 : Nat → Int64) (nx cn : Nat) (se : Nat → Nat → Int32) (sg : Nat → Nat → Int64) (b nn : Nat → Int32) (wd ln pa : Nat) (ft : Int32) (y : Int32) (w : Bool) (hI : Inv e) (hw : lsB y (Mn e) = false) (o : Nat) (f : Nat → Int64) (ho : x + 360 ≤ o) (L : Nat) (hL : L ≤ x) (hfl : l.stackTraces = false) : Met l yL_cellSet wsL_cellSet ({ frames := 8, cells := 1, slots := 6, locals := 125 } : Room) (PcY D cs L [.ref (x), .int (y), .int (bI (w)), .ref (o)] (fun H => HrC D cs x e g e1 g1 nx cn se sg b nn wd ln pa ft H ∧ va_at D vwCl (o, .inl (cs 5, 1, .inr (.inl f))) H)) (QcM (some (.int (nI (1)))) (fun H => HrC D cs x e g e1 g1 nx cn se sg b nn wd ln pa ft H ∧ va_at D vwCl (o, .inl (cs 5, 1, .inr (.inl f))) H) (fun y9 => (x ≤ y9 ∧ y9 < x + 360) ∨ y9 = o)) 1 6 (fun y9 => (x ≤ y9 ∧ y9 < x + 360) ∨ y9 = o) := by
  refine kx_metY (cc := cL_cellSet) (maxL := 5) (ret := (some .int)) (by decide) rfl (Nat.le_of_ble_eq_true rfl) ?_
  intro p en s m args below meth c hx hb hml hrt hts hown hlk hK hN hX hY htb hP ls hl
  have hl : lv_has ls 5 [(0, .ref (x)), (1, .int (y)), (2, .int (bI (w))), (3, .ref (o))] := hl
  obtain ⟨H, hHe⟩ : ∃ H : Heap, H = s.heap := ⟨_, rfl⟩
  rw [← hHe] at hP ⊢
  have hS : va_S ((fun y9 => (x ≤ y9 ∧ y9 < x + 360) ∨ y9 = o)) s.heap H [] := by rw [← hHe]; exact va_S.rf
  obtain ⟨⟨hWro, hM, hM2, hWhi, hWto, hWtb, hWtn⟩, hWou⟩ := hP
  have hX0 : XK (fun y9 => L ≤ y9) s s.heap := hX
  have hX : XK (fun y9 => L ≤ y9) s H := by rw [hHe]; exact hX0
  have h24 := hI.M24
  have h6 := hI.R6
  refine lv_aload_n hx hb dL_cellSet_0 rfl (lv_at hl 3 rfl) ?_
  refine lv_iconst (v := nI 0) hx hb dL_cellSet_1 (by decide) ?_
  refine lv_aload_n hx hb dL_cellSet_2 rfl (lv_at hl 0 rfl) ?_
  refine lv_iload_n hx hb dL_cellSet_3 rfl (lv_at hl 1 rfl) ?_
  refine lv_iload_n hx hb dL_cellSet_4 rfl (lv_at hl 2 rfl) ?_
  refine kx_catch (own := RL) (L := L) (vx_runV (As := [.int (y), .int (bI (w))]) (rest := [.int (nI (0)), .ref (o)]) ⟨hx, hb, hml, hown, hts⟩ (k_X7_cellSetT1 l D cs x e g e1 g1 nx cn se sg b nn wd ln pa ft y w hI hw L (by first | assumption | omega) (by first | assumption | omega)) (cwV 2 hts gL_cellSet_X7_cellSet rfl rfl rfl (by decide +kernel) ⟨Nat.le_of_ble_eq_true rfl, Nat.le_of_ble_eq_true rfl⟩) (kx_preXV hK hN hX hWro rfl ⟨hWro, hM, hM2, hWhi, hWto, hWtb, hWtn⟩) rfl rfl hl.1 rfl (lv_room (Nat.le_of_ble_eq_true rfl)) dL_cellSet_5 ⟨Nat.le_of_ble_eq_true rfl, Nat.le_of_ble_eq_true rfl⟩) hown (hX0) (by decide) (tableOf []) ⟨0, 9, 12, 13⟩ (tableOf []) htb (fun z hz => nomatch hz) (by decide) (by decide) (hts (.classLink RL 13 "java/lang/IndexOutOfBoundsException") (by decide +kernel)) hS (fun q9 H1 hz hk hS => ?_)
  have hW9 := HrC.grow (x := x) ⟨hWro, hM, hM2, hWhi, hWto, hWtb, hWtn⟩ hk
  have hWou := hWou.kept (hk _ hWou.lt)
  refine lv_astore (lv' := [(4, .ref (q9)), (0, .ref (x)), (1, .int (y)), (2, .int (bI (w))), (3, .ref (o))]) hx hb dL_cellSet_12 hl (by decide) rfl (fun ls hl => ?_)
  refine lv_iconst (v := nI 1) hx hb dL_cellSet_14 (by decide) ?_
  exact kx_iretN hx hb hrt hlk rfl ⟨hW9, hWou⟩ hS (Nat.le_of_ble_eq_true rfl) (Nat.le_of_ble_eq_true rfl) dL_cellSet_15
set_option maxHeartbeats 2500000 in
set_option maxRecDepth 100000 in
theorem k_L_whole (l : Launch) (D : va_G) (cs : Nat → ClassId) (x : Nat) (e : Nat → Int32) (g : Nat → Int64) (e1 : Nat → Int32) (g1 : Nat → Int64) (nx cn : Nat) (se : Nat → Nat → Int32) (sg : Nat → Nat → Int64) (b nn : Nat → Int32) (wd ln pa : Nat) (ft : Int32) (w : Nat) (hI : Inv e) (hG : Msk e g) (hw : w < 15) (o : Nat) (f : Nat → Int64) (ho : x + 360 ≤ o) (L : Nat) (hL : L ≤ x) (hfl : l.stackTraces = false) : Met l yL_whole wsL_whole ({ frames := 5, cells := 0, slots := 0, locals := 106 } : Room) (PcY D cs L [.ref (x), .int (nI (w)), .ref (o)] (fun H => HrC D cs x e g e1 g1 nx cn se sg b nn wd ln pa ft H ∧ va_at D vwCl (o, .inl (cs 5, 1, .inr (.inl f))) H)) (QcM (some (.int (nI (0)))) (fun H => HrC D cs x e g e1 g1 nx cn se sg b nn wd ln pa ft H ∧ va_at D vwCl (o, .inl (cs 5, 1, .inr (.inl (vp_updL f 0 ((if w = 14 then nI ln else wvI e w).toInt64))))) H) (fun y9 => (x ≤ y9 ∧ y9 < x + 360) ∨ y9 = o)) 0 0 (fun y9 => (x ≤ y9 ∧ y9 < x + 360) ∨ y9 = o) := by
  refine kx_metY (cc := cL_whole) (maxL := 4) (ret := (some .int)) (by decide) rfl (Nat.le_of_ble_eq_true rfl) ?_
  intro p en s m args below meth c hx hb hml hrt hts hown hlk hK hN hX hY htb hP ls hl
  have hl : lv_has ls 4 [(0, .ref (x)), (1, .int (nI (w))), (2, .ref (o))] := hl
  obtain ⟨H, hHe⟩ : ∃ H : Heap, H = s.heap := ⟨_, rfl⟩
  rw [← hHe] at hP ⊢
  have hS : va_S ((fun y9 => (x ≤ y9 ∧ y9 < x + 360) ∨ y9 = o)) s.heap H [] := by rw [← hHe]; exact va_S.rf
  obtain ⟨⟨hWro, hM, hM2, hWhi, hWto, hWtb, hWtn⟩, hWou⟩ := hP
  have h24 := hI.M24
  have h6 := hI.R6
  refine lv_aload_n hx hb dL_whole_0 rfl (lv_at hl 2 rfl) ?_
  refine lv_iconst (v := nI 0) hx hb dL_whole_1 (by decide) ?_
  refine lv_aload_n hx hb dL_whole_2 rfl (lv_at hl 0 rfl) ?_
  refine lv_iload_n hx hb dL_whole_3 rfl (lv_at hl 1 rfl) ?_
  refine kx_retP (va_runV (As := [.int (nI (w))]) (rest := [.int (nI (0)), .ref (o)]) ⟨hx, hb, hml, hown, hts⟩ (k_X7_whole l D cs x e g e1 g1 nx cn se sg b nn wd ln pa ft w hI hG hw) (cwV 1 hts gL_whole_X7_whole rfl rfl rfl (by decide +kernel) ⟨Nat.le_of_ble_eq_true rfl, Nat.le_of_ble_eq_true rfl⟩) (kx_preV hK hN hWro rfl ⟨hWro, hM, hM2, hWhi, hWto, hWtb, hWtn⟩) rfl rfl hl.1 rfl (lv_room (Nat.le_of_ble_eq_true rfl)) dL_whole_4 ⟨Nat.le_of_ble_eq_true rfl, Nat.le_of_ble_eq_true rfl⟩) ?_
  refine lv_i2l hx hb dL_whole_7 rfl ?_
  refine kx_last (i := 0) hx hb hK hWou hS (Or.inr rfl) 5 rfl (by decide) (by decide) dL_whole_8 (fun H locs hc hU hS => ?_)
  have hWhi := hWhi.off hU (by omega)
  have hWro := hWro.kept (hU.2 _ (by omega))
  have hM := hM.off hU (by omega)
  have hM2 := hM2.off hU (by omega)
  have hWtb := hWtb.kept (hU.2 _ (by omega))
  have hWtn := hWtn.kept (hU.2 _ (by omega))
  have hWto := hWto.kept (hU.2 _ (by omega))
  have hWou := hc
  clear hc hU
  refine lv_goto (tgt := 15) hx hb dL_whole_9 (by decide) ?_
  refine lv_iconst (v := nI 0) hx hb dL_whole_15 (by decide) ?_
  exact kx_iretM hx hb hrt hlk rfl ⟨⟨hWro, hM, hM2, hWhi, hWto, hWtb, hWtn⟩, hWou⟩ hS dL_whole_16
set_option maxHeartbeats 2500000 in
set_option maxRecDepth 100000 in
theorem k_L_wholeT (l : Launch) (D : va_G) (cs : Nat → ClassId) (x : Nat) (e : Nat → Int32) (g : Nat → Int64) (e1 : Nat → Int32) (g1 : Nat → Int64) (nx cn : Nat) (se : Nat → Nat → Int32) (sg : Nat → Nat → Int64) (b nn : Nat → Int32) (wd ln pa : Nat) (ft : Int32) (w : Int32) (hw : wiB w (nI 0) (nI 14) = false) (o : Nat) (f : Nat → Int64) (ho : x + 360 ≤ o) (L : Nat) (hL : L ≤ x) (hfl : l.stackTraces = false) : Met l yL_whole wsL_whole ({ frames := 8, cells := 1, slots := 6, locals := 124 } : Room) (PcY D cs L [.ref (x), .int (w), .ref (o)] (fun H => HrC D cs x e g e1 g1 nx cn se sg b nn wd ln pa ft H ∧ va_at D vwCl (o, .inl (cs 5, 1, .inr (.inl f))) H)) (QcM (some (.int (nI (1)))) (fun H => HrC D cs x e g e1 g1 nx cn se sg b nn wd ln pa ft H ∧ va_at D vwCl (o, .inl (cs 5, 1, .inr (.inl f))) H) (fun y9 => (x ≤ y9 ∧ y9 < x + 360) ∨ y9 = o)) 1 6 (fun y9 => (x ≤ y9 ∧ y9 < x + 360) ∨ y9 = o) := by
  refine kx_metY (cc := cL_whole) (maxL := 4) (ret := (some .int)) (by decide) rfl (Nat.le_of_ble_eq_true rfl) ?_
  intro p en s m args below meth c hx hb hml hrt hts hown hlk hK hN hX hY htb hP ls hl
  have hl : lv_has ls 4 [(0, .ref (x)), (1, .int (w)), (2, .ref (o))] := hl
  obtain ⟨H, hHe⟩ : ∃ H : Heap, H = s.heap := ⟨_, rfl⟩
  rw [← hHe] at hP ⊢
  have hS : va_S ((fun y9 => (x ≤ y9 ∧ y9 < x + 360) ∨ y9 = o)) s.heap H [] := by rw [← hHe]; exact va_S.rf
  obtain ⟨⟨hWro, hM, hM2, hWhi, hWto, hWtb, hWtn⟩, hWou⟩ := hP
  have hX0 : XK (fun y9 => L ≤ y9) s s.heap := hX
  have hX : XK (fun y9 => L ≤ y9) s H := by rw [hHe]; exact hX0
  refine lv_aload_n hx hb dL_whole_0 rfl (lv_at hl 2 rfl) ?_
  refine lv_iconst (v := nI 0) hx hb dL_whole_1 (by decide) ?_
  refine lv_aload_n hx hb dL_whole_2 rfl (lv_at hl 0 rfl) ?_
  refine lv_iload_n hx hb dL_whole_3 rfl (lv_at hl 1 rfl) ?_
  refine kx_catch (own := RL) (L := L) (vx_runV (As := [.int (w)]) (rest := [.int (nI (0)), .ref (o)]) ⟨hx, hb, hml, hown, hts⟩ (k_X7_wholeT l D cs x e g e1 g1 nx cn se sg b nn wd ln pa ft w hw L (by first | assumption | omega) (by first | assumption | omega)) (cwV 1 hts gL_whole_X7_whole rfl rfl rfl (by decide +kernel) ⟨Nat.le_of_ble_eq_true rfl, Nat.le_of_ble_eq_true rfl⟩) (kx_preXV hK hN hX hWro rfl ⟨hWro, hM, hM2, hWhi, hWto, hWtb, hWtn⟩) rfl rfl hl.1 rfl (lv_room (Nat.le_of_ble_eq_true rfl)) dL_whole_4 ⟨Nat.le_of_ble_eq_true rfl, Nat.le_of_ble_eq_true rfl⟩) hown (hX0) (by decide) (tableOf []) ⟨0, 9, 12, 15⟩ (tableOf []) htb (fun z hz => nomatch hz) (by decide) (by decide) (hts (.classLink RL 15 "java/lang/IllegalArgumentException") (by decide +kernel)) hS (fun q9 H1 hz hk hS => ?_)
  have hW9 := HrC.grow (x := x) ⟨hWro, hM, hM2, hWhi, hWto, hWtb, hWtn⟩ hk
  have hWou := hWou.kept (hk _ hWou.lt)
  refine lv_astore_n (lv' := [(3, .ref (q9)), (0, .ref (x)), (1, .int (w)), (2, .ref (o))]) hx hb dL_whole_12 rfl hl (by decide) rfl (fun ls hl => ?_)
  refine lv_iconst (v := nI 1) hx hb dL_whole_13 (by decide) ?_
  exact kx_iretN hx hb hrt hlk rfl ⟨hW9, hWou⟩ hS (Nat.le_of_ble_eq_true rfl) (Nat.le_of_ble_eq_true rfl) dL_whole_14
set_option maxHeartbeats 2500000 in
set_option maxRecDepth 100000 in
theorem k_L_reason (l : Launch) (D : va_G) (cs : Nat → ClassId) (x : Nat) (e : Nat → Int32) (g : Nat → Int64) (e1 : Nat → Int32) (g1 : Nat → Int64) (nx cn : Nat) (se : Nat → Nat → Int32) (sg : Nat → Nat → Int64) (b nn : Nat → Int32) (wd ln pa : Nat) (ft : Int32) (w : Nat) (hI : Inv e) (hG : Msk e g) (hw : w < 48) (o : Nat) (f : Nat → Int64) (ho : x + 360 ≤ o) (L : Nat) (hL : L ≤ x) (hfl : l.stackTraces = false) : Met l yL_reason wsL_reason ({ frames := 4, cells := 0, slots := 0, locals := 93 } : Room) (PcY D cs L [.ref (x), .int (nI (w)), .ref (o)] (fun H => HrC D cs x e g e1 g1 nx cn se sg b nn wd ln pa ft H ∧ va_at D vwCl (o, .inl (cs 5, 1, .inr (.inl f))) H)) (QcM (some (.int (nI (0)))) (fun H => HrC D cs x e g e1 g1 nx cn se sg b nn wd ln pa ft H ∧ va_at D vwCl (o, .inl (cs 5, 1, .inr (.inl (vp_updL f 0 ((nI (barN e w)).toInt64))))) H) (fun y9 => (x ≤ y9 ∧ y9 < x + 360) ∨ y9 = o)) 0 0 (fun y9 => (x ≤ y9 ∧ y9 < x + 360) ∨ y9 = o) := by
  refine kx_metY (cc := cL_reason) (maxL := 4) (ret := (some .int)) (by decide) rfl (Nat.le_of_ble_eq_true rfl) ?_
  intro p en s m args below meth c hx hb hml hrt hts hown hlk hK hN hX hY htb hP ls hl
  have hl : lv_has ls 4 [(0, .ref (x)), (1, .int (nI (w))), (2, .ref (o))] := hl
  obtain ⟨H, hHe⟩ : ∃ H : Heap, H = s.heap := ⟨_, rfl⟩
  rw [← hHe] at hP ⊢
  have hS : va_S ((fun y9 => (x ≤ y9 ∧ y9 < x + 360) ∨ y9 = o)) s.heap H [] := by rw [← hHe]; exact va_S.rf
  obtain ⟨⟨hWro, hM, hM2, hWhi, hWto, hWtb, hWtn⟩, hWou⟩ := hP
  have h24 := hI.M24
  have h6 := hI.R6
  refine lv_aload_n hx hb dL_reason_0 rfl (lv_at hl 2 rfl) ?_
  refine lv_iconst (v := nI 0) hx hb dL_reason_1 (by decide) ?_
  refine lv_aload_n hx hb dL_reason_2 rfl (lv_at hl 0 rfl) ?_
  refine lv_iload_n hx hb dL_reason_3 rfl (lv_at hl 1 rfl) ?_
  refine kx_retP (va_runV (As := [.int (nI (w))]) (rest := [.int (nI (0)), .ref (o)]) ⟨hx, hb, hml, hown, hts⟩ (k_X7_reason l D cs x e g e1 g1 nx cn se sg b nn wd ln pa ft w hI hG hw) (cwV 1 hts gL_reason_X7_reason rfl rfl rfl (by decide +kernel) ⟨Nat.le_of_ble_eq_true rfl, Nat.le_of_ble_eq_true rfl⟩) (kx_preV hK hN hWro rfl ⟨hWro, hM, hM2, hWhi, hWto, hWtb, hWtn⟩) rfl rfl hl.1 rfl (lv_room (Nat.le_of_ble_eq_true rfl)) dL_reason_4 ⟨Nat.le_of_ble_eq_true rfl, Nat.le_of_ble_eq_true rfl⟩) ?_
  refine lv_i2l hx hb dL_reason_7 rfl ?_
  refine kx_last (i := 0) hx hb hK hWou hS (Or.inr rfl) 5 rfl (by decide) (by decide) dL_reason_8 (fun H locs hc hU hS => ?_)
  have hWhi := hWhi.off hU (by omega)
  have hWro := hWro.kept (hU.2 _ (by omega))
  have hM := hM.off hU (by omega)
  have hM2 := hM2.off hU (by omega)
  have hWtb := hWtb.kept (hU.2 _ (by omega))
  have hWtn := hWtn.kept (hU.2 _ (by omega))
  have hWto := hWto.kept (hU.2 _ (by omega))
  have hWou := hc
  clear hc hU
  refine lv_goto (tgt := 15) hx hb dL_reason_9 (by decide) ?_
  refine lv_iconst (v := nI 0) hx hb dL_reason_15 (by decide) ?_
  exact kx_iretM hx hb hrt hlk rfl ⟨⟨hWro, hM, hM2, hWhi, hWto, hWtb, hWtn⟩, hWou⟩ hS dL_reason_16
set_option maxHeartbeats 2500000 in
set_option maxRecDepth 100000 in
theorem k_L_reasonT (l : Launch) (D : va_G) (cs : Nat → ClassId) (x : Nat) (e : Nat → Int32) (g : Nat → Int64) (e1 : Nat → Int32) (g1 : Nat → Int64) (nx cn : Nat) (se : Nat → Nat → Int32) (sg : Nat → Nat → Int64) (b nn : Nat → Int32) (wd ln pa : Nat) (ft : Int32) (w : Int32) (hw : wiB w (nI 0) (nI 47) = false) (o : Nat) (f : Nat → Int64) (ho : x + 360 ≤ o) (L : Nat) (hL : L ≤ x) (hfl : l.stackTraces = false) : Met l yL_reason wsL_reason ({ frames := 8, cells := 1, slots := 6, locals := 123 } : Room) (PcY D cs L [.ref (x), .int (w), .ref (o)] (fun H => HrC D cs x e g e1 g1 nx cn se sg b nn wd ln pa ft H ∧ va_at D vwCl (o, .inl (cs 5, 1, .inr (.inl f))) H)) (QcM (some (.int (nI (1)))) (fun H => HrC D cs x e g e1 g1 nx cn se sg b nn wd ln pa ft H ∧ va_at D vwCl (o, .inl (cs 5, 1, .inr (.inl f))) H) (fun y9 => (x ≤ y9 ∧ y9 < x + 360) ∨ y9 = o)) 1 6 (fun y9 => (x ≤ y9 ∧ y9 < x + 360) ∨ y9 = o) := by
  refine kx_metY (cc := cL_reason) (maxL := 4) (ret := (some .int)) (by decide) rfl (Nat.le_of_ble_eq_true rfl) ?_
  intro p en s m args below meth c hx hb hml hrt hts hown hlk hK hN hX hY htb hP ls hl
  have hl : lv_has ls 4 [(0, .ref (x)), (1, .int (w)), (2, .ref (o))] := hl
  obtain ⟨H, hHe⟩ : ∃ H : Heap, H = s.heap := ⟨_, rfl⟩
  rw [← hHe] at hP ⊢
  have hS : va_S ((fun y9 => (x ≤ y9 ∧ y9 < x + 360) ∨ y9 = o)) s.heap H [] := by rw [← hHe]; exact va_S.rf
  obtain ⟨⟨hWro, hM, hM2, hWhi, hWto, hWtb, hWtn⟩, hWou⟩ := hP
  have hX0 : XK (fun y9 => L ≤ y9) s s.heap := hX
  have hX : XK (fun y9 => L ≤ y9) s H := by rw [hHe]; exact hX0
  refine lv_aload_n hx hb dL_reason_0 rfl (lv_at hl 2 rfl) ?_
  refine lv_iconst (v := nI 0) hx hb dL_reason_1 (by decide) ?_
  refine lv_aload_n hx hb dL_reason_2 rfl (lv_at hl 0 rfl) ?_
  refine lv_iload_n hx hb dL_reason_3 rfl (lv_at hl 1 rfl) ?_
  refine kx_catch (own := RL) (L := L) (vx_runV (As := [.int (w)]) (rest := [.int (nI (0)), .ref (o)]) ⟨hx, hb, hml, hown, hts⟩ (k_X7_reasonT l D cs x e g e1 g1 nx cn se sg b nn wd ln pa ft w hw L (by first | assumption | omega) (by first | assumption | omega)) (cwV 1 hts gL_reason_X7_reason rfl rfl rfl (by decide +kernel) ⟨Nat.le_of_ble_eq_true rfl, Nat.le_of_ble_eq_true rfl⟩) (kx_preXV hK hN hX hWro rfl ⟨hWro, hM, hM2, hWhi, hWto, hWtb, hWtn⟩) rfl rfl hl.1 rfl (lv_room (Nat.le_of_ble_eq_true rfl)) dL_reason_4 ⟨Nat.le_of_ble_eq_true rfl, Nat.le_of_ble_eq_true rfl⟩) hown (hX0) (by decide) (tableOf []) ⟨0, 9, 12, 13⟩ (tableOf []) htb (fun z hz => nomatch hz) (by decide) (by decide) (hts (.classLink RL 13 "java/lang/IndexOutOfBoundsException") (by decide +kernel)) hS (fun q9 H1 hz hk hS => ?_)
  have hW9 := HrC.grow (x := x) ⟨hWro, hM, hM2, hWhi, hWto, hWtb, hWtn⟩ hk
  have hWou := hWou.kept (hk _ hWou.lt)
  refine lv_astore_n (lv' := [(3, .ref (q9)), (0, .ref (x)), (1, .int (w)), (2, .ref (o))]) hx hb dL_reason_12 rfl hl (by decide) rfl (fun ls hl => ?_)
  refine lv_iconst (v := nI 1) hx hb dL_reason_13 (by decide) ?_
  exact kx_iretN hx hb hrt hlk rfl ⟨hW9, hWou⟩ hS (Nat.le_of_ble_eq_true rfl) (Nat.le_of_ble_eq_true rfl) dL_reason_14
set_option maxHeartbeats 2500000 in
set_option maxRecDepth 100000 in
theorem k_L_waitsFor (l : Launch) (D : va_G) (cs : Nat → ClassId) (x : Nat) (e : Nat → Int32) (g : Nat → Int64) (e1 : Nat → Int32) (g1 : Nat → Int64) (nx cn : Nat) (se : Nat → Nat → Int32) (sg : Nat → Nat → Int64) (b nn : Nat → Int32) (wd ln pa : Nat) (ft : Int32) (mv : Nat) (hI : Inv e) (hG : Msk e g) (hm : mv < Mn e) (o : Nat) (f : Nat → Int64) (ho : x + 360 ≤ o) (L : Nat) (hL : L ≤ x) (hfl : l.stackTraces = false) : Met l yL_waitsFor wsL_waitsFor ({ frames := 3, cells := 0, slots := 0, locals := 66 } : Room) (PcY D cs L [.ref (x), .int (nI (mv)), .ref (o)] (fun H => HrC D cs x e g e1 g1 nx cn se sg b nn wd ln pa ft H ∧ va_at D vwCl (o, .inl (cs 5, 1, .inr (.inl f))) H)) (QcM (some (.int (nI (0)))) (fun H => HrC D cs x e g e1 g1 nx cn se sg b nn wd ln pa ft H ∧ va_at D vwCl (o, .inl (cs 5, 1, .inr (.inl (vp_updL f 0 ((nI (woN e mv)).toInt64))))) H) (fun y9 => (x ≤ y9 ∧ y9 < x + 360) ∨ y9 = o)) 0 0 (fun y9 => (x ≤ y9 ∧ y9 < x + 360) ∨ y9 = o) := by
  refine kx_metY (cc := cL_waitsFor) (maxL := 4) (ret := (some .int)) (by decide) rfl (Nat.le_of_ble_eq_true rfl) ?_
  intro p en s m args below meth c hx hb hml hrt hts hown hlk hK hN hX hY htb hP ls hl
  have hl : lv_has ls 4 [(0, .ref (x)), (1, .int (nI (mv))), (2, .ref (o))] := hl
  obtain ⟨H, hHe⟩ : ∃ H : Heap, H = s.heap := ⟨_, rfl⟩
  rw [← hHe] at hP ⊢
  have hS : va_S ((fun y9 => (x ≤ y9 ∧ y9 < x + 360) ∨ y9 = o)) s.heap H [] := by rw [← hHe]; exact va_S.rf
  obtain ⟨⟨hWro, hM, hM2, hWhi, hWto, hWtb, hWtn⟩, hWou⟩ := hP
  have h24 := hI.M24
  have h6 := hI.R6
  refine lv_aload_n hx hb dL_waitsFor_0 rfl (lv_at hl 2 rfl) ?_
  refine lv_iconst (v := nI 0) hx hb dL_waitsFor_1 (by decide) ?_
  refine lv_aload_n hx hb dL_waitsFor_2 rfl (lv_at hl 0 rfl) ?_
  refine lv_iload_n hx hb dL_waitsFor_3 rfl (lv_at hl 1 rfl) ?_
  refine kx_retP (va_runV (As := [.int (nI (mv))]) (rest := [.int (nI (0)), .ref (o)]) ⟨hx, hb, hml, hown, hts⟩ (k_X7_waitsFor l D cs x e g e1 g1 nx cn se sg b nn wd ln pa ft mv hI hG hm) (cwV 1 hts gL_waitsFor_X7_waitsFor rfl rfl rfl (by decide +kernel) ⟨Nat.le_of_ble_eq_true rfl, Nat.le_of_ble_eq_true rfl⟩) (kx_preV hK hN hWro rfl ⟨hWro, hM, hM2, hWhi, hWto, hWtb, hWtn⟩) rfl rfl hl.1 rfl (lv_room (Nat.le_of_ble_eq_true rfl)) dL_waitsFor_4 ⟨Nat.le_of_ble_eq_true rfl, Nat.le_of_ble_eq_true rfl⟩) ?_
  refine lv_i2l hx hb dL_waitsFor_7 rfl ?_
  refine kx_last (i := 0) hx hb hK hWou hS (Or.inr rfl) 5 rfl (by decide) (by decide) dL_waitsFor_8 (fun H locs hc hU hS => ?_)
  have hWhi := hWhi.off hU (by omega)
  have hWro := hWro.kept (hU.2 _ (by omega))
  have hM := hM.off hU (by omega)
  have hM2 := hM2.off hU (by omega)
  have hWtb := hWtb.kept (hU.2 _ (by omega))
  have hWtn := hWtn.kept (hU.2 _ (by omega))
  have hWto := hWto.kept (hU.2 _ (by omega))
  have hWou := hc
  clear hc hU
  refine lv_goto (tgt := 15) hx hb dL_waitsFor_9 (by decide) ?_
  refine lv_iconst (v := nI 0) hx hb dL_waitsFor_15 (by decide) ?_
  exact kx_iretM hx hb hrt hlk rfl ⟨⟨hWro, hM, hM2, hWhi, hWto, hWtb, hWtn⟩, hWou⟩ hS dL_waitsFor_16
set_option maxHeartbeats 2500000 in
set_option maxRecDepth 100000 in
theorem k_L_waitsForT1 (l : Launch) (D : va_G) (cs : Nat → ClassId) (x : Nat) (e : Nat → Int32) (g : Nat → Int64) (e1 : Nat → Int32) (g1 : Nat → Int64) (nx cn : Nat) (se : Nat → Nat → Int32) (sg : Nat → Nat → Int64) (b nn : Nat → Int32) (wd ln pa : Nat) (ft : Int32) (y : Int32) (hI : Inv e) (hw : lsB y (Mn e) = false) (o : Nat) (f : Nat → Int64) (ho : x + 360 ≤ o) (L : Nat) (hL : L ≤ x) (hfl : l.stackTraces = false) : Met l yL_waitsFor wsL_waitsFor ({ frames := 8, cells := 1, slots := 6, locals := 124 } : Room) (PcY D cs L [.ref (x), .int (y), .ref (o)] (fun H => HrC D cs x e g e1 g1 nx cn se sg b nn wd ln pa ft H ∧ va_at D vwCl (o, .inl (cs 5, 1, .inr (.inl f))) H)) (QcM (some (.int (nI (1)))) (fun H => HrC D cs x e g e1 g1 nx cn se sg b nn wd ln pa ft H ∧ va_at D vwCl (o, .inl (cs 5, 1, .inr (.inl f))) H) (fun y9 => (x ≤ y9 ∧ y9 < x + 360) ∨ y9 = o)) 1 6 (fun y9 => (x ≤ y9 ∧ y9 < x + 360) ∨ y9 = o) := by
  refine kx_metY (cc := cL_waitsFor) (maxL := 4) (ret := (some .int)) (by decide) rfl (Nat.le_of_ble_eq_true rfl) ?_
  intro p en s m args below meth c hx hb hml hrt hts hown hlk hK hN hX hY htb hP ls hl
  have hl : lv_has ls 4 [(0, .ref (x)), (1, .int (y)), (2, .ref (o))] := hl
  obtain ⟨H, hHe⟩ : ∃ H : Heap, H = s.heap := ⟨_, rfl⟩
  rw [← hHe] at hP ⊢
  have hS : va_S ((fun y9 => (x ≤ y9 ∧ y9 < x + 360) ∨ y9 = o)) s.heap H [] := by rw [← hHe]; exact va_S.rf
  obtain ⟨⟨hWro, hM, hM2, hWhi, hWto, hWtb, hWtn⟩, hWou⟩ := hP
  have hX0 : XK (fun y9 => L ≤ y9) s s.heap := hX
  have hX : XK (fun y9 => L ≤ y9) s H := by rw [hHe]; exact hX0
  have h24 := hI.M24
  have h6 := hI.R6
  refine lv_aload_n hx hb dL_waitsFor_0 rfl (lv_at hl 2 rfl) ?_
  refine lv_iconst (v := nI 0) hx hb dL_waitsFor_1 (by decide) ?_
  refine lv_aload_n hx hb dL_waitsFor_2 rfl (lv_at hl 0 rfl) ?_
  refine lv_iload_n hx hb dL_waitsFor_3 rfl (lv_at hl 1 rfl) ?_
  refine kx_catch (own := RL) (L := L) (vx_runV (As := [.int (y)]) (rest := [.int (nI (0)), .ref (o)]) ⟨hx, hb, hml, hown, hts⟩ (k_X7_waitsForT1 l D cs x e g e1 g1 nx cn se sg b nn wd ln pa ft y hI hw L (by first | assumption | omega) (by first | assumption | omega)) (cwV 1 hts gL_waitsFor_X7_waitsFor rfl rfl rfl (by decide +kernel) ⟨Nat.le_of_ble_eq_true rfl, Nat.le_of_ble_eq_true rfl⟩) (kx_preXV hK hN hX hWro rfl ⟨hWro, hM, hM2, hWhi, hWto, hWtb, hWtn⟩) rfl rfl hl.1 rfl (lv_room (Nat.le_of_ble_eq_true rfl)) dL_waitsFor_4 ⟨Nat.le_of_ble_eq_true rfl, Nat.le_of_ble_eq_true rfl⟩) hown (hX0) (by decide) (tableOf []) ⟨0, 9, 12, 13⟩ (tableOf []) htb (fun z hz => nomatch hz) (by decide) (by decide) (hts (.classLink RL 13 "java/lang/IndexOutOfBoundsException") (by decide +kernel)) hS (fun q9 H1 hz hk hS => ?_)
  have hW9 := HrC.grow (x := x) ⟨hWro, hM, hM2, hWhi, hWto, hWtb, hWtn⟩ hk
  have hWou := hWou.kept (hk _ hWou.lt)
  refine lv_astore_n (lv' := [(3, .ref (q9)), (0, .ref (x)), (1, .int (y)), (2, .ref (o))]) hx hb dL_waitsFor_12 rfl hl (by decide) rfl (fun ls hl => ?_)
  refine lv_iconst (v := nI 1) hx hb dL_waitsFor_13 (by decide) ?_
  exact kx_iretN hx hb hrt hlk rfl ⟨hW9, hWou⟩ hS (Nat.le_of_ble_eq_true rfl) (Nat.le_of_ble_eq_true rfl) dL_waitsFor_14
set_option maxHeartbeats 2500000 in
set_option maxRecDepth 100000 in
theorem k_L_depth (l : Launch) (D : va_G) (cs : Nat → ClassId) (x : Nat) (e : Nat → Int32) (g : Nat → Int64) (e1 : Nat → Int32) (g1 : Nat → Int64) (nx cn : Nat) (se : Nat → Nat → Int32) (sg : Nat → Nat → Int64) (b nn : Nat → Int32) (wd ln pa : Nat) (ft : Int32) (mv : Nat) (hI : Inv e) (hG : Msk e g) (hm : mv < Mn e) (o : Nat) (f : Nat → Int64) (ho : x + 360 ≤ o) (L : Nat) (hL : L ≤ x) (hfl : l.stackTraces = false) : Met l yL_depth wsL_depth ({ frames := 4, cells := 0, slots := 0, locals := 91 } : Room) (PcY D cs L [.ref (x), .int (nI (mv)), .ref (o)] (fun H => HrC D cs x e g e1 g1 nx cn se sg b nn wd ln pa ft H ∧ va_at D vwCl (o, .inl (cs 5, 1, .inr (.inl f))) H)) (QcM (some (.int (nI (0)))) (fun H => HrC D cs x ((dcK e (mv + 1))) g e1 g1 nx cn se sg b nn wd ln pa ft H ∧ va_at D vwCl (o, .inl (cs 5, 1, .inr (.inl (vp_updL f 0 ((nI (dpN e mv)).toInt64))))) H) (fun y9 => (x ≤ y9 ∧ y9 < x + 360) ∨ y9 = o)) 0 0 (fun y9 => (x ≤ y9 ∧ y9 < x + 360) ∨ y9 = o) := by
  refine kx_metY (cc := cL_depth) (maxL := 4) (ret := (some .int)) (by decide) rfl (Nat.le_of_ble_eq_true rfl) ?_
  intro p en s m args below meth c hx hb hml hrt hts hown hlk hK hN hX hY htb hP ls hl
  have hl : lv_has ls 4 [(0, .ref (x)), (1, .int (nI (mv))), (2, .ref (o))] := hl
  obtain ⟨H, hHe⟩ : ∃ H : Heap, H = s.heap := ⟨_, rfl⟩
  rw [← hHe] at hP ⊢
  have hS : va_S ((fun y9 => (x ≤ y9 ∧ y9 < x + 360) ∨ y9 = o)) s.heap H [] := by rw [← hHe]; exact va_S.rf
  obtain ⟨⟨hWro, hM, hM2, hWhi, hWto, hWtb, hWtn⟩, hWou⟩ := hP
  have h24 := hI.M24
  have h6 := hI.R6
  refine lv_aload_n hx hb dL_depth_0 rfl (lv_at hl 2 rfl) ?_
  refine lv_iconst (v := nI 0) hx hb dL_depth_1 (by decide) ?_
  refine lv_aload_n hx hb dL_depth_2 rfl (lv_at hl 0 rfl) ?_
  refine lv_iload_n hx hb dL_depth_3 rfl (lv_at hl 1 rfl) ?_
  refine kx_retM (va_runV (As := [.int (nI (mv))]) (rest := [.int (nI (0)), .ref (o)]) ⟨hx, hb, hml, hown, hts⟩ (k_X7_depth l D cs x e g e1 g1 nx cn se sg b nn wd ln pa ft mv hI hG hm) (cwV 1 hts gL_depth_X7_depth rfl rfl rfl (by decide +kernel) ⟨Nat.le_of_ble_eq_true rfl, Nat.le_of_ble_eq_true rfl⟩) (kx_preV hK hN hWro rfl ⟨hWro, hM, hM2, hWhi, hWto, hWtb, hWtn⟩) rfl rfl hl.1 rfl (lv_room (Nat.le_of_ble_eq_true rfl)) dL_depth_4 ⟨Nat.le_of_ble_eq_true rfl, Nat.le_of_ble_eq_true rfl⟩) hS (fun x _ h => (Or.inl h)) (fun x h => (Or.inl h)) (fun H locs hMN hk hS => ?_)
  have hWou := hWou.kept (hk.2 _ hWou.lt (fun h => by have h3 := h.1; have h4 := h.2; omega))
  obtain ⟨hWro, hM, hM2, hWhi, hWto, hWtb, hWtn⟩ := hMN
  clear hk
  refine lv_i2l hx hb dL_depth_7 rfl ?_
  refine kx_last (i := 0) hx hb hK hWou hS (Or.inr rfl) 5 rfl (by decide) (by decide) dL_depth_8 (fun H locs hc hU hS => ?_)
  have hWhi := hWhi.off hU (by omega)
  have hWro := hWro.kept (hU.2 _ (by omega))
  have hM := hM.off hU (by omega)
  have hM2 := hM2.off hU (by omega)
  have hWtb := hWtb.kept (hU.2 _ (by omega))
  have hWtn := hWtn.kept (hU.2 _ (by omega))
  have hWto := hWto.kept (hU.2 _ (by omega))
  have hWou := hc
  clear hc hU
  refine lv_goto (tgt := 15) hx hb dL_depth_9 (by decide) ?_
  refine lv_iconst (v := nI 0) hx hb dL_depth_15 (by decide) ?_
  exact kx_iretM hx hb hrt hlk rfl ⟨⟨hWro, hM, hM2, hWhi, hWto, hWtb, hWtn⟩, hWou⟩ hS dL_depth_16
set_option maxHeartbeats 2500000 in
set_option maxRecDepth 100000 in
theorem k_L_depthT1 (l : Launch) (D : va_G) (cs : Nat → ClassId) (x : Nat) (e : Nat → Int32) (g : Nat → Int64) (e1 : Nat → Int32) (g1 : Nat → Int64) (nx cn : Nat) (se : Nat → Nat → Int32) (sg : Nat → Nat → Int64) (b nn : Nat → Int32) (wd ln pa : Nat) (ft : Int32) (y : Int32) (hI : Inv e) (hw : lsB y (Mn e) = false) (o : Nat) (f : Nat → Int64) (ho : x + 360 ≤ o) (L : Nat) (hL : L ≤ x) (hfl : l.stackTraces = false) : Met l yL_depth wsL_depth ({ frames := 8, cells := 1, slots := 6, locals := 124 } : Room) (PcY D cs L [.ref (x), .int (y), .ref (o)] (fun H => HrC D cs x e g e1 g1 nx cn se sg b nn wd ln pa ft H ∧ va_at D vwCl (o, .inl (cs 5, 1, .inr (.inl f))) H)) (QcM (some (.int (nI (1)))) (fun H => HrC D cs x e g e1 g1 nx cn se sg b nn wd ln pa ft H ∧ va_at D vwCl (o, .inl (cs 5, 1, .inr (.inl f))) H) (fun y9 => (x ≤ y9 ∧ y9 < x + 360) ∨ y9 = o)) 1 6 (fun y9 => (x ≤ y9 ∧ y9 < x + 360) ∨ y9 = o) := by
  refine kx_metY (cc := cL_depth) (maxL := 4) (ret := (some .int)) (by decide) rfl (Nat.le_of_ble_eq_true rfl) ?_
  intro p en s m args below meth c hx hb hml hrt hts hown hlk hK hN hX hY htb hP ls hl
  have hl : lv_has ls 4 [(0, .ref (x)), (1, .int (y)), (2, .ref (o))] := hl
  obtain ⟨H, hHe⟩ : ∃ H : Heap, H = s.heap := ⟨_, rfl⟩
  rw [← hHe] at hP ⊢
  have hS : va_S ((fun y9 => (x ≤ y9 ∧ y9 < x + 360) ∨ y9 = o)) s.heap H [] := by rw [← hHe]; exact va_S.rf
  obtain ⟨⟨hWro, hM, hM2, hWhi, hWto, hWtb, hWtn⟩, hWou⟩ := hP
  have hX0 : XK (fun y9 => L ≤ y9) s s.heap := hX
  have hX : XK (fun y9 => L ≤ y9) s H := by rw [hHe]; exact hX0
  have h24 := hI.M24
  have h6 := hI.R6
  refine lv_aload_n hx hb dL_depth_0 rfl (lv_at hl 2 rfl) ?_
  refine lv_iconst (v := nI 0) hx hb dL_depth_1 (by decide) ?_
  refine lv_aload_n hx hb dL_depth_2 rfl (lv_at hl 0 rfl) ?_
  refine lv_iload_n hx hb dL_depth_3 rfl (lv_at hl 1 rfl) ?_
  refine kx_catch (own := RL) (L := L) (vx_runV (As := [.int (y)]) (rest := [.int (nI (0)), .ref (o)]) ⟨hx, hb, hml, hown, hts⟩ (k_X7_depthT1 l D cs x e g e1 g1 nx cn se sg b nn wd ln pa ft y hI hw L (by first | assumption | omega) (by first | assumption | omega)) (cwV 1 hts gL_depth_X7_depth rfl rfl rfl (by decide +kernel) ⟨Nat.le_of_ble_eq_true rfl, Nat.le_of_ble_eq_true rfl⟩) (kx_preXV hK hN hX hWro rfl ⟨hWro, hM, hM2, hWhi, hWto, hWtb, hWtn⟩) rfl rfl hl.1 rfl (lv_room (Nat.le_of_ble_eq_true rfl)) dL_depth_4 ⟨Nat.le_of_ble_eq_true rfl, Nat.le_of_ble_eq_true rfl⟩) hown (hX0) (by decide) (tableOf []) ⟨0, 9, 12, 13⟩ (tableOf []) htb (fun z hz => nomatch hz) (by decide) (by decide) (hts (.classLink RL 13 "java/lang/IndexOutOfBoundsException") (by decide +kernel)) hS (fun q9 H1 hz hk hS => ?_)
  have hW9 := HrC.grow (x := x) ⟨hWro, hM, hM2, hWhi, hWto, hWtb, hWtn⟩ hk
  have hWou := hWou.kept (hk _ hWou.lt)
  refine lv_astore_n (lv' := [(3, .ref (q9)), (0, .ref (x)), (1, .int (y)), (2, .ref (o))]) hx hb dL_depth_12 rfl hl (by decide) rfl (fun ls hl => ?_)
  refine lv_iconst (v := nI 1) hx hb dL_depth_13 (by decide) ?_
  exact kx_iretN hx hb hrt hlk rfl ⟨hW9, hWou⟩ hS (Nat.le_of_ble_eq_true rfl) (Nat.le_of_ble_eq_true rfl) dL_depth_14
set_option maxHeartbeats 2500000 in
set_option maxRecDepth 100000 in
theorem k_L_finalValue (l : Launch) (D : va_G) (cs : Nat → ClassId) (x : Nat) (e : Nat → Int32) (g : Nat → Int64) (e1 : Nat → Int32) (g1 : Nat → Int64) (nx cn : Nat) (se : Nat → Nat → Int32) (sg : Nat → Nat → Int64) (b nn : Nat → Int32) (wd ln pa : Nat) (ft : Int32) (w : Nat) (hI : Inv e) (hw : w < 48) (o : Nat) (f : Nat → Int64) (ho : x + 360 ≤ o) (L : Nat) (hL : L ≤ x) (hfl : l.stackTraces = false) : Met l yL_finalValue wsL_finalValue ({ frames := 5, cells := 0, slots := 0, locals := 132 } : Room) (PcY D cs L [.ref (x), .int (nI (w)), .ref (o)] (fun H => HrC D cs x e g e1 g1 nx cn se sg b nn wd ln pa ft H ∧ va_at D vwCl (o, .inl (cs 5, 1, .inr (.inl f))) H)) (QcM (some (.int (nI (0)))) (fun H => HrC D cs x e g ((fnF (cfF e1 e))) ((cgM g1 g (Mn e))) nx cn se sg b nn wd ln pa ft H ∧ va_at D vwCl (o, .inl (cs 5, 1, .inr (.inl (vp_updL f 0 ((fnF (cfF e1 e) (8 + w)).toInt64))))) H) (fun y9 => (x ≤ y9 ∧ y9 < x + 360) ∨ y9 = o)) 0 0 (fun y9 => (x ≤ y9 ∧ y9 < x + 360) ∨ y9 = o) := by
  refine kx_metY (cc := cL_finalValue) (maxL := 4) (ret := (some .int)) (by decide) rfl (Nat.le_of_ble_eq_true rfl) ?_
  intro p en s m args below meth c hx hb hml hrt hts hown hlk hK hN hX hY htb hP ls hl
  have hl : lv_has ls 4 [(0, .ref (x)), (1, .int (nI (w))), (2, .ref (o))] := hl
  obtain ⟨H, hHe⟩ : ∃ H : Heap, H = s.heap := ⟨_, rfl⟩
  rw [← hHe] at hP ⊢
  have hS : va_S ((fun y9 => (x ≤ y9 ∧ y9 < x + 360) ∨ y9 = o)) s.heap H [] := by rw [← hHe]; exact va_S.rf
  obtain ⟨⟨hWro, hM, hM2, hWhi, hWto, hWtb, hWtn⟩, hWou⟩ := hP
  have h24 := hI.M24
  have h6 := hI.R6
  refine lv_aload_n hx hb dL_finalValue_0 rfl (lv_at hl 2 rfl) ?_
  refine lv_iconst (v := nI 0) hx hb dL_finalValue_1 (by decide) ?_
  refine lv_aload_n hx hb dL_finalValue_2 rfl (lv_at hl 0 rfl) ?_
  refine lv_iload_n hx hb dL_finalValue_3 rfl (lv_at hl 1 rfl) ?_
  refine kx_retM (va_runV (As := [.int (nI (w))]) (rest := [.int (nI (0)), .ref (o)]) ⟨hx, hb, hml, hown, hts⟩ (k_X7_finalValue l D cs x e g e1 g1 nx cn se sg b nn wd ln pa ft w hI hw) (cwV 1 hts gL_finalValue_X7_finalValue rfl rfl rfl (by decide +kernel) ⟨Nat.le_of_ble_eq_true rfl, Nat.le_of_ble_eq_true rfl⟩) (kx_preV hK hN hWro rfl ⟨hWro, hM, hM2, hWhi, hWto, hWtb, hWtn⟩) rfl rfl hl.1 rfl (lv_room (Nat.le_of_ble_eq_true rfl)) dL_finalValue_4 ⟨Nat.le_of_ble_eq_true rfl, Nat.le_of_ble_eq_true rfl⟩) hS (fun x _ h => (Or.inl h)) (fun x h => (Or.inl h)) (fun H locs hMN hk hS => ?_)
  have hWou := hWou.kept (hk.2 _ hWou.lt (fun h => by have h3 := h.1; have h4 := h.2; omega))
  obtain ⟨hWro, hM, hM2, hWhi, hWto, hWtb, hWtn⟩ := hMN
  clear hk
  refine lv_i2l hx hb dL_finalValue_7 rfl ?_
  refine kx_last (i := 0) hx hb hK hWou hS (Or.inr rfl) 5 rfl (by decide) (by decide) dL_finalValue_8 (fun H locs hc hU hS => ?_)
  have hWhi := hWhi.off hU (by omega)
  have hWro := hWro.kept (hU.2 _ (by omega))
  have hM := hM.off hU (by omega)
  have hM2 := hM2.off hU (by omega)
  have hWtb := hWtb.kept (hU.2 _ (by omega))
  have hWtn := hWtn.kept (hU.2 _ (by omega))
  have hWto := hWto.kept (hU.2 _ (by omega))
  have hWou := hc
  clear hc hU
  refine lv_goto (tgt := 15) hx hb dL_finalValue_9 (by decide) ?_
  refine lv_iconst (v := nI 0) hx hb dL_finalValue_15 (by decide) ?_
  exact kx_iretM hx hb hrt hlk rfl ⟨⟨hWro, hM, hM2, hWhi, hWto, hWtb, hWtn⟩, hWou⟩ hS dL_finalValue_16
set_option maxHeartbeats 2500000 in
set_option maxRecDepth 100000 in
theorem k_L_finalValueT (l : Launch) (D : va_G) (cs : Nat → ClassId) (x : Nat) (e : Nat → Int32) (g : Nat → Int64) (e1 : Nat → Int32) (g1 : Nat → Int64) (nx cn : Nat) (se : Nat → Nat → Int32) (sg : Nat → Nat → Int64) (b nn : Nat → Int32) (wd ln pa : Nat) (ft : Int32) (w : Int32) (hw : wiB w (nI 0) (nI 47) = false) (o : Nat) (f : Nat → Int64) (ho : x + 360 ≤ o) (L : Nat) (hL : L ≤ x) (hfl : l.stackTraces = false) : Met l yL_finalValue wsL_finalValue ({ frames := 8, cells := 1, slots := 6, locals := 132 } : Room) (PcY D cs L [.ref (x), .int (w), .ref (o)] (fun H => HrC D cs x e g e1 g1 nx cn se sg b nn wd ln pa ft H ∧ va_at D vwCl (o, .inl (cs 5, 1, .inr (.inl f))) H)) (QcM (some (.int (nI (1)))) (fun H => HrC D cs x e g e1 g1 nx cn se sg b nn wd ln pa ft H ∧ va_at D vwCl (o, .inl (cs 5, 1, .inr (.inl f))) H) (fun y9 => (x ≤ y9 ∧ y9 < x + 360) ∨ y9 = o)) 1 6 (fun y9 => (x ≤ y9 ∧ y9 < x + 360) ∨ y9 = o) := by
  refine kx_metY (cc := cL_finalValue) (maxL := 4) (ret := (some .int)) (by decide) rfl (Nat.le_of_ble_eq_true rfl) ?_
  intro p en s m args below meth c hx hb hml hrt hts hown hlk hK hN hX hY htb hP ls hl
  have hl : lv_has ls 4 [(0, .ref (x)), (1, .int (w)), (2, .ref (o))] := hl
  obtain ⟨H, hHe⟩ : ∃ H : Heap, H = s.heap := ⟨_, rfl⟩
  rw [← hHe] at hP ⊢
  have hS : va_S ((fun y9 => (x ≤ y9 ∧ y9 < x + 360) ∨ y9 = o)) s.heap H [] := by rw [← hHe]; exact va_S.rf
  obtain ⟨⟨hWro, hM, hM2, hWhi, hWto, hWtb, hWtn⟩, hWou⟩ := hP
  have hX0 : XK (fun y9 => L ≤ y9) s s.heap := hX
  have hX : XK (fun y9 => L ≤ y9) s H := by rw [hHe]; exact hX0
  refine lv_aload_n hx hb dL_finalValue_0 rfl (lv_at hl 2 rfl) ?_
  refine lv_iconst (v := nI 0) hx hb dL_finalValue_1 (by decide) ?_
  refine lv_aload_n hx hb dL_finalValue_2 rfl (lv_at hl 0 rfl) ?_
  refine lv_iload_n hx hb dL_finalValue_3 rfl (lv_at hl 1 rfl) ?_
  refine kx_catch (own := RL) (L := L) (vx_runV (As := [.int (w)]) (rest := [.int (nI (0)), .ref (o)]) ⟨hx, hb, hml, hown, hts⟩ (k_X7_finalValueT l D cs x e g e1 g1 nx cn se sg b nn wd ln pa ft w hw L (by first | assumption | omega) (by first | assumption | omega)) (cwV 1 hts gL_finalValue_X7_finalValue rfl rfl rfl (by decide +kernel) ⟨Nat.le_of_ble_eq_true rfl, Nat.le_of_ble_eq_true rfl⟩) (kx_preXV hK hN hX hWro rfl ⟨hWro, hM, hM2, hWhi, hWto, hWtb, hWtn⟩) rfl rfl hl.1 rfl (lv_room (Nat.le_of_ble_eq_true rfl)) dL_finalValue_4 ⟨Nat.le_of_ble_eq_true rfl, Nat.le_of_ble_eq_true rfl⟩) hown (hX0) (by decide) (tableOf []) ⟨0, 9, 12, 13⟩ (tableOf []) htb (fun z hz => nomatch hz) (by decide) (by decide) (hts (.classLink RL 13 "java/lang/IndexOutOfBoundsException") (by decide +kernel)) hS (fun q9 H1 hz hk hS => ?_)
  have hW9 := HrC.grow (x := x) ⟨hWro, hM, hM2, hWhi, hWto, hWtb, hWtn⟩ hk
  have hWou := hWou.kept (hk _ hWou.lt)
  refine lv_astore_n (lv' := [(3, .ref (q9)), (0, .ref (x)), (1, .int (w)), (2, .ref (o))]) hx hb dL_finalValue_12 rfl hl (by decide) rfl (fun ls hl => ?_)
  refine lv_iconst (v := nI 1) hx hb dL_finalValue_13 (by decide) ?_
  exact kx_iretN hx hb hrt hlk rfl ⟨hW9, hWou⟩ hS (Nat.le_of_ble_eq_true rfl) (Nat.le_of_ble_eq_true rfl) dL_finalValue_14
set_option maxHeartbeats 2500000 in
set_option maxRecDepth 100000 in
theorem k_L_copiedIn (l : Launch) (D : va_G) (cs : Nat → ClassId) (x : Nat) (e : Nat → Int32) (g : Nat → Int64) (e1 : Nat → Int32) (g1 : Nat → Int64) (nx cn : Nat) (se : Nat → Nat → Int32) (sg : Nat → Nat → Int64) (b nn : Nat → Int32) (wd ln pa : Nat) (ft : Int32) (mv : Nat) (hI : Inv e) (hG : Msk e g) (hm : mv < Mn e) (o : Nat) (f : Nat → Int64) (ho : x + 360 ≤ o) (L : Nat) (hL : L ≤ x) (hfl : l.stackTraces = false) : Met l yL_copiedIn wsL_copiedIn ({ frames := 5, cells := 0, slots := 0, locals := 113 } : Room) (PcY D cs L [.ref (x), .int (nI (mv)), .ref (o)] (fun H => HrC D cs x e g e1 g1 nx cn se sg b nn wd ln pa ft H ∧ va_at D vwCl (o, .inl (cs 5, 1, .inr (.inl f))) H)) (QcM (some (.int (nI (0)))) (fun H => ∃ e1' : Nat → Int32, ∃ g1' : Nat → Int64, HrC D cs x e g e1' g1' nx cn se sg b nn wd ln pa ft H ∧ va_at D vwCl (o, .inl (cs 5, 1, .inr (.inl (vp_updL f 0 ((ctI (cfF e1 e) mv).toInt64))))) H) (fun y9 => (x ≤ y9 ∧ y9 < x + 360) ∨ y9 = o)) 0 0 (fun y9 => (x ≤ y9 ∧ y9 < x + 360) ∨ y9 = o) := by
  refine kx_metY (cc := cL_copiedIn) (maxL := 4) (ret := (some .int)) (by decide) rfl (Nat.le_of_ble_eq_true rfl) ?_
  intro p en s m args below meth c hx hb hml hrt hts hown hlk hK hN hX hY htb hP ls hl
  have hl : lv_has ls 4 [(0, .ref (x)), (1, .int (nI (mv))), (2, .ref (o))] := hl
  obtain ⟨H, hHe⟩ : ∃ H : Heap, H = s.heap := ⟨_, rfl⟩
  rw [← hHe] at hP ⊢
  have hS : va_S ((fun y9 => (x ≤ y9 ∧ y9 < x + 360) ∨ y9 = o)) s.heap H [] := by rw [← hHe]; exact va_S.rf
  obtain ⟨⟨hWro, hM, hM2, hWhi, hWto, hWtb, hWtn⟩, hWou⟩ := hP
  have h24 := hI.M24
  have h6 := hI.R6
  refine lv_aload_n hx hb dL_copiedIn_0 rfl (lv_at hl 2 rfl) ?_
  refine lv_iconst (v := nI 0) hx hb dL_copiedIn_1 (by decide) ?_
  refine lv_aload_n hx hb dL_copiedIn_2 rfl (lv_at hl 0 rfl) ?_
  refine lv_iload_n hx hb dL_copiedIn_3 rfl (lv_at hl 1 rfl) ?_
  refine kx_retM (va_runV (As := [.int (nI (mv))]) (rest := [.int (nI (0)), .ref (o)]) ⟨hx, hb, hml, hown, hts⟩ (k_X7_copiedIn l D cs x e g e1 g1 nx cn se sg b nn wd ln pa ft mv hI hG hm) (cwV 1 hts gL_copiedIn_X7_copiedIn rfl rfl rfl (by decide +kernel) ⟨Nat.le_of_ble_eq_true rfl, Nat.le_of_ble_eq_true rfl⟩) (kx_preV hK hN hWro rfl ⟨hWro, hM, hM2, hWhi, hWto, hWtb, hWtn⟩) rfl rfl hl.1 rfl (lv_room (Nat.le_of_ble_eq_true rfl)) dL_copiedIn_4 ⟨Nat.le_of_ble_eq_true rfl, Nat.le_of_ble_eq_true rfl⟩) hS (fun x _ h => (Or.inl h)) (fun x h => (Or.inl h)) (fun H locs hMN hk hS => ?_)
  have hWou := hWou.kept (hk.2 _ hWou.lt (fun h => by have h3 := h.1; have h4 := h.2; omega))
  obtain ⟨e1', g1', hWro, hM, hM2, hWhi, hWto, hWtb, hWtn⟩ := hMN
  clear hk
  refine lv_i2l hx hb dL_copiedIn_7 rfl ?_
  refine kx_last (i := 0) hx hb hK hWou hS (Or.inr rfl) 5 rfl (by decide) (by decide) dL_copiedIn_8 (fun H locs hc hU hS => ?_)
  have hWhi := hWhi.off hU (by omega)
  have hWro := hWro.kept (hU.2 _ (by omega))
  have hM := hM.off hU (by omega)
  have hM2 := hM2.off hU (by omega)
  have hWtb := hWtb.kept (hU.2 _ (by omega))
  have hWtn := hWtn.kept (hU.2 _ (by omega))
  have hWto := hWto.kept (hU.2 _ (by omega))
  have hWou := hc
  clear hc hU
  refine lv_goto (tgt := 15) hx hb dL_copiedIn_9 (by decide) ?_
  refine lv_iconst (v := nI 0) hx hb dL_copiedIn_15 (by decide) ?_
  exact kx_iretM hx hb hrt hlk rfl ⟨_, _, ⟨hWro, hM, hM2, hWhi, hWto, hWtb, hWtn⟩, hWou⟩ hS dL_copiedIn_16
set_option maxHeartbeats 2500000 in
set_option maxRecDepth 100000 in
theorem k_L_copiedInT1 (l : Launch) (D : va_G) (cs : Nat → ClassId) (x : Nat) (e : Nat → Int32) (g : Nat → Int64) (e1 : Nat → Int32) (g1 : Nat → Int64) (nx cn : Nat) (se : Nat → Nat → Int32) (sg : Nat → Nat → Int64) (b nn : Nat → Int32) (wd ln pa : Nat) (ft : Int32) (y : Int32) (hI : Inv e) (hw : lsB y (Mn e) = false) (o : Nat) (f : Nat → Int64) (ho : x + 360 ≤ o) (L : Nat) (hL : L ≤ x) (hfl : l.stackTraces = false) : Met l yL_copiedIn wsL_copiedIn ({ frames := 8, cells := 1, slots := 6, locals := 125 } : Room) (PcY D cs L [.ref (x), .int (y), .ref (o)] (fun H => HrC D cs x e g e1 g1 nx cn se sg b nn wd ln pa ft H ∧ va_at D vwCl (o, .inl (cs 5, 1, .inr (.inl f))) H)) (QcM (some (.int (nI (1)))) (fun H => HrC D cs x e g e1 g1 nx cn se sg b nn wd ln pa ft H ∧ va_at D vwCl (o, .inl (cs 5, 1, .inr (.inl f))) H) (fun y9 => (x ≤ y9 ∧ y9 < x + 360) ∨ y9 = o)) 1 6 (fun y9 => (x ≤ y9 ∧ y9 < x + 360) ∨ y9 = o) := by
  refine kx_metY (cc := cL_copiedIn) (maxL := 4) (ret := (some .int)) (by decide) rfl (Nat.le_of_ble_eq_true rfl) ?_
  intro p en s m args below meth c hx hb hml hrt hts hown hlk hK hN hX hY htb hP ls hl
  have hl : lv_has ls 4 [(0, .ref (x)), (1, .int (y)), (2, .ref (o))] := hl
  obtain ⟨H, hHe⟩ : ∃ H : Heap, H = s.heap := ⟨_, rfl⟩
  rw [← hHe] at hP ⊢
  have hS : va_S ((fun y9 => (x ≤ y9 ∧ y9 < x + 360) ∨ y9 = o)) s.heap H [] := by rw [← hHe]; exact va_S.rf
  obtain ⟨⟨hWro, hM, hM2, hWhi, hWto, hWtb, hWtn⟩, hWou⟩ := hP
  have hX0 : XK (fun y9 => L ≤ y9) s s.heap := hX
  have hX : XK (fun y9 => L ≤ y9) s H := by rw [hHe]; exact hX0
  have h24 := hI.M24
  have h6 := hI.R6
  refine lv_aload_n hx hb dL_copiedIn_0 rfl (lv_at hl 2 rfl) ?_
  refine lv_iconst (v := nI 0) hx hb dL_copiedIn_1 (by decide) ?_
  refine lv_aload_n hx hb dL_copiedIn_2 rfl (lv_at hl 0 rfl) ?_
  refine lv_iload_n hx hb dL_copiedIn_3 rfl (lv_at hl 1 rfl) ?_
  refine kx_catch (own := RL) (L := L) (vx_runV (As := [.int (y)]) (rest := [.int (nI (0)), .ref (o)]) ⟨hx, hb, hml, hown, hts⟩ (k_X7_copiedInT1 l D cs x e g e1 g1 nx cn se sg b nn wd ln pa ft y hI hw L (by first | assumption | omega) (by first | assumption | omega)) (cwV 1 hts gL_copiedIn_X7_copiedIn rfl rfl rfl (by decide +kernel) ⟨Nat.le_of_ble_eq_true rfl, Nat.le_of_ble_eq_true rfl⟩) (kx_preXV hK hN hX hWro rfl ⟨hWro, hM, hM2, hWhi, hWto, hWtb, hWtn⟩) rfl rfl hl.1 rfl (lv_room (Nat.le_of_ble_eq_true rfl)) dL_copiedIn_4 ⟨Nat.le_of_ble_eq_true rfl, Nat.le_of_ble_eq_true rfl⟩) hown (hX0) (by decide) (tableOf []) ⟨0, 9, 12, 13⟩ (tableOf []) htb (fun z hz => nomatch hz) (by decide) (by decide) (hts (.classLink RL 13 "java/lang/IndexOutOfBoundsException") (by decide +kernel)) hS (fun q9 H1 hz hk hS => ?_)
  have hW9 := HrC.grow (x := x) ⟨hWro, hM, hM2, hWhi, hWto, hWtb, hWtn⟩ hk
  have hWou := hWou.kept (hk _ hWou.lt)
  refine lv_astore_n (lv' := [(3, .ref (q9)), (0, .ref (x)), (1, .int (y)), (2, .ref (o))]) hx hb dL_copiedIn_12 rfl hl (by decide) rfl (fun ls hl => ?_)
  refine lv_iconst (v := nI 1) hx hb dL_copiedIn_13 (by decide) ?_
  exact kx_iretN hx hb hrt hlk rfl ⟨hW9, hWou⟩ hS (Nat.le_of_ble_eq_true rfl) (Nat.le_of_ble_eq_true rfl) dL_copiedIn_14
set_option maxHeartbeats 2500000 in
set_option maxRecDepth 100000 in
theorem k_L_type (l : Launch) (D : va_G) (cs : Nat → ClassId) (x : Nat) (e : Nat → Int32) (g : Nat → Int64) (e1 : Nat → Int32) (g1 : Nat → Int64) (nx cn : Nat) (se : Nat → Nat → Int32) (sg : Nat → Nat → Int64) (b nn : Nat → Int32) (wd ln pa : Nat) (ft : Int32) (v : Nat) (hv : v ≤ 127) (hl9 : ln < 150) (o : Nat) (f : Nat → Int64) (ho : x + 360 ≤ o) (L : Nat) (hL : L ≤ x) (hfl : l.stackTraces = false) : Met l yL_type wsL_type ({ frames := 3, cells := 0, slots := 0, locals := 64 } : Room) (PcY D cs L [.ref (x), .int (nI (v)), .ref (o)] (fun H => HrC D cs x e g e1 g1 nx cn se sg b nn wd ln pa ft H ∧ va_at D vwCl (o, .inl (cs 5, 1, .inr (.inl f))) H)) (QcM (some (.int (nI (0)))) (fun H => HrC D cs x e g e1 g1 nx cn se sg ((upd b ln (nI v))) nn wd ((ln + 1)) pa ft H ∧ va_at D vwCl (o, .inl (cs 5, 1, .inr (.inl (vp_updL f 0 ((nI (ln + 1)).toInt64))))) H) (fun y9 => (x ≤ y9 ∧ y9 < x + 360) ∨ y9 = o)) 0 0 (fun y9 => (x ≤ y9 ∧ y9 < x + 360) ∨ y9 = o) := by
  refine kx_metY (cc := cL_type) (maxL := 4) (ret := (some .int)) (by decide) rfl (Nat.le_of_ble_eq_true rfl) ?_
  intro p en s m args below meth c hx hb hml hrt hts hown hlk hK hN hX hY htb hP ls hl
  have hl : lv_has ls 4 [(0, .ref (x)), (1, .int (nI (v))), (2, .ref (o))] := hl
  obtain ⟨H, hHe⟩ : ∃ H : Heap, H = s.heap := ⟨_, rfl⟩
  rw [← hHe] at hP ⊢
  have hS : va_S ((fun y9 => (x ≤ y9 ∧ y9 < x + 360) ∨ y9 = o)) s.heap H [] := by rw [← hHe]; exact va_S.rf
  obtain ⟨⟨hWro, hM, hM2, hWhi, hWto, hWtb, hWtn⟩, hWou⟩ := hP
  refine lv_aload_n hx hb dL_type_0 rfl (lv_at hl 2 rfl) ?_
  refine lv_iconst (v := nI 0) hx hb dL_type_1 (by decide) ?_
  refine lv_aload_n hx hb dL_type_2 rfl (lv_at hl 0 rfl) ?_
  refine lv_iload_n hx hb dL_type_3 rfl (lv_at hl 1 rfl) ?_
  refine kx_retM (va_runV (As := [.int (nI (v))]) (rest := [.int (nI (0)), .ref (o)]) ⟨hx, hb, hml, hown, hts⟩ (k_X7_type l D cs x e g e1 g1 nx cn se sg b nn wd ln pa ft v hv hl9) (cwV 1 hts gL_type_X7_type rfl rfl rfl (by decide +kernel) ⟨Nat.le_of_ble_eq_true rfl, Nat.le_of_ble_eq_true rfl⟩) (kx_preV hK hN hWro rfl ⟨hWro, hM, hM2, hWhi, hWto, hWtb, hWtn⟩) rfl rfl hl.1 rfl (lv_room (Nat.le_of_ble_eq_true rfl)) dL_type_4 ⟨Nat.le_of_ble_eq_true rfl, Nat.le_of_ble_eq_true rfl⟩) hS (fun x _ h => (Or.inl h)) (fun x h => (Or.inl h)) (fun H locs hMN hk hS => ?_)
  have hWou := hWou.kept (hk.2 _ hWou.lt (fun h => by have h3 := h.1; have h4 := h.2; omega))
  obtain ⟨hWro, hM, hM2, hWhi, hWto, hWtb, hWtn⟩ := hMN
  clear hk
  refine lv_i2l hx hb dL_type_7 rfl ?_
  refine kx_last (i := 0) hx hb hK hWou hS (Or.inr rfl) 5 rfl (by decide) (by decide) dL_type_8 (fun H locs hc hU hS => ?_)
  have hWhi := hWhi.off hU (by omega)
  have hWro := hWro.kept (hU.2 _ (by omega))
  have hM := hM.off hU (by omega)
  have hM2 := hM2.off hU (by omega)
  have hWtb := hWtb.kept (hU.2 _ (by omega))
  have hWtn := hWtn.kept (hU.2 _ (by omega))
  have hWto := hWto.kept (hU.2 _ (by omega))
  have hWou := hc
  clear hc hU
  refine lv_goto (tgt := 18) hx hb dL_type_9 (by decide) ?_
  refine lv_iconst (v := nI 0) hx hb dL_type_18 (by decide) ?_
  exact kx_iretM hx hb hrt hlk rfl ⟨⟨hWro, hM, hM2, hWhi, hWto, hWtb, hWtn⟩, hWou⟩ hS dL_type_19
set_option maxHeartbeats 2500000 in
set_option maxRecDepth 100000 in
theorem k_L_typeT1 (l : Launch) (D : va_G) (cs : Nat → ClassId) (x : Nat) (e : Nat → Int32) (g : Nat → Int64) (e1 : Nat → Int32) (g1 : Nat → Int64) (nx cn : Nat) (se : Nat → Nat → Int32) (sg : Nat → Nat → Int64) (b nn : Nat → Int32) (wd ln pa : Nat) (ft : Int32) (v : Int32) (hw : wiB v (nI 0) (nI 127) = false) (o : Nat) (f : Nat → Int64) (ho : x + 360 ≤ o) (L : Nat) (hL : L ≤ x) (hfl : l.stackTraces = false) : Met l yL_type wsL_type ({ frames := 8, cells := 1, slots := 6, locals := 124 } : Room) (PcY D cs L [.ref (x), .int (v), .ref (o)] (fun H => HrC D cs x e g e1 g1 nx cn se sg b nn wd ln pa ft H ∧ va_at D vwCl (o, .inl (cs 5, 1, .inr (.inl f))) H)) (QcM (some (.int (nI (1)))) (fun H => HrC D cs x e g e1 g1 nx cn se sg b nn wd ln pa ft H ∧ va_at D vwCl (o, .inl (cs 5, 1, .inr (.inl f))) H) (fun y9 => (x ≤ y9 ∧ y9 < x + 360) ∨ y9 = o)) 1 6 (fun y9 => (x ≤ y9 ∧ y9 < x + 360) ∨ y9 = o) := by
  refine kx_metY (cc := cL_type) (maxL := 4) (ret := (some .int)) (by decide) rfl (Nat.le_of_ble_eq_true rfl) ?_
  intro p en s m args below meth c hx hb hml hrt hts hown hlk hK hN hX hY htb hP ls hl
  have hl : lv_has ls 4 [(0, .ref (x)), (1, .int (v)), (2, .ref (o))] := hl
  obtain ⟨H, hHe⟩ : ∃ H : Heap, H = s.heap := ⟨_, rfl⟩
  rw [← hHe] at hP ⊢
  have hS : va_S ((fun y9 => (x ≤ y9 ∧ y9 < x + 360) ∨ y9 = o)) s.heap H [] := by rw [← hHe]; exact va_S.rf
  obtain ⟨⟨hWro, hM, hM2, hWhi, hWto, hWtb, hWtn⟩, hWou⟩ := hP
  have hX0 : XK (fun y9 => L ≤ y9) s s.heap := hX
  have hX : XK (fun y9 => L ≤ y9) s H := by rw [hHe]; exact hX0
  refine lv_aload_n hx hb dL_type_0 rfl (lv_at hl 2 rfl) ?_
  refine lv_iconst (v := nI 0) hx hb dL_type_1 (by decide) ?_
  refine lv_aload_n hx hb dL_type_2 rfl (lv_at hl 0 rfl) ?_
  refine lv_iload_n hx hb dL_type_3 rfl (lv_at hl 1 rfl) ?_
  refine kx_catch (own := RL) (L := L) (vx_runV (As := [.int (v)]) (rest := [.int (nI (0)), .ref (o)]) ⟨hx, hb, hml, hown, hts⟩ (k_X7_typeT1 l D cs x e g e1 g1 nx cn se sg b nn wd ln pa ft v hw L (by first | assumption | omega) (by first | assumption | omega)) (cwV 1 hts gL_type_X7_type rfl rfl rfl (by decide +kernel) ⟨Nat.le_of_ble_eq_true rfl, Nat.le_of_ble_eq_true rfl⟩) (kx_preXV hK hN hX hWro rfl ⟨hWro, hM, hM2, hWhi, hWto, hWtb, hWtn⟩) rfl rfl hl.1 rfl (lv_room (Nat.le_of_ble_eq_true rfl)) dL_type_4 ⟨Nat.le_of_ble_eq_true rfl, Nat.le_of_ble_eq_true rfl⟩) hown (hX0) (by decide) (tableOf []) ⟨0, 9, 12, 15⟩ (tableOf [(0, 9, 15, 17)]) htb (fun z hz => nomatch hz) (by decide) (by decide) (hts (.classLink RL 15 "java/lang/IllegalArgumentException") (by decide +kernel)) hS (fun q9 H1 hz hk hS => ?_)
  have hW9 := HrC.grow (x := x) ⟨hWro, hM, hM2, hWhi, hWto, hWtb, hWtn⟩ hk
  have hWou := hWou.kept (hk _ hWou.lt)
  refine lv_astore_n (lv' := [(3, .ref (q9)), (0, .ref (x)), (1, .int (v)), (2, .ref (o))]) hx hb dL_type_12 rfl hl (by decide) rfl (fun ls hl => ?_)
  refine lv_iconst (v := nI 1) hx hb dL_type_13 (by decide) ?_
  exact kx_iretN hx hb hrt hlk rfl ⟨hW9, hWou⟩ hS (Nat.le_of_ble_eq_true rfl) (Nat.le_of_ble_eq_true rfl) dL_type_14
set_option maxHeartbeats 2500000 in
set_option maxRecDepth 100000 in
theorem k_L_typeT2 (l : Launch) (D : va_G) (cs : Nat → ClassId) (x : Nat) (e : Nat → Int32) (g : Nat → Int64) (e1 : Nat → Int32) (g1 : Nat → Int64) (nx cn : Nat) (se : Nat → Nat → Int32) (sg : Nat → Nat → Int64) (b nn : Nat → Int32) (wd ln pa : Nat) (ft : Int32) (v : Nat) (hv : v ≤ 127) (hw : 150 ≤ ln) (hl150 : ln ≤ 150) (o : Nat) (f : Nat → Int64) (ho : x + 360 ≤ o) (L : Nat) (hL : L ≤ x) (hfl : l.stackTraces = false) : Met l yL_type wsL_type ({ frames := 7, cells := 1, slots := 6, locals := 103 } : Room) (PcY D cs L [.ref (x), .int (nI (v)), .ref (o)] (fun H => HrC D cs x e g e1 g1 nx cn se sg b nn wd ln pa ft H ∧ va_at D vwCl (o, .inl (cs 5, 1, .inr (.inl f))) H)) (QcM (some (.int (nI (2)))) (fun H => HrC D cs x e g e1 g1 nx cn se sg b nn wd ln pa ft H ∧ va_at D vwCl (o, .inl (cs 5, 1, .inr (.inl f))) H) (fun y9 => (x ≤ y9 ∧ y9 < x + 360) ∨ y9 = o)) 1 6 (fun y9 => (x ≤ y9 ∧ y9 < x + 360) ∨ y9 = o) := by
  refine kx_metY (cc := cL_type) (maxL := 4) (ret := (some .int)) (by decide) rfl (Nat.le_of_ble_eq_true rfl) ?_
  intro p en s m args below meth c hx hb hml hrt hts hown hlk hK hN hX hY htb hP ls hl
  have hl : lv_has ls 4 [(0, .ref (x)), (1, .int (nI (v))), (2, .ref (o))] := hl
  obtain ⟨H, hHe⟩ : ∃ H : Heap, H = s.heap := ⟨_, rfl⟩
  rw [← hHe] at hP ⊢
  have hS : va_S ((fun y9 => (x ≤ y9 ∧ y9 < x + 360) ∨ y9 = o)) s.heap H [] := by rw [← hHe]; exact va_S.rf
  obtain ⟨⟨hWro, hM, hM2, hWhi, hWto, hWtb, hWtn⟩, hWou⟩ := hP
  have hX0 : XK (fun y9 => L ≤ y9) s s.heap := hX
  have hX : XK (fun y9 => L ≤ y9) s H := by rw [hHe]; exact hX0
  refine lv_aload_n hx hb dL_type_0 rfl (lv_at hl 2 rfl) ?_
  refine lv_iconst (v := nI 0) hx hb dL_type_1 (by decide) ?_
  refine lv_aload_n hx hb dL_type_2 rfl (lv_at hl 0 rfl) ?_
  refine lv_iload_n hx hb dL_type_3 rfl (lv_at hl 1 rfl) ?_
  refine kx_catch (own := RL) (L := L) (vx_runV (As := [.int (nI (v))]) (rest := [.int (nI (0)), .ref (o)]) ⟨hx, hb, hml, hown, hts⟩ (k_X7_typeT2 l D cs x e g e1 g1 nx cn se sg b nn wd ln pa ft v hv hw hl150 L (by first | assumption | omega) (by first | assumption | omega)) (cwV 1 hts gL_type_X7_type rfl rfl rfl (by decide +kernel) ⟨Nat.le_of_ble_eq_true rfl, Nat.le_of_ble_eq_true rfl⟩) (kx_preXV hK hN hX hWro rfl ⟨hWro, hM, hM2, hWhi, hWto, hWtb, hWtn⟩) rfl rfl hl.1 rfl (lv_room (Nat.le_of_ble_eq_true rfl)) dL_type_4 ⟨Nat.le_of_ble_eq_true rfl, Nat.le_of_ble_eq_true rfl⟩) hown (hX0) (by decide) (tableOf [(0, 9, 12, 15)]) ⟨0, 9, 15, 17⟩ (tableOf []) htb (fun z hz => by
    simp only [tableOf, List.map, List.mem_cons, List.not_mem_nil, or_false] at hz
    rcases hz with rfl
    · exact Or.inr ⟨by decide, "java/lang/IllegalArgumentException", hts (.classLink RL 15 "java/lang/IllegalArgumentException") (by decide +kernel), hY ("java/lang/IllegalStateException", "java/lang/IllegalArgumentException") (by decide)⟩) (by decide) (by decide) (hts (.classLink RL 17 "java/lang/IllegalStateException") (by decide +kernel)) hS (fun q9 H1 hz hk hS => ?_)
  have hW9 := HrC.grow (x := x) ⟨hWro, hM, hM2, hWhi, hWto, hWtb, hWtn⟩ hk
  have hWou := hWou.kept (hk _ hWou.lt)
  refine lv_astore_n (lv' := [(3, .ref (q9)), (0, .ref (x)), (1, .int (nI (v))), (2, .ref (o))]) hx hb dL_type_15 rfl hl (by decide) rfl (fun ls hl => ?_)
  refine lv_iconst (v := nI 2) hx hb dL_type_16 (by decide) ?_
  exact kx_iretN hx hb hrt hlk rfl ⟨hW9, hWou⟩ hS (Nat.le_of_ble_eq_true rfl) (Nat.le_of_ble_eq_true rfl) dL_type_17
set_option maxHeartbeats 2500000 in
set_option maxRecDepth 100000 in
theorem k_L_undo (l : Launch) (D : va_G) (cs : Nat → ClassId) (x : Nat) (e : Nat → Int32) (g : Nat → Int64) (e1 : Nat → Int32) (g1 : Nat → Int64) (nx cn : Nat) (se : Nat → Nat → Int32) (sg : Nat → Nat → Int64) (b nn : Nat → Int32) (wd ln pa : Nat) (ft : Int32) (p9 : Nat) (hp9 : p9 = (nx + 3) % 4) (hI2 : Inv (se p9)) (hnx : nx < 4) (hcn : cn ≤ 4) (hcn1 : 1 ≤ cn) (o : Nat) (f : Nat → Int64) (ho : x + 360 ≤ o) (L : Nat) (hL : L ≤ x) (hfl : l.stackTraces = false) : Met l yL_undo wsL_undo ({ frames := 5, cells := 0, slots := 0, locals := 132 } : Room) (PcY D cs L [.ref (x), .ref (o)] (fun H => HrC D cs x e g e1 g1 nx cn se sg b nn wd ln pa ft H ∧ va_at D vwCl (o, .inl (cs 5, 1, .inr (.inl f))) H)) (QcM (some (.int (nI (0)))) (fun H => HrC D cs x ((cfF e (se p9))) ((cgM g (sg p9) (Mn (se p9)))) e1 g1 p9 ((cn - 1)) se sg b nn wd ln pa ft H ∧ va_at D vwCl (o, .inl (cs 5, 1, .inr (.inl (vp_updL f 0 ((nI (cn - 1)).toInt64))))) H) (fun y9 => (x ≤ y9 ∧ y9 < x + 360) ∨ y9 = o)) 0 0 (fun y9 => (x ≤ y9 ∧ y9 < x + 360) ∨ y9 = o) := by
  refine kx_metY (cc := cL_undo) (maxL := 3) (ret := (some .int)) (by decide) rfl (Nat.le_of_ble_eq_true rfl) ?_
  intro p en s m args below meth c hx hb hml hrt hts hown hlk hK hN hX hY htb hP ls hl
  have hl : lv_has ls 3 [(0, .ref (x)), (1, .ref (o))] := hl
  obtain ⟨H, hHe⟩ : ∃ H : Heap, H = s.heap := ⟨_, rfl⟩
  rw [← hHe] at hP ⊢
  have hS : va_S ((fun y9 => (x ≤ y9 ∧ y9 < x + 360) ∨ y9 = o)) s.heap H [] := by rw [← hHe]; exact va_S.rf
  obtain ⟨⟨hWro, hM, hM2, hWhi, hWto, hWtb, hWtn⟩, hWou⟩ := hP
  refine lv_aload_n hx hb dL_undo_0 rfl (lv_at hl 1 rfl) ?_
  refine lv_iconst (v := nI 0) hx hb dL_undo_1 (by decide) ?_
  refine lv_aload_n hx hb dL_undo_2 rfl (lv_at hl 0 rfl) ?_
  refine kx_retM (va_runV (As := []) (rest := [.int (nI (0)), .ref (o)]) ⟨hx, hb, hml, hown, hts⟩ (k_X7_undo l D cs x e g e1 g1 nx cn se sg b nn wd ln pa ft p9 hp9 hI2 hnx hcn hcn1) (cwV 0 hts gL_undo_X7_undo rfl rfl rfl (by decide +kernel) ⟨Nat.le_of_ble_eq_true rfl, Nat.le_of_ble_eq_true rfl⟩) (kx_preV hK hN hWro rfl ⟨hWro, hM, hM2, hWhi, hWto, hWtb, hWtn⟩) rfl rfl hl.1 rfl (lv_room (Nat.le_of_ble_eq_true rfl)) dL_undo_3 ⟨Nat.le_of_ble_eq_true rfl, Nat.le_of_ble_eq_true rfl⟩) hS (fun x _ h => (Or.inl h)) (fun x h => (Or.inl h)) (fun H locs hMN hk hS => ?_)
  have hWou := hWou.kept (hk.2 _ hWou.lt (fun h => by have h3 := h.1; have h4 := h.2; omega))
  obtain ⟨hWro, hM, hM2, hWhi, hWto, hWtb, hWtn⟩ := hMN
  clear hk
  refine lv_i2l hx hb dL_undo_6 rfl ?_
  refine kx_last (i := 0) hx hb hK hWou hS (Or.inr rfl) 5 rfl (by decide) (by decide) dL_undo_7 (fun H locs hc hU hS => ?_)
  have hWhi := hWhi.off hU (by omega)
  have hWro := hWro.kept (hU.2 _ (by omega))
  have hM := hM.off hU (by omega)
  have hM2 := hM2.off hU (by omega)
  have hWtb := hWtb.kept (hU.2 _ (by omega))
  have hWtn := hWtn.kept (hU.2 _ (by omega))
  have hWto := hWto.kept (hU.2 _ (by omega))
  have hWou := hc
  clear hc hU
  refine lv_goto (tgt := 14) hx hb dL_undo_8 (by decide) ?_
  refine lv_iconst (v := nI 0) hx hb dL_undo_14 (by decide) ?_
  exact kx_iretM hx hb hrt hlk rfl ⟨⟨hWro, hM, hM2, hWhi, hWto, hWtb, hWtn⟩, hWou⟩ hS dL_undo_15
set_option maxHeartbeats 2500000 in
set_option maxRecDepth 100000 in
theorem k_L_undoT (l : Launch) (D : va_G) (cs : Nat → ClassId) (x : Nat) (e : Nat → Int32) (g : Nat → Int64) (e1 : Nat → Int32) (g1 : Nat → Int64) (nx cn : Nat) (se : Nat → Nat → Int32) (sg : Nat → Nat → Int64) (b nn : Nat → Int32) (wd ln pa : Nat) (ft : Int32) (hw : cn = 0) (o : Nat) (f : Nat → Int64) (ho : x + 360 ≤ o) (L : Nat) (hL : L ≤ x) (hfl : l.stackTraces = false) : Met l yL_undo wsL_undo ({ frames := 7, cells := 1, slots := 6, locals := 132 } : Room) (PcY D cs L [.ref (x), .ref (o)] (fun H => HrC D cs x e g e1 g1 nx cn se sg b nn wd ln pa ft H ∧ va_at D vwCl (o, .inl (cs 5, 1, .inr (.inl f))) H)) (QcM (some (.int (nI (1)))) (fun H => HrC D cs x e g e1 g1 nx cn se sg b nn wd ln pa ft H ∧ va_at D vwCl (o, .inl (cs 5, 1, .inr (.inl f))) H) (fun y9 => (x ≤ y9 ∧ y9 < x + 360) ∨ y9 = o)) 1 6 (fun y9 => (x ≤ y9 ∧ y9 < x + 360) ∨ y9 = o) := by
  refine kx_metY (cc := cL_undo) (maxL := 3) (ret := (some .int)) (by decide) rfl (Nat.le_of_ble_eq_true rfl) ?_
  intro p en s m args below meth c hx hb hml hrt hts hown hlk hK hN hX hY htb hP ls hl
  have hl : lv_has ls 3 [(0, .ref (x)), (1, .ref (o))] := hl
  obtain ⟨H, hHe⟩ : ∃ H : Heap, H = s.heap := ⟨_, rfl⟩
  rw [← hHe] at hP ⊢
  have hS : va_S ((fun y9 => (x ≤ y9 ∧ y9 < x + 360) ∨ y9 = o)) s.heap H [] := by rw [← hHe]; exact va_S.rf
  obtain ⟨⟨hWro, hM, hM2, hWhi, hWto, hWtb, hWtn⟩, hWou⟩ := hP
  have hX0 : XK (fun y9 => L ≤ y9) s s.heap := hX
  have hX : XK (fun y9 => L ≤ y9) s H := by rw [hHe]; exact hX0
  refine lv_aload_n hx hb dL_undo_0 rfl (lv_at hl 1 rfl) ?_
  refine lv_iconst (v := nI 0) hx hb dL_undo_1 (by decide) ?_
  refine lv_aload_n hx hb dL_undo_2 rfl (lv_at hl 0 rfl) ?_
  refine kx_catch (own := RL) (L := L) (vx_runV (As := []) (rest := [.int (nI (0)), .ref (o)]) ⟨hx, hb, hml, hown, hts⟩ (k_X7_undoT l D cs x e g e1 g1 nx cn se sg b nn wd ln pa ft hw L (by first | assumption | omega) (by first | assumption | omega)) (cwV 0 hts gL_undo_X7_undo rfl rfl rfl (by decide +kernel) ⟨Nat.le_of_ble_eq_true rfl, Nat.le_of_ble_eq_true rfl⟩) (kx_preXV hK hN hX hWro rfl ⟨hWro, hM, hM2, hWhi, hWto, hWtb, hWtn⟩) rfl rfl hl.1 rfl (lv_room (Nat.le_of_ble_eq_true rfl)) dL_undo_3 ⟨Nat.le_of_ble_eq_true rfl, Nat.le_of_ble_eq_true rfl⟩) hown (hX0) (by decide) (tableOf []) ⟨0, 8, 11, 17⟩ (tableOf []) htb (fun z hz => nomatch hz) (by decide) (by decide) (hts (.classLink RL 17 "java/lang/IllegalStateException") (by decide +kernel)) hS (fun q9 H1 hz hk hS => ?_)
  have hW9 := HrC.grow (x := x) ⟨hWro, hM, hM2, hWhi, hWto, hWtb, hWtn⟩ hk
  have hWou := hWou.kept (hk _ hWou.lt)
  refine lv_astore_n (lv' := [(2, .ref (q9)), (0, .ref (x)), (1, .ref (o))]) hx hb dL_undo_11 rfl hl (by decide) rfl (fun ls hl => ?_)
  refine lv_iconst (v := nI 1) hx hb dL_undo_12 (by decide) ?_
  exact kx_iretN hx hb hrt hlk rfl ⟨hW9, hWou⟩ hS (Nat.le_of_ble_eq_true rfl) (Nat.le_of_ble_eq_true rfl) dL_undo_13
