/-! sign, strike, write of the law -/
set_option maxHeartbeats 2500000 in
set_option maxRecDepth 100000 in
theorem k_L_sign (l : Launch) (D : va_G) (cs : Nat → ClassId) (x : Nat) (e : Nat → Int32) (g : Nat → Int64) (e1 : Nat → Int32) (g1 : Nat → Int64) (nx cn : Nat) (se : Nat → Nat → Int32) (sg : Nat → Nat → Int64) (b nn : Nat → Int32) (wd ln pa : Nat) (ft : Int32) (r : Nat) (hI : Inv e) (hnx : nx < 4) (hcn : cn ≤ 4) (hw : wsg e (nI r) = 0) (hr : r < Rn e) (hf : fcN e r < Mn e) (L : Nat) (hL : L ≤ x) (hfl : l.stackTraces = false) : Met l yL_sign wsL_sign ({ frames := 5, cells := 0, slots := 0, locals := 133 } : Room) (PcY D cs L [.ref (x), .int (nI (r))] (fun H => HrC D cs x e g e1 g1 nx cn se sg b nn wd ln pa ft H)) (QcM (some (.int (nI (fcN e r)))) (fun H => HrC D cs x ((signF e (fcN e r))) g e1 g1 (((nx + 1) % 4)) ((min (cn + 1) 4)) ((hsE se nx (cfF (se nx) e))) ((hsG sg nx (cgM (sg nx) g (Mn e)))) b nn wd ln pa ft H) (rgR x)) 0 0 (rgR x) := by
  refine kx_metY (cc := cL_sign) (maxL := 3) (ret := (some .int)) (by decide) rfl (Nat.le_of_ble_eq_true rfl) ?_
  intro p en s m args below meth c hx hb hml hrt hts hown hlk hK hN hX hY htb hP ls hl
  have hl : lv_has ls 3 [(0, .ref (x)), (1, .int (nI (r)))] := hl
  obtain ⟨H, hHe⟩ : ∃ H : Heap, H = s.heap := ⟨_, rfl⟩
  rw [← hHe] at hP ⊢
  have hS : va_S ((rgR x)) s.heap H [] := by rw [← hHe]; exact va_S.rf
  obtain ⟨hWro, hM, hM2, hWhi, hWto, hWtb, hWtn⟩ := hP
  refine lv_aload_n hx hb dL_sign_0 rfl (lv_at hl 0 rfl) ?_
  refine lv_iload_n hx hb dL_sign_1 rfl (lv_at hl 1 rfl) ?_
  refine kx_retM (va_runV (As := [.int (nI (r))]) (rest := []) ⟨hx, hb, hml, hown, hts⟩ (k_X7_sign l D cs x e g e1 g1 nx cn se sg b nn wd ln pa ft r hI hnx hcn hw hr hf) (cwV 1 hts gL_sign_X7_sign rfl rfl rfl (by decide +kernel) ⟨Nat.le_of_ble_eq_true rfl, Nat.le_of_ble_eq_true rfl⟩) (kx_preV hK hN hWro rfl ⟨hWro, hM, hM2, hWhi, hWto, hWtb, hWtn⟩) rfl rfl hl.1 rfl (lv_room (Nat.le_of_ble_eq_true rfl)) dL_sign_2 ⟨Nat.le_of_ble_eq_true rfl, Nat.le_of_ble_eq_true rfl⟩) hS (fun x _ h => (by first | exact h | (have h1 := h.1; have h2 := h.2; exact ⟨by omega, by omega⟩) | (rcases h with h | h <;> (have h1 := h.1; have h2 := h.2; exact ⟨by omega, by omega⟩)))) (fun x h => (by first | exact h | (have h1 := h.1; have h2 := h.2; exact ⟨by omega, by omega⟩) | (rcases h with h | h <;> (have h1 := h.1; have h2 := h.2; exact ⟨by omega, by omega⟩)))) (fun H locs hMN hk hS => ?_)
  obtain ⟨hWro, hM, hM2, hWhi, hWto, hWtb, hWtn⟩ := hMN
  clear hk
  exact kx_iretM hx hb hrt hlk rfl ⟨hWro, hM, hM2, hWhi, hWto, hWtb, hWtn⟩ hS dL_sign_5
set_option maxHeartbeats 2500000 in
set_option maxRecDepth 100000 in
theorem k_L_signT3 (l : Launch) (D : va_G) (cs : Nat → ClassId) (x : Nat) (e : Nat → Int32) (g : Nat → Int64) (e1 : Nat → Int32) (g1 : Nat → Int64) (nx cn : Nat) (se : Nat → Nat → Int32) (sg : Nat → Nat → Int64) (b nn : Nat → Int32) (wd ln pa : Nat) (ft : Int32) (r : Int32) (hI : Inv e) (hw : c23 (wsg e r) = 3) (L : Nat) (hL : L ≤ x) (hfl : l.stackTraces = false) : Met l yL_sign wsL_sign ({ frames := 8, cells := 1, slots := 6, locals := 133 } : Room) (PcY D cs L [.ref (x), .int (r)] (fun H => HrC D cs x e g e1 g1 nx cn se sg b nn wd ln pa ft H)) (QcM (some (.int ((-2)))) (fun H => HrC D cs x e g e1 g1 nx cn se sg b nn wd ln pa ft H) (rgR x)) 1 6 (rgR x) := by
  refine kx_metY (cc := cL_sign) (maxL := 3) (ret := (some .int)) (by decide) rfl (Nat.le_of_ble_eq_true rfl) ?_
  intro p en s m args below meth c hx hb hml hrt hts hown hlk hK hN hX hY htb hP ls hl
  have hl : lv_has ls 3 [(0, .ref (x)), (1, .int (r))] := hl
  obtain ⟨H, hHe⟩ : ∃ H : Heap, H = s.heap := ⟨_, rfl⟩
  rw [← hHe] at hP ⊢
  have hS : va_S ((rgR x)) s.heap H [] := by rw [← hHe]; exact va_S.rf
  obtain ⟨hWro, hM, hM2, hWhi, hWto, hWtb, hWtn⟩ := hP
  have hX0 : XK (fun y9 => L ≤ y9) s s.heap := hX
  have hX : XK (fun y9 => L ≤ y9) s H := by rw [hHe]; exact hX0
  refine lv_aload_n hx hb dL_sign_0 rfl (lv_at hl 0 rfl) ?_
  refine lv_iload_n hx hb dL_sign_1 rfl (lv_at hl 1 rfl) ?_
  refine kx_catch (own := RL) (L := L) (vx_runV (As := [.int (r)]) (rest := []) ⟨hx, hb, hml, hown, hts⟩ (k_X7_signT3 l D cs x e g e1 g1 nx cn se sg b nn wd ln pa ft r hI hw L (by first | assumption | omega) (by first | assumption | omega)) (cwV 1 hts gL_sign_X7_sign rfl rfl rfl (by decide +kernel) ⟨Nat.le_of_ble_eq_true rfl, Nat.le_of_ble_eq_true rfl⟩) (kx_preXV hK hN hX hWro rfl ⟨hWro, hM, hM2, hWhi, hWto, hWtb, hWtn⟩) rfl rfl hl.1 rfl (lv_room (Nat.le_of_ble_eq_true rfl)) dL_sign_2 ⟨Nat.le_of_ble_eq_true rfl, Nat.le_of_ble_eq_true rfl⟩) hown (hX0) (by decide) (tableOf [(0, 5, 6, 16)]) ⟨0, 5, 9, 18⟩ (tableOf []) htb (fun z hz => by
    simp only [tableOf, List.map, List.mem_cons, List.not_mem_nil, or_false] at hz
    rcases hz with rfl
    · exact Or.inr ⟨by decide, "java/lang/IndexOutOfBoundsException", hts (.classLink RL 16 "java/lang/IndexOutOfBoundsException") (by decide +kernel), hY ("java/lang/IllegalStateException", "java/lang/IndexOutOfBoundsException") (by decide)⟩) (by decide) (by decide) (hts (.classLink RL 18 "java/lang/IllegalStateException") (by decide +kernel)) hS (fun q9 H1 hz hk hS => ?_)
  have hW9 := HrC.grow (x := x) ⟨hWro, hM, hM2, hWhi, hWto, hWtb, hWtn⟩ hk
  refine lv_astore_n (lv' := [(2, .ref (q9)), (0, .ref (x)), (1, .int (r))]) hx hb dL_sign_9 rfl hl (by decide) rfl (fun ls hl => ?_)
  refine lv_bipush (v := -2) hx hb dL_sign_10 (by decide) ?_
  exact kx_iretN hx hb hrt hlk rfl hW9 hS (Nat.le_of_ble_eq_true rfl) (Nat.le_of_ble_eq_true rfl) dL_sign_12
set_option maxHeartbeats 2500000 in
set_option maxRecDepth 100000 in
theorem k_L_strike (l : Launch) (D : va_G) (cs : Nat → ClassId) (x : Nat) (e : Nat → Int32) (g : Nat → Int64) (e1 : Nat → Int32) (g1 : Nat → Int64) (nx cn : Nat) (se : Nat → Nat → Int32) (sg : Nat → Nat → Int64) (b nn : Nat → Int32) (wd ln pa : Nat) (ft : Int32) (r : Nat) (y : Bool) (hI : Inv e) (hnx : nx < 4) (hcn : cn ≤ 4) (hw : wst e (nI r) (bI y) = 0) (hr : r < Rn e) (L : Nat) (hL : L ≤ x) (hfl : l.stackTraces = false) : Met l yL_strike wsL_strike ({ frames := 5, cells := 0, slots := 0, locals := 134 } : Room) (PcY D cs L [.ref (x), .int (nI (r)), .int (bI (y))] (fun H => HrC D cs x e g e1 g1 nx cn se sg b nn wd ln pa ft H)) (QcM (some (.int (nI (cpN e r)))) (fun H => HrC D cs x ((upd e (56 + 4 * r + 3) (bI y))) g e1 g1 (((nx + 1) % 4)) ((min (cn + 1) 4)) ((hsE se nx (cfF (se nx) e))) ((hsG sg nx (cgM (sg nx) g (Mn e)))) b nn wd ln pa ft H) (rgR x)) 0 0 (rgR x) := by
  refine kx_metY (cc := cL_strike) (maxL := 4) (ret := (some .int)) (by decide) rfl (Nat.le_of_ble_eq_true rfl) ?_
  intro p en s m args below meth c hx hb hml hrt hts hown hlk hK hN hX hY htb hP ls hl
  have hl : lv_has ls 4 [(0, .ref (x)), (1, .int (nI (r))), (2, .int (bI (y)))] := hl
  obtain ⟨H, hHe⟩ : ∃ H : Heap, H = s.heap := ⟨_, rfl⟩
  rw [← hHe] at hP ⊢
  have hS : va_S ((rgR x)) s.heap H [] := by rw [← hHe]; exact va_S.rf
  obtain ⟨hWro, hM, hM2, hWhi, hWto, hWtb, hWtn⟩ := hP
  refine lv_aload_n hx hb dL_strike_0 rfl (lv_at hl 0 rfl) ?_
  refine lv_iload_n hx hb dL_strike_1 rfl (lv_at hl 1 rfl) ?_
  refine lv_iload_n hx hb dL_strike_2 rfl (lv_at hl 2 rfl) ?_
  refine kx_retM (va_runV (As := [.int (nI (r)), .int (bI (y))]) (rest := []) ⟨hx, hb, hml, hown, hts⟩ (k_X7_strike l D cs x e g e1 g1 nx cn se sg b nn wd ln pa ft r y hI hnx hcn hw hr) (cwV 2 hts gL_strike_X7_strike rfl rfl rfl (by decide +kernel) ⟨Nat.le_of_ble_eq_true rfl, Nat.le_of_ble_eq_true rfl⟩) (kx_preV hK hN hWro rfl ⟨hWro, hM, hM2, hWhi, hWto, hWtb, hWtn⟩) rfl rfl hl.1 rfl (lv_room (Nat.le_of_ble_eq_true rfl)) dL_strike_3 ⟨Nat.le_of_ble_eq_true rfl, Nat.le_of_ble_eq_true rfl⟩) hS (fun x _ h => (by first | exact h | (have h1 := h.1; have h2 := h.2; exact ⟨by omega, by omega⟩) | (rcases h with h | h <;> (have h1 := h.1; have h2 := h.2; exact ⟨by omega, by omega⟩)))) (fun x h => (by first | exact h | (have h1 := h.1; have h2 := h.2; exact ⟨by omega, by omega⟩) | (rcases h with h | h <;> (have h1 := h.1; have h2 := h.2; exact ⟨by omega, by omega⟩)))) (fun H locs hMN hk hS => ?_)
  obtain ⟨hWro, hM, hM2, hWhi, hWto, hWtb, hWtn⟩ := hMN
  clear hk
  exact kx_iretM hx hb hrt hlk rfl ⟨hWro, hM, hM2, hWhi, hWto, hWtb, hWtn⟩ hS dL_strike_6
set_option maxHeartbeats 2500000 in
set_option maxRecDepth 100000 in
theorem k_L_strikeT3 (l : Launch) (D : va_G) (cs : Nat → ClassId) (x : Nat) (e : Nat → Int32) (g : Nat → Int64) (e1 : Nat → Int32) (g1 : Nat → Int64) (nx cn : Nat) (se : Nat → Nat → Int32) (sg : Nat → Nat → Int64) (b nn : Nat → Int32) (wd ln pa : Nat) (ft : Int32) (r : Int32) (y : Bool) (hI : Inv e) (hw : c23 (wst e r (bI y)) = 3) (L : Nat) (hL : L ≤ x) (hfl : l.stackTraces = false) : Met l yL_strike wsL_strike ({ frames := 8, cells := 1, slots := 6, locals := 134 } : Room) (PcY D cs L [.ref (x), .int (r), .int (bI (y))] (fun H => HrC D cs x e g e1 g1 nx cn se sg b nn wd ln pa ft H)) (QcM (some (.int ((-2)))) (fun H => HrC D cs x e g e1 g1 nx cn se sg b nn wd ln pa ft H) (rgR x)) 1 6 (rgR x) := by
  refine kx_metY (cc := cL_strike) (maxL := 4) (ret := (some .int)) (by decide) rfl (Nat.le_of_ble_eq_true rfl) ?_
  intro p en s m args below meth c hx hb hml hrt hts hown hlk hK hN hX hY htb hP ls hl
  have hl : lv_has ls 4 [(0, .ref (x)), (1, .int (r)), (2, .int (bI (y)))] := hl
  obtain ⟨H, hHe⟩ : ∃ H : Heap, H = s.heap := ⟨_, rfl⟩
  rw [← hHe] at hP ⊢
  have hS : va_S ((rgR x)) s.heap H [] := by rw [← hHe]; exact va_S.rf
  obtain ⟨hWro, hM, hM2, hWhi, hWto, hWtb, hWtn⟩ := hP
  have hX0 : XK (fun y9 => L ≤ y9) s s.heap := hX
  have hX : XK (fun y9 => L ≤ y9) s H := by rw [hHe]; exact hX0
  refine lv_aload_n hx hb dL_strike_0 rfl (lv_at hl 0 rfl) ?_
  refine lv_iload_n hx hb dL_strike_1 rfl (lv_at hl 1 rfl) ?_
  refine lv_iload_n hx hb dL_strike_2 rfl (lv_at hl 2 rfl) ?_
  refine kx_catch (own := RL) (L := L) (vx_runV (As := [.int (r), .int (bI (y))]) (rest := []) ⟨hx, hb, hml, hown, hts⟩ (k_X7_strikeT3 l D cs x e g e1 g1 nx cn se sg b nn wd ln pa ft r y hI hw L (by first | assumption | omega) (by first | assumption | omega)) (cwV 2 hts gL_strike_X7_strike rfl rfl rfl (by decide +kernel) ⟨Nat.le_of_ble_eq_true rfl, Nat.le_of_ble_eq_true rfl⟩) (kx_preXV hK hN hX hWro rfl ⟨hWro, hM, hM2, hWhi, hWto, hWtb, hWtn⟩) rfl rfl hl.1 rfl (lv_room (Nat.le_of_ble_eq_true rfl)) dL_strike_3 ⟨Nat.le_of_ble_eq_true rfl, Nat.le_of_ble_eq_true rfl⟩) hown (hX0) (by decide) (tableOf [(0, 6, 7, 16)]) ⟨0, 6, 10, 18⟩ (tableOf []) htb (fun z hz => by
    simp only [tableOf, List.map, List.mem_cons, List.not_mem_nil, or_false] at hz
    rcases hz with rfl
    · exact Or.inr ⟨by decide, "java/lang/IndexOutOfBoundsException", hts (.classLink RL 16 "java/lang/IndexOutOfBoundsException") (by decide +kernel), hY ("java/lang/IllegalStateException", "java/lang/IndexOutOfBoundsException") (by decide)⟩) (by decide) (by decide) (hts (.classLink RL 18 "java/lang/IllegalStateException") (by decide +kernel)) hS (fun q9 H1 hz hk hS => ?_)
  have hW9 := HrC.grow (x := x) ⟨hWro, hM, hM2, hWhi, hWto, hWtb, hWtn⟩ hk
  refine lv_astore_n (lv' := [(3, .ref (q9)), (0, .ref (x)), (1, .int (r)), (2, .int (bI (y)))]) hx hb dL_strike_10 rfl hl (by decide) rfl (fun ls hl => ?_)
  refine lv_bipush (v := -2) hx hb dL_strike_11 (by decide) ?_
  exact kx_iretN hx hb hrt hlk rfl hW9 hS (Nat.le_of_ble_eq_true rfl) (Nat.le_of_ble_eq_true rfl) dL_strike_13
set_option maxHeartbeats 2500000 in
set_option maxRecDepth 100000 in
theorem k_L_write (l : Launch) (D : va_G) (cs : Nat → ClassId) (x : Nat) (e : Nat → Int32) (g : Nat → Int64) (e1 : Nat → Int32) (g1 : Nat → Int64) (nx cn : Nat) (se : Nat → Nat → Int32) (sg : Nat → Nat → Int64) (b nn : Nat → Int32) (wd ln pa : Nat) (ft : Int32) (y : Nat) (v : Int32) (hI : Inv e) (hG : Msk e g) (hnx : nx < 4) (hcn : cn ≤ 4) (hw : wwr e (nI y) v = 0) (hy : y < 48) (L : Nat) (hL : L ≤ x) (hfl : l.stackTraces = false) : Met l yL_write wsL_write ({ frames := 5, cells := 0, slots := 0, locals := 134 } : Room) (PcY D cs L [.ref (x), .int (nI (y)), .int (v)] (fun H => HrC D cs x e g e1 g1 nx cn se sg b nn wd ln pa ft H)) (QcM (some (.int (e (8 + y)))) (fun H => HrC D cs x ((upd e (8 + y) v)) g e1 g1 (((nx + 1) % 4)) ((min (cn + 1) 4)) ((hsE se nx (cfF (se nx) e))) ((hsG sg nx (cgM (sg nx) g (Mn e)))) b nn wd ln pa ft H) (rgR x)) 0 0 (rgR x) := by
  refine kx_metY (cc := cL_write) (maxL := 4) (ret := (some .int)) (by decide) rfl (Nat.le_of_ble_eq_true rfl) ?_
  intro p en s m args below meth c hx hb hml hrt hts hown hlk hK hN hX hY htb hP ls hl
  have hl : lv_has ls 4 [(0, .ref (x)), (1, .int (nI (y))), (2, .int (v))] := hl
  obtain ⟨H, hHe⟩ : ∃ H : Heap, H = s.heap := ⟨_, rfl⟩
  rw [← hHe] at hP ⊢
  have hS : va_S ((rgR x)) s.heap H [] := by rw [← hHe]; exact va_S.rf
  obtain ⟨hWro, hM, hM2, hWhi, hWto, hWtb, hWtn⟩ := hP
  refine lv_aload_n hx hb dL_write_0 rfl (lv_at hl 0 rfl) ?_
  refine lv_iload_n hx hb dL_write_1 rfl (lv_at hl 1 rfl) ?_
  refine lv_iload_n hx hb dL_write_2 rfl (lv_at hl 2 rfl) ?_
  refine kx_retM (va_runV (As := [.int (nI (y)), .int (v)]) (rest := []) ⟨hx, hb, hml, hown, hts⟩ (k_X7_write l D cs x e g e1 g1 nx cn se sg b nn wd ln pa ft y v hI hG hnx hcn hw hy) (cwV 2 hts gL_write_X7_write rfl rfl rfl (by decide +kernel) ⟨Nat.le_of_ble_eq_true rfl, Nat.le_of_ble_eq_true rfl⟩) (kx_preV hK hN hWro rfl ⟨hWro, hM, hM2, hWhi, hWto, hWtb, hWtn⟩) rfl rfl hl.1 rfl (lv_room (Nat.le_of_ble_eq_true rfl)) dL_write_3 ⟨Nat.le_of_ble_eq_true rfl, Nat.le_of_ble_eq_true rfl⟩) hS (fun x _ h => (by first | exact h | (have h1 := h.1; have h2 := h.2; exact ⟨by omega, by omega⟩) | (rcases h with h | h <;> (have h1 := h.1; have h2 := h.2; exact ⟨by omega, by omega⟩)))) (fun x h => (by first | exact h | (have h1 := h.1; have h2 := h.2; exact ⟨by omega, by omega⟩) | (rcases h with h | h <;> (have h1 := h.1; have h2 := h.2; exact ⟨by omega, by omega⟩)))) (fun H locs hMN hk hS => ?_)
  obtain ⟨hWro, hM, hM2, hWhi, hWto, hWtb, hWtn⟩ := hMN
  clear hk
  exact kx_iretM hx hb hrt hlk rfl ⟨hWro, hM, hM2, hWhi, hWto, hWtb, hWtn⟩ hS dL_write_6
set_option maxHeartbeats 2500000 in
set_option maxRecDepth 100000 in
theorem k_L_writeT3 (l : Launch) (D : va_G) (cs : Nat → ClassId) (x : Nat) (e : Nat → Int32) (g : Nat → Int64) (e1 : Nat → Int32) (g1 : Nat → Int64) (nx cn : Nat) (se : Nat → Nat → Int32) (sg : Nat → Nat → Int64) (b nn : Nat → Int32) (wd ln pa : Nat) (ft : Int32) (y v : Int32) (hI : Inv e) (hG : Msk e g) (hw : wwr e y v = 3) (L : Nat) (hL : L ≤ x) (hfl : l.stackTraces = false) : Met l yL_write wsL_write ({ frames := 8, cells := 1, slots := 6, locals := 134 } : Room) (PcY D cs L [.ref (x), .int (y), .int (v)] (fun H => HrC D cs x e g e1 g1 nx cn se sg b nn wd ln pa ft H)) (QcM (some (.int ((-1003)))) (fun H => HrC D cs x e g e1 g1 nx cn se sg b nn wd ln pa ft H) (rgR x)) 1 6 (rgR x) := by
  refine kx_metY (cc := cL_write) (maxL := 4) (ret := (some .int)) (by decide) rfl (Nat.le_of_ble_eq_true rfl) ?_
  intro p en s m args below meth c hx hb hml hrt hts hown hlk hK hN hX hY htb hP ls hl
  have hl : lv_has ls 4 [(0, .ref (x)), (1, .int (y)), (2, .int (v))] := hl
  obtain ⟨H, hHe⟩ : ∃ H : Heap, H = s.heap := ⟨_, rfl⟩
  rw [← hHe] at hP ⊢
  have hS : va_S ((rgR x)) s.heap H [] := by rw [← hHe]; exact va_S.rf
  obtain ⟨hWro, hM, hM2, hWhi, hWto, hWtb, hWtn⟩ := hP
  have hX0 : XK (fun y9 => L ≤ y9) s s.heap := hX
  have hX : XK (fun y9 => L ≤ y9) s H := by rw [hHe]; exact hX0
  refine lv_aload_n hx hb dL_write_0 rfl (lv_at hl 0 rfl) ?_
  refine lv_iload_n hx hb dL_write_1 rfl (lv_at hl 1 rfl) ?_
  refine lv_iload_n hx hb dL_write_2 rfl (lv_at hl 2 rfl) ?_
  refine kx_catch (own := RL) (L := L) (vx_runV (As := [.int (y), .int (v)]) (rest := []) ⟨hx, hb, hml, hown, hts⟩ (k_X7_writeT3 l D cs x e g e1 g1 nx cn se sg b nn wd ln pa ft y v hI hG hw L (by first | assumption | omega) (by first | assumption | omega)) (cwV 2 hts gL_write_X7_write rfl rfl rfl (by decide +kernel) ⟨Nat.le_of_ble_eq_true rfl, Nat.le_of_ble_eq_true rfl⟩) (kx_preXV hK hN hX hWro rfl ⟨hWro, hM, hM2, hWhi, hWto, hWtb, hWtn⟩) rfl rfl hl.1 rfl (lv_room (Nat.le_of_ble_eq_true rfl)) dL_write_3 ⟨Nat.le_of_ble_eq_true rfl, Nat.le_of_ble_eq_true rfl⟩) hown (hX0) (by decide) (tableOf [(0, 6, 7, 16), (0, 6, 12, 28)]) ⟨0, 6, 17, 18⟩ (tableOf []) htb (fun z hz => by
    simp only [tableOf, List.map, List.mem_cons, List.not_mem_nil, or_false] at hz
    rcases hz with rfl | rfl
    · exact Or.inr ⟨by decide, "java/lang/IndexOutOfBoundsException", hts (.classLink RL 16 "java/lang/IndexOutOfBoundsException") (by decide +kernel), hY ("java/lang/IllegalStateException", "java/lang/IndexOutOfBoundsException") (by decide)⟩
    · exact Or.inr ⟨by decide, "java/lang/IllegalArgumentException", hts (.classLink RL 28 "java/lang/IllegalArgumentException") (by decide +kernel), hY ("java/lang/IllegalStateException", "java/lang/IllegalArgumentException") (by decide)⟩) (by decide) (by decide) (hts (.classLink RL 18 "java/lang/IllegalStateException") (by decide +kernel)) hS (fun q9 H1 hz hk hS => ?_)
  have hW9 := HrC.grow (x := x) ⟨hWro, hM, hM2, hWhi, hWto, hWtb, hWtn⟩ hk
  refine lv_astore_n (lv' := [(3, .ref (q9)), (0, .ref (x)), (1, .int (y)), (2, .int (v))]) hx hb dL_write_17 rfl hl (by decide) rfl (fun ls hl => ?_)
  refine lv_sipush (v := -1003) hx hb dL_write_18 (by decide) ?_
  exact kx_iretN hx hb hrt hlk rfl hW9 hS (Nat.le_of_ble_eq_true rfl) (Nat.le_of_ble_eq_true rfl) dL_write_21
