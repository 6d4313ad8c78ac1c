set_option maxHeartbeats 2500000 in
set_option maxRecDepth 100000 in
theorem k_X7_digestCells (l : Launch) (D : va_G) (cs : Nat → ClassId) (x : Nat) (e : Nat → Int32) (g : Nat → Int64) (e1 : Nat → Int32) (g1 : Nat → Int64) (nx cn : Nat) (se : Nat → Nat → Int32) (sg : Nat → Nat → Int64) (b nn : Nat → Int32) (wd ln pa : Nat) (ft : Int32) (h0 : Int64) (hI : Inv e) : Met l yX7_digestCells wsX7_digestCells ({ frames := 4, cells := 0, slots := 0, locals := 111 } : Room) (PcK D cs [.ref (x), .long (h0)] (fun H => HrC D cs x e g e1 g1 nx cn se sg b nn wd ln pa ft H)) (QcM (some (.long (dgC e (fnF (cfF e1 e)) h0 48))) (fun H => HrC D cs x e g ((fnF (cfF e1 e))) ((cgM g1 g (Mn e))) nx cn se sg b nn wd ln pa ft H) (rgR x)) 0 0 ((rgR x)) := by
  refine kx_met (cc := cX7_digestCells) (maxL := 6) (ret := (some .long)) (by decide) rfl (Nat.le_of_ble_eq_true rfl) ?_
  intro p en s m args below meth c hx hb hml hrt hts hown hlk hK hN hP ls hl
  have hl : lv_has ls 6 [(0, .ref (x)), (1, .long (h0))] := hl
  obtain ⟨H, hHe⟩ : ∃ H : Heap, H = s.heap := ⟨_, rfl⟩
  rw [← hHe] at hP ⊢
  have hS : va_S ((rgR x)) s.heap H [] := by rw [← hHe]; exact va_S.rf
  have hinX5 : ∀ w ∈ wsX50, w ∈ wsX7_digestCells := by decide +kernel
  have hinX7 : ∀ w ∈ wsX70, w ∈ wsX7_digestCells := by decide +kernel
  obtain ⟨hWro, hM, hM2, hWhi, hWto, hWtb, hWtn⟩ := hP
  refine lv_aload_n hx hb dX7_digestCells_0 rfl (lv_at hl 0 rfl) ?_
  refine kx_retM (va_runV (As := []) (rest := []) ⟨hx, hb, hml, hown, hts⟩ (k_X7_tryFinish l D cs x e g e1 g1 nx cn se sg b nn wd ln pa ft hI) (cwV 0 hts gX7_digestCells_X7_tryFinish rfl rfl rfl (by decide +kernel) ⟨Nat.le_of_ble_eq_true rfl, Nat.le_of_ble_eq_true rfl⟩) (kx_preV hK hN hWro rfl ⟨hWro, hM, hM2, hWhi, hWto, hWtb, hWtn⟩) rfl rfl hl.1 rfl (lv_room (Nat.le_of_ble_eq_true rfl)) dX7_digestCells_1 ⟨Nat.le_of_ble_eq_true rfl, Nat.le_of_ble_eq_true rfl⟩) hS (fun x _ h => (by first | exact h | (have h1 := h.1; have h2 := h.2; exact ⟨by omega, by omega⟩) | (rcases h with h | h <;> (have h1 := h.1; have h2 := h.2; exact ⟨by omega, by omega⟩)))) (fun x h => (by first | exact h | (have h1 := h.1; have h2 := h.2; exact ⟨by omega, by omega⟩) | (rcases h with h | h <;> (have h1 := h.1; have h2 := h.2; exact ⟨by omega, by omega⟩)))) (fun H locs hMN hk hS => ?_)
  obtain ⟨hWro, hM, hM2, hWhi, hWto, hWtb, hWtn⟩ := hMN
  clear hk
  refine lv_lload_n hx hb dX7_digestCells_4 rfl (lv_at hl 1 rfl) ?_
  refine lv_lstore_n (lv' := [(3, .long (h0)), (0, .ref (x)), (1, .long (h0))]) hx hb dX7_digestCells_5 rfl hl (by decide) rfl (fun ls hl => ?_)
  refine lv_iconst (v := nI 0) hx hb dX7_digestCells_6 (by decide) ?_
  refine lv_istore (lv' := [(5, .int (nI (0))), (3, .long (h0)), (0, .ref (x)), (1, .long (h0))]) hx hb dX7_digestCells_7 hl (by decide) rfl (fun ls hl => ?_)
  have J9 : ∀ (fu9 : Nat) (k : Nat) (H : Heap) (locs : List Loc) (ls : Array Slot), (48 - k) < fu9 → (k ≤ 48) → (HiC D cs (x + 119) nx cn se sg H) → (va_at D vwCl (x, .inr (5, [.ref (x + 1), .ref (x + 60), .ref (x + 119), .ref (x + 357)])) H) → (StC D cs (x + 1) e g H) → (StC D cs (x + 60) ((fnF (cfF e1 e))) ((cgM g1 g (Mn e))) H) → (va_at D vwCl (x + 357 + 1, .inl (cs 1, 150, .inl b)) H) → (va_at D vwCl (x + 357 + 2, .inl (cs 0, 5, .inl nn)) H) → (va_at D vwCl (x + 357, .inr (0, [.ref (x + 357 + 1), .ref (x + 357 + 2), .ref (wd), .int (nI (ln)), .int (nI (pa)), .int (ft)])) H) → va_S ((rgR x)) s.heap H locs → lv_has ls 6 [(0, .ref (x)), (1, .long (h0)), (3, .long (dgC e (fnF (cfF e1 e)) h0 k)), (5, .int (nI (k)))] → W p l en ({ frames := 4, cells := 0, slots := 0, locals := 111 } : Room) s m args below meth c H locs 0 0 (MQ below (QcM (some (.long (dgC e (fnF (cfF e1 e)) h0 48))) (fun H => HrC D cs x e g ((fnF (cfF e1 e))) ((cgM g1 g (Mn e))) nx cn se sg b nn wd ln pa ft H) (rgR x)) args s 0 0 ((rgR x))) (F0 m 9 ls []) := by
    intro fu9; induction fu9 with
    | zero => intro k H locs ls hmu9 hk hWhi hWro hM hM2 hWtb hWtn hWto hS hl; exact absurd hmu9 (Nat.not_lt_zero _)
    | succ fu9 ih9 =>
      intro k H locs ls hmu9 hk hWhi hWro hM hM2 hWtb hWtn hWto hS hl
      refine lv_iload hx hb dX7_digestCells_9 (lv_at hl 3 rfl) ?_
      refine lv_bipush (v := nI 48) hx hb dX7_digestCells_11 (by decide) ?_
      refine kn_icmp_ge (tgt := 58) hx hb dX7_digestCells_13 (by decide) (by omega) (by decide) (fun c_1 => ?_) (fun c_1 => ?_)
      · have hk48 : k = 48 := by omega
        subst hk48
        have hl : lv_has ls 6 [(0, .ref (x)), (1, .long (h0)), (3, .long (dgC e (fnF (cfF e1 e)) h0 48)), (5, .int (nI (48)))] := hl
        refine lv_lload_n hx hb dX7_digestCells_58 rfl (lv_at hl 2 rfl) ?_
        exact kx_lretM hx hb hrt hlk rfl ⟨hWro, hM, hM2, hWhi, hWto, hWtb, hWtn⟩ hS dX7_digestCells_59
      · refine lv_ldc2 hx hb hown (hts (.constantLong RX7 225 (31)) (by decide +kernel)) dX7_digestCells_16 ?_
        refine lv_lload_n hx hb dX7_digestCells_19 rfl (lv_at hl 2 rfl) ?_
        refine lv_lmul hx hb dX7_digestCells_20 ?_
        refine lv_aload_n hx hb dX7_digestCells_21 rfl (lv_at hl 0 rfl) ?_
        refine kx_get (v := .ref (x + 1)) hx hb hts hinX7 hown hK hWro rfl 0 (by decide) (by decide +kernel) rfl dX7_digestCells_22 ?_
        refine kx_get (v := .ref (x + 1 + 1)) hx hb hts hinX5 hown hK hM.obj rfl 0 (by decide) (by decide +kernel) rfl dX7_digestCells_25 ?_
        refine lv_iload hx hb dX7_digestCells_28 (lv_at hl 3 rfl) ?_
        refine kx_iald (i := k) hx hb hK hM.cells 0 rfl (by omega) (by decide) dX7_digestCells_30 ?_
        refine lv_i2l hx hb dX7_digestCells_31 rfl ?_
        refine lv_ladd hx hb dX7_digestCells_32 ?_
        refine kx_cl (x := (31 * (dgC e (fnF (cfF e1 e)) h0 k)) + ((e (8 + k)).toInt64)) (y := dS (dgC e (fnF (cfF e1 e)) h0 k) (e (8 + k)).toInt64) (dS_e _ _) ?_
        refine lv_lstore_n (lv' := [(3, .long (dS (dgC e (fnF (cfF e1 e)) h0 k) (e (8 + k)).toInt64)), (0, .ref (x)), (1, .long (h0)), (5, .int (nI (k)))]) hx hb dX7_digestCells_33 rfl hl (by decide) rfl (fun ls hl => ?_)
        refine lv_ldc2 hx hb hown (hts (.constantLong RX7 225 (31)) (by decide +kernel)) dX7_digestCells_34 ?_
        refine lv_lload_n hx hb dX7_digestCells_37 rfl (lv_at hl 0 rfl) ?_
        refine lv_lmul hx hb dX7_digestCells_38 ?_
        refine lv_aload_n hx hb dX7_digestCells_39 rfl (lv_at hl 1 rfl) ?_
        refine kx_get (v := .ref (x + 60)) hx hb hts hinX7 hown hK hWro rfl 1 (by decide) (by decide +kernel) rfl dX7_digestCells_40 ?_
        refine kx_get (v := .ref (x + 60 + 1)) hx hb hts hinX5 hown hK hM2.obj rfl 0 (by decide) (by decide +kernel) rfl dX7_digestCells_43 ?_
        refine lv_iload hx hb dX7_digestCells_46 (lv_at hl 3 rfl) ?_
        refine kx_iald (i := k) hx hb hK hM2.cells 0 rfl (by omega) (by decide) dX7_digestCells_48 ?_
        refine lv_i2l hx hb dX7_digestCells_49 rfl ?_
        refine lv_ladd hx hb dX7_digestCells_50 ?_
        refine kx_cl (x := (31 * (dS (dgC e (fnF (cfF e1 e)) h0 k) (e (8 + k)).toInt64)) + ((((fnF (cfF e1 e))) (8 + k)).toInt64)) (y := dgC e (fnF (cfF e1 e)) h0 (k + 1)) (dgC_s _ _ _ _) ?_
        refine lv_lstore_n (lv' := [(3, .long (dgC e (fnF (cfF e1 e)) h0 (k + 1))), (0, .ref (x)), (1, .long (h0)), (5, .int (nI (k)))]) hx hb dX7_digestCells_51 rfl hl (by decide) rfl (fun ls hl => ?_)
        refine lv_iinc (v := nI (k + 1)) (lv' := [(5, .int (nI (k + 1))), (3, .long (dgC e (fnF (cfF e1 e)) h0 (k + 1))), (0, .ref (x)), (1, .long (h0))]) (k := 3) hx hb dX7_digestCells_52 hl rfl (nI_add _ _) (by decide) rfl (fun ls hl => ?_)
        refine lv_goto (tgt := 9) hx hb dX7_digestCells_55 (by decide) ?_
        exact ih9 (k + 1) _ _ _ (by omega) (by omega) hWhi hWro hM hM2 hWtb hWtn hWto hS (lv_sub hl [2, 3, 1, 0] rfl)
  exact J9 _ 0 _ _ _ (Nat.lt_succ_self _) (by omega) hWhi hWro hM hM2 hWtb hWtn hWto hS (by rw [dgC_0]; exact lv_sub hl [2, 3, 1, 0] rfl)
set_option maxHeartbeats 2500000 in
set_option maxRecDepth 100000 in
theorem k_X7_digestRings (l : Launch) (D : va_G) (cs : Nat → ClassId) (x : Nat) (e : Nat → Int32) (g : Nat → Int64) (e1 : Nat → Int32) (g1 : Nat → Int64) (nx cn : Nat) (se : Nat → Nat → Int32) (sg : Nat → Nat → Int64) (b nn : Nat → Int32) (wd ln pa : Nat) (ft : Int32) (h0 : Int64) (hI : Inv e) : Met l yX7_digestRings wsX7_digestRings ({ frames := 3, cells := 0, slots := 0, locals := 67 } : Room) (PcK D cs [.ref (x), .long (h0)] (fun H => HrC D cs x e g e1 g1 nx cn se sg b nn wd ln pa ft H)) (QcP (some (.long (dgR e h0 (Rn e))))) 0 0 nowhere := by
  refine kx_met (cc := cX7_digestRings) (maxL := 7) (ret := (some .long)) (by decide) rfl (Nat.le_of_ble_eq_true rfl) ?_
  intro p en s m args below meth c hx hb hml hrt hts hown hlk hK hN hP ls hl
  have hl : lv_has ls 7 [(0, .ref (x)), (1, .long (h0))] := hl
  have hinX5 : ∀ w ∈ wsX50, w ∈ wsX7_digestRings := by decide +kernel
  have hinX7 : ∀ w ∈ wsX70, w ∈ wsX7_digestRings := by decide +kernel
  obtain ⟨hWro, hM, hM2, hWhi, hWto, hWtb, hWtn⟩ := hP
  have h24 := hI.M24
  have h6 := hI.R6
  refine lv_lload_n hx hb dX7_digestRings_0 rfl (lv_at hl 1 rfl) ?_
  refine lv_lstore_n (lv' := [(3, .long (h0)), (0, .ref (x)), (1, .long (h0))]) hx hb dX7_digestRings_1 rfl hl (by decide) rfl (fun ls hl => ?_)
  refine lv_iconst (v := nI 0) hx hb dX7_digestRings_2 (by decide) ?_
  refine lv_istore (lv' := [(5, .int (nI (0))), (3, .long (h0)), (0, .ref (x)), (1, .long (h0))]) hx hb dX7_digestRings_3 hl (by decide) rfl (fun ls hl => ?_)
  have J5 : ∀ (fu5 : Nat) (r : Nat) (ls : Array Slot), (Rn e - r) < fu5 → (r ≤ Rn e) → lv_has ls 7 [(0, .ref (x)), (1, .long (h0)), (3, .long (dgR e h0 r)), (5, .int (nI (r)))] → W p l en ({ frames := 3, cells := 0, slots := 0, locals := 67 } : Room) s m args below meth c s.heap [] 0 0 (MQ below (QcP (some (.long (dgR e h0 (Rn e))))) args s 0 0 nowhere) (F0 m 5 ls []) := by
    intro fu5; induction fu5 with
    | zero => intro r ls hmu5 hr hl; exact absurd hmu5 (Nat.not_lt_zero _)
    | succ fu5 ih5 =>
      intro r ls hmu5 hr hl
      refine lv_iload hx hb dX7_digestRings_5 (lv_at hl 3 rfl) ?_
      refine lv_aload_n hx hb dX7_digestRings_7 rfl (lv_at hl 0 rfl) ?_
      refine kx_get (v := .ref (x + 1)) hx hb hts hinX7 hown hK hWro rfl 0 (by decide) (by decide +kernel) rfl dX7_digestRings_8 ?_
      refine kx_get (v := .int (e 3)) hx hb hts hinX5 hown hK hM.obj rfl 4 (by decide) (by decide +kernel) rfl dX7_digestRings_11 ?_
      refine kx_ci (x := e 3) (y := nI (Rn e)) (Inv.z3 hI) ?_
      refine kn_icmp_ge (tgt := 58) hx hb dX7_digestRings_14 (by decide) (by omega) (by omega) (fun c_1 => ?_) (fun c_1 => ?_)
      · have hrr : r = Rn e := by omega
        subst hrr
        have hl : lv_has ls 7 [(0, .ref (x)), (1, .long (h0)), (3, .long (dgR e h0 (Rn e))), (5, .int (nI ((Rn e))))] := hl
        refine lv_lload_n hx hb dX7_digestRings_58 rfl (lv_at hl 2 rfl) ?_
        exact kx_lretP hx hb hrt hlk rfl dX7_digestRings_59
      · refine lv_iconst (v := nI 0) hx hb dX7_digestRings_17 (by decide) ?_
        refine lv_istore (lv' := [(6, .int (nI (0))), (0, .ref (x)), (1, .long (h0)), (3, .long (dgR e h0 r)), (5, .int (nI (r)))]) hx hb dX7_digestRings_18 hl (by decide) rfl (fun ls hl => ?_)
        have J20 : ∀ (fu20 : Nat) (k : Nat) (ls : Array Slot), (8 - k) < fu20 → (k ≤ 8) → lv_has ls 7 [(0, .ref (x)), (1, .long (h0)), (3, .long (dgRw e r (dgR e h0 r) k)), (5, .int (nI (r))), (6, .int (nI (k)))] → W p l en ({ frames := 3, cells := 0, slots := 0, locals := 67 } : Room) s m args below meth c s.heap [] 0 0 (MQ below (QcP (some (.long (dgR e h0 (Rn e))))) args s 0 0 nowhere) (F0 m 20 ls []) := by
          intro fu20; induction fu20 with
          | zero => intro k ls hmu20 hk hl; exact absurd hmu20 (Nat.not_lt_zero _)
          | succ fu20 ih20 =>
            intro k ls hmu20 hk hl
            refine lv_iload hx hb dX7_digestRings_20 (lv_at hl 4 rfl) ?_
            refine lv_bipush (v := nI 7) hx hb dX7_digestRings_22 (by decide) ?_
            refine kn_icmp_gt (tgt := 52) hx hb dX7_digestRings_24 (by decide) (by omega) (by decide) (fun c_2 => ?_) (fun c_2 => ?_)
            · have hk8 : k = 8 := by omega
              subst hk8
              have hl : lv_has ls 7 [(0, .ref (x)), (1, .long (h0)), (3, .long (dgR e h0 (r + 1))), (5, .int (nI (r))), (6, .int (nI (8)))] := by rw [← dgR_s]; exact hl
              refine lv_iinc (v := nI (r + 1)) (lv' := [(5, .int (nI (r + 1))), (0, .ref (x)), (1, .long (h0)), (3, .long (dgR e h0 (r + 1))), (6, .int (nI (8)))]) (k := 3) hx hb dX7_digestRings_52 hl rfl (nI_add _ _) (by decide) rfl (fun ls hl => ?_)
              refine lv_goto (tgt := 5) hx hb dX7_digestRings_55 (by decide) ?_
              exact ih5 (r + 1) _ (by omega) (by omega) (lv_sub hl [1, 2, 3, 0] rfl)
            · refine lv_ldc2 hx hb hown (hts (.constantLong RX7 225 (31)) (by decide +kernel)) dX7_digestRings_27 ?_
              refine lv_lload_n hx hb dX7_digestRings_30 rfl (lv_at hl 2 rfl) ?_
              refine lv_lmul hx hb dX7_digestRings_31 ?_
              refine lv_aload_n hx hb dX7_digestRings_32 rfl (lv_at hl 0 rfl) ?_
              refine kx_get (v := .ref (x + 1)) hx hb hts hinX7 hown hK hWro rfl 0 (by decide) (by decide +kernel) rfl dX7_digestRings_33 ?_
              refine lv_iload hx hb dX7_digestRings_36 (lv_at hl 3 rfl) ?_
              refine lv_iload hx hb dX7_digestRings_38 (lv_at hl 4 rfl) ?_
              refine kx_retP (va_runV (As := [.int (nI (r)), .int (nI (k))]) (rest := [.long (31 * (dgRw e r (dgR e h0 r) k))]) ⟨hx, hb, hml, hown, hts⟩ (k_X5_ringPart l D cs (x + 1) e g r k hI (by omega) (by omega)) (cwV 2 hts gX7_digestRings_X5_ringPart rfl rfl rfl (by decide +kernel) ⟨Nat.le_of_ble_eq_true rfl, Nat.le_of_ble_eq_true rfl⟩) (kx_preV hK hN hM.obj rfl hM) rfl rfl hl.1 rfl (lv_room (Nat.le_of_ble_eq_true rfl)) dX7_digestRings_40 ⟨Nat.le_of_ble_eq_true rfl, Nat.le_of_ble_eq_true rfl⟩) ?_
              refine lv_i2l hx hb dX7_digestRings_43 rfl ?_
              refine lv_ladd hx hb dX7_digestRings_44 ?_
              refine kx_cl (x := (31 * (dgRw e r (dgR e h0 r) k)) + ((rvI e r k).toInt64)) (y := dgRw e r (dgR e h0 r) (k + 1)) (dgRw_s _ _ _ _) ?_
              refine lv_lstore_n (lv' := [(3, .long (dgRw e r (dgR e h0 r) (k + 1))), (0, .ref (x)), (1, .long (h0)), (5, .int (nI (r))), (6, .int (nI (k)))]) hx hb dX7_digestRings_45 rfl hl (by decide) rfl (fun ls hl => ?_)
              refine lv_iinc (v := nI (k + 1)) (lv' := [(6, .int (nI (k + 1))), (3, .long (dgRw e r (dgR e h0 r) (k + 1))), (0, .ref (x)), (1, .long (h0)), (5, .int (nI (r)))]) (k := 4) hx hb dX7_digestRings_46 hl rfl (nI_add _ _) (by decide) rfl (fun ls hl => ?_)
              refine lv_goto (tgt := 20) hx hb dX7_digestRings_49 (by decide) ?_
              exact ih20 (k + 1) _ (by omega) (by omega) (lv_sub hl [2, 3, 1, 4, 0] rfl)
        exact J20 _ 0 _ (Nat.lt_succ_self _) (by omega) (by rw [dgRw_0]; exact lv_sub hl [1, 2, 3, 4, 0] rfl)
  exact J5 _ 0 _ (Nat.lt_succ_self _) (by omega) (by rw [dgR_0]; exact lv_sub hl [2, 3, 1, 0] rfl)
set_option maxHeartbeats 2500000 in
set_option maxRecDepth 100000 in
theorem k_X7_digestMoves (l : Launch) (D : va_G) (cs : Nat → ClassId) (x : Nat) (e : Nat → Int32) (g : Nat → Int64) (e1 : Nat → Int32) (g1 : Nat → Int64) (nx cn : Nat) (se : Nat → Nat → Int32) (sg : Nat → Nat → Int64) (b nn : Nat → Int32) (wd ln pa : Nat) (ft : Int32) (h0 : Int64) (hI : Inv e) (hG : Msk e g) : Met l yX7_digestMoves wsX7_digestMoves ({ frames := 3, cells := 0, slots := 0, locals := 70 } : Room) (PcK D cs [.ref (x), .long (h0)] (fun H => HrC D cs x e g e1 g1 nx cn se sg b nn wd ln pa ft H)) (QcM (some (.long (dgM e h0 (Mn e)))) (fun H => ∃ y' : Nat → Int32, EI e y' ∧ HrC D cs x y' g e1 g1 nx cn se sg b nn wd ln pa ft H) (rgR x)) 0 0 ((rgR x)) := by
  refine kx_met (cc := cX7_digestMoves) (maxL := 9) (ret := (some .long)) (by decide) rfl (Nat.le_of_ble_eq_true rfl) ?_
  intro p en s m args below meth c hx hb hml hrt hts hown hlk hK hN hP ls hl
  have hl : lv_has ls 9 [(0, .ref (x)), (1, .long (h0))] := hl
  obtain ⟨H, hHe⟩ : ∃ H : Heap, H = s.heap := ⟨_, rfl⟩
  rw [← hHe] at hP ⊢
  have hS : va_S ((rgR x)) s.heap H [] := by rw [← hHe]; exact va_S.rf
  have hinX5 : ∀ w ∈ wsX50, w ∈ wsX7_digestMoves := by decide +kernel
  have hinX7 : ∀ w ∈ wsX70, w ∈ wsX7_digestMoves := by decide +kernel
  obtain ⟨hWro, hM, hM2, hWhi, hWto, hWtb, hWtn⟩ := hP
  have h24 := hI.M24
  have h6 := hI.R6
  refine lv_lload_n hx hb dX7_digestMoves_0 rfl (lv_at hl 1 rfl) ?_
  refine lv_lstore_n (lv' := [(3, .long (h0)), (0, .ref (x)), (1, .long (h0))]) hx hb dX7_digestMoves_1 rfl hl (by decide) rfl (fun ls hl => ?_)
  refine lv_iconst (v := nI 0) hx hb dX7_digestMoves_2 (by decide) ?_
  refine lv_istore (lv' := [(5, .int (nI (0))), (3, .long (h0)), (0, .ref (x)), (1, .long (h0))]) hx hb dX7_digestMoves_3 hl (by decide) rfl (fun ls hl => ?_)
  have J5 : ∀ (fu5 : Nat) (q : Nat) (y : Nat → Int32) (H : Heap) (locs : List Loc) (ls : Array Slot), (Mn e - q) < fu5 → (q ≤ Mn e) → (EI e y) → (HiC D cs (x + 119) nx cn se sg H) → (va_at D vwCl (x, .inr (5, [.ref (x + 1), .ref (x + 60), .ref (x + 119), .ref (x + 357)])) H) → (StC D cs (x + 1) y g H) → (StC D cs (x + 60) e1 g1 H) → (va_at D vwCl (x + 357 + 1, .inl (cs 1, 150, .inl b)) H) → (va_at D vwCl (x + 357 + 2, .inl (cs 0, 5, .inl nn)) H) → (va_at D vwCl (x + 357, .inr (0, [.ref (x + 357 + 1), .ref (x + 357 + 2), .ref (wd), .int (nI (ln)), .int (nI (pa)), .int (ft)])) H) → va_S ((rgR x)) s.heap H locs → lv_has ls 9 [(0, .ref (x)), (1, .long (h0)), (3, .long (dgM e h0 q)), (5, .int (nI (q)))] → W p l en ({ frames := 3, cells := 0, slots := 0, locals := 70 } : Room) s m args below meth c H locs 0 0 (MQ below (QcM (some (.long (dgM e h0 (Mn e)))) (fun H => ∃ y' : Nat → Int32, EI e y' ∧ HrC D cs x y' g e1 g1 nx cn se sg b nn wd ln pa ft H) (rgR x)) args s 0 0 ((rgR x))) (F0 m 5 ls []) := by
    intro fu5; induction fu5 with
    | zero => intro q y H locs ls hmu5 hq hey hWhi hWro hM hM2 hWtb hWtn hWto hS hl; exact absurd hmu5 (Nat.not_lt_zero _)
    | succ fu5 ih5 =>
      intro q y H locs ls hmu5 hq hey hWhi hWro hM hM2 hWtb hWtn hWto hS hl
      have hIy := ev_R hey
      have hMy := hey.M
      have hGy := hG.eqv hI hey.1
      refine lv_iload hx hb dX7_digestMoves_5 (lv_at hl 3 rfl) ?_
      refine lv_aload_n hx hb dX7_digestMoves_7 rfl (lv_at hl 0 rfl) ?_
      refine kx_get (v := .ref (x + 1)) hx hb hts hinX7 hown hK hWro rfl 0 (by decide) (by decide +kernel) rfl dX7_digestMoves_8 ?_
      refine kx_get (v := .int (y 4)) hx hb hts hinX5 hown hK hM.obj rfl 5 (by decide) (by decide +kernel) rfl dX7_digestMoves_11 ?_
      refine kx_ci (x := y 4) (y := nI (Mn e)) ((hIy.z4).trans (by rw [hMy])) ?_
      refine kn_icmp_ge (tgt := 138) hx hb dX7_digestMoves_14 (by decide) (by omega) (by omega) (fun c_1 => ?_) (fun c_1 => ?_)
      · have hqq : q = Mn e := by omega
        subst hqq
        have hl : lv_has ls 9 [(0, .ref (x)), (1, .long (h0)), (3, .long (dgM e h0 (Mn e))), (5, .int (nI ((Mn e))))] := hl
        refine lv_lload_n hx hb dX7_digestMoves_138 rfl (lv_at hl 2 rfl) ?_
        exact kx_lretM hx hb hrt hlk rfl ⟨y, hey, hWro, hM, hM2, hWhi, hWto, hWtb, hWtn⟩ hS dX7_digestMoves_139
      · have hqM : q < Mn e := by omega
        have hqy : q < Mn y := by omega
        have hc16 := hI.c16 hqM
        have hgl := hgN_le e q
        refine lv_aload_n hx hb dX7_digestMoves_17 rfl (lv_at hl 0 rfl) ?_
        refine kx_get (v := .ref (x + 1)) hx hb hts hinX7 hown hK hWro rfl 0 (by decide) (by decide +kernel) rfl dX7_digestMoves_18 ?_
        refine kx_get (v := .ref (x + 1 + 3)) hx hb hts hinX5 hown hK hM.obj rfl 2 (by decide) (by decide +kernel) rfl dX7_digestMoves_21 ?_
        refine lv_iload hx hb dX7_digestMoves_24 (lv_at hl 3 rfl) ?_
        refine kx_aald (i := q) hx hb hK hM.moves 3 rfl (by omega) (by decide) rfl dX7_digestMoves_26 ?_
        refine lv_astore (lv' := [(6, .ref (x + 1 + 11 + 2 * q)), (0, .ref (x)), (1, .long (h0)), (3, .long (dgM e h0 q)), (5, .int (nI (q)))]) hx hb dX7_digestMoves_27 hl (by decide) rfl (fun ls hl => ?_)
        refine lv_iconst (v := nI 0) hx hb dX7_digestMoves_29 (by decide) ?_
        refine lv_istore (lv' := [(7, .int (nI (0))), (6, .ref (x + 1 + 11 + 2 * q)), (0, .ref (x)), (1, .long (h0)), (3, .long (dgM e h0 q)), (5, .int (nI (q)))]) hx hb dX7_digestMoves_30 hl (by decide) rfl (fun ls hl => ?_)
        have J32 : ∀ (fu32 : Nat) (k : Nat) (H : Heap) (locs : List Loc) (ls : Array Slot), (10 - k) < fu32 → (k ≤ 10) → (HiC D cs (x + 119) nx cn se sg H) → (va_at D vwCl (x, .inr (5, [.ref (x + 1), .ref (x + 60), .ref (x + 119), .ref (x + 357)])) H) → (StC D cs (x + 1) y g H) → (StC D cs (x + 60) e1 g1 H) → (va_at D vwCl (x + 357 + 1, .inl (cs 1, 150, .inl b)) H) → (va_at D vwCl (x + 357 + 2, .inl (cs 0, 5, .inl nn)) H) → (va_at D vwCl (x + 357, .inr (0, [.ref (x + 357 + 1), .ref (x + 357 + 2), .ref (wd), .int (nI (ln)), .int (nI (pa)), .int (ft)])) H) → va_S ((rgR x)) s.heap H locs → lv_has ls 9 [(0, .ref (x)), (1, .long (h0)), (3, .long (dgMp e q (dgM e h0 q) k)), (5, .int (nI (q))), (6, .ref (x + 1 + 11 + 2 * q)), (7, .int (nI (k)))] → W p l en ({ frames := 3, cells := 0, slots := 0, locals := 70 } : Room) s m args below meth c H locs 0 0 (MQ below (QcM (some (.long (dgM e h0 (Mn e)))) (fun H => ∃ y' : Nat → Int32, EI e y' ∧ HrC D cs x y' g e1 g1 nx cn se sg b nn wd ln pa ft H) (rgR x)) args s 0 0 ((rgR x))) (F0 m 32 ls []) := by
          intro fu32; induction fu32 with
          | zero => intro k H locs ls hmu32 hk hWhi hWro hM hM2 hWtb hWtn hWto hS hl; exact absurd hmu32 (Nat.not_lt_zero _)
          | succ fu32 ih32 =>
            intro k H locs ls hmu32 hk hWhi hWro hM hM2 hWtb hWtn hWto hS hl
            refine lv_iload hx hb dX7_digestMoves_32 (lv_at hl 5 rfl) ?_
            refine lv_bipush (v := nI 9) hx hb dX7_digestMoves_34 (by decide) ?_
            refine kn_icmp_gt (tgt := 60) hx hb dX7_digestMoves_36 (by decide) (by omega) (by decide) (fun c_2 => ?_) (fun c_2 => ?_)
            · have hk10 : k = 10 := by omega
              subst hk10
              have hl : lv_has ls 9 [(0, .ref (x)), (1, .long (h0)), (3, .long (dgMp e q (dgM e h0 q) 10)), (5, .int (nI (q))), (6, .ref (x + 1 + 11 + 2 * q)), (7, .int (nI (10)))] := hl
              refine lv_aload hx hb dX7_digestMoves_60 (lv_at hl 4 rfl) ?_
              refine kx_retP (va_runV (As := []) (rest := []) ⟨hx, hb, hml, hown, hts⟩ (k_X3_countHostages l D cs (x + 1) y g q hIy hqy) (cwV 0 hts gX7_digestMoves_X3_countHostages rfl rfl rfl (by decide +kernel) ⟨Nat.le_of_ble_eq_true rfl, Nat.le_of_ble_eq_true rfl⟩) (kx_preV hK hN (hM.mv (m := q) (by omega)) rfl hM) rfl rfl hl.1 rfl (lv_room (Nat.le_of_ble_eq_true rfl)) dX7_digestMoves_62 ⟨Nat.le_of_ble_eq_true rfl, Nat.le_of_ble_eq_true rfl⟩) ?_
              refine kx_ci (x := nI (hgN y q)) (y := nI (hgN e q)) (congrArg nI (ev_hg hey hqM)) ?_
              refine lv_istore (lv' := [(7, .int (nI (hgN e q))), (0, .ref (x)), (1, .long (h0)), (3, .long (dgMp e q (dgM e h0 q) 10)), (5, .int (nI (q))), (6, .ref (x + 1 + 11 + 2 * q))]) hx hb dX7_digestMoves_65 hl (by decide) rfl (fun ls hl => ?_)
              refine lv_iconst (v := nI 0) hx hb dX7_digestMoves_67 (by decide) ?_
              refine lv_istore (lv' := [(8, .int (nI (0))), (7, .int (nI (hgN e q))), (0, .ref (x)), (1, .long (h0)), (3, .long (dgMp e q (dgM e h0 q) 10)), (5, .int (nI (q))), (6, .ref (x + 1 + 11 + 2 * q))]) hx hb dX7_digestMoves_68 hl (by decide) rfl (fun ls hl => ?_)
              have J70 : ∀ (fu70 : Nat) (k : Nat) (H : Heap) (locs : List Loc) (ls : Array Slot), (hgN e q - k) < fu70 → (k ≤ hgN e q) → (HiC D cs (x + 119) nx cn se sg H) → (va_at D vwCl (x, .inr (5, [.ref (x + 1), .ref (x + 60), .ref (x + 119), .ref (x + 357)])) H) → (StC D cs (x + 1) y g H) → (StC D cs (x + 60) e1 g1 H) → (va_at D vwCl (x + 357 + 1, .inl (cs 1, 150, .inl b)) H) → (va_at D vwCl (x + 357 + 2, .inl (cs 0, 5, .inl nn)) H) → (va_at D vwCl (x + 357, .inr (0, [.ref (x + 357 + 1), .ref (x + 357 + 2), .ref (wd), .int (nI (ln)), .int (nI (pa)), .int (ft)])) H) → va_S ((rgR x)) s.heap H locs → lv_has ls 9 [(0, .ref (x)), (1, .long (h0)), (3, .long (dgMh e q (dgMp e q (dgM e h0 q) 10) k)), (5, .int (nI (q))), (6, .ref (x + 1 + 11 + 2 * q)), (7, .int (nI (hgN e q))), (8, .int (nI (k)))] → W p l en ({ frames := 3, cells := 0, slots := 0, locals := 70 } : Room) s m args below meth c H locs 0 0 (MQ below (QcM (some (.long (dgM e h0 (Mn e)))) (fun H => ∃ y' : Nat → Int32, EI e y' ∧ HrC D cs x y' g e1 g1 nx cn se sg b nn wd ln pa ft H) (rgR x)) args s 0 0 ((rgR x))) (F0 m 70 ls []) := by
                intro fu70; induction fu70 with
                | zero => intro k H locs ls hmu70 hk hWhi hWro hM hM2 hWtb hWtn hWto hS hl; exact absurd hmu70 (Nat.not_lt_zero _)
                | succ fu70 ih70 =>
                  intro k H locs ls hmu70 hk hWhi hWro hM hM2 hWtb hWtn hWto hS hl
                  refine lv_iload hx hb dX7_digestMoves_70 (lv_at hl 6 rfl) ?_
                  refine lv_iload hx hb dX7_digestMoves_72 (lv_at hl 5 rfl) ?_
                  refine kn_icmp_ge (tgt := 98) hx hb dX7_digestMoves_74 (by decide) (by omega) (by omega) (fun c_3 => ?_) (fun c_3 => ?_)
                  · have hkh : k = hgN e q := by omega
                    subst hkh
                    have hl : lv_has ls 9 [(0, .ref (x)), (1, .long (h0)), (3, .long (dgMh e q (dgMp e q (dgM e h0 q) 10) (hgN e q))), (5, .int (nI (q))), (6, .ref (x + 1 + 11 + 2 * q)), (7, .int (nI (hgN e q))), (8, .int (nI ((hgN e q))))] := hl
                    refine lv_ldc2 hx hb hown (hts (.constantLong RX7 225 (31)) (by decide +kernel)) dX7_digestMoves_98 ?_
                    refine lv_lload_n hx hb dX7_digestMoves_101 rfl (lv_at hl 2 rfl) ?_
                    refine lv_lmul hx hb dX7_digestMoves_102 ?_
                    refine lv_aload_n hx hb dX7_digestMoves_103 rfl (lv_at hl 0 rfl) ?_
                    refine kx_get (v := .ref (x + 1)) hx hb hts hinX7 hown hK hWro rfl 0 (by decide) (by decide +kernel) rfl dX7_digestMoves_104 ?_
                    refine lv_iload hx hb dX7_digestMoves_107 (lv_at hl 3 rfl) ?_
                    refine kx_retP (va_runV (As := [.int (nI (q))]) (rest := [.long (31 * (dgMh e q (dgMp e q (dgM e h0 q) 10) (hgN e q)))]) ⟨hx, hb, hml, hown, hts⟩ (k_X5_waitedFor l D cs (x + 1) y g q hIy hGy hqy) (cwV 1 hts gX7_digestMoves_X5_waitedFor rfl rfl rfl (by decide +kernel) ⟨Nat.le_of_ble_eq_true rfl, Nat.le_of_ble_eq_true rfl⟩) (kx_preV hK hN hM.obj rfl hM) rfl rfl hl.1 rfl (lv_room (Nat.le_of_ble_eq_true rfl)) dX7_digestMoves_109 ⟨Nat.le_of_ble_eq_true rfl, Nat.le_of_ble_eq_true rfl⟩) ?_
                    refine kx_ci (x := nI (woN y q)) (y := nI (woN e q)) (congrArg nI (hey.1.wo hI hqM)) ?_
                    refine lv_i2l hx hb dX7_digestMoves_112 rfl ?_
                    refine lv_ladd hx hb dX7_digestMoves_113 ?_
                    refine kx_cl (x := (31 * (dgMh e q (dgMp e q (dgM e h0 q) 10) (hgN e q))) + ((nI (woN e q)).toInt64)) (y := dS (dgMh e q (dgMp e q (dgM e h0 q) 10) (hgN e q)) (nI (woN e q)).toInt64) (dS_e _ _) ?_
                    refine lv_lstore_n (lv' := [(3, .long (dS (dgMh e q (dgMp e q (dgM e h0 q) 10) (hgN e q)) (nI (woN e q)).toInt64)), (0, .ref (x)), (1, .long (h0)), (5, .int (nI (q))), (6, .ref (x + 1 + 11 + 2 * q)), (7, .int (nI (hgN e q))), (8, .int (nI ((hgN e q))))]) hx hb dX7_digestMoves_114 rfl hl (by decide) rfl (fun ls hl => ?_)
                    refine lv_ldc2 hx hb hown (hts (.constantLong RX7 225 (31)) (by decide +kernel)) dX7_digestMoves_115 ?_
                    refine lv_lload_n hx hb dX7_digestMoves_118 rfl (lv_at hl 0 rfl) ?_
                    refine lv_lmul hx hb dX7_digestMoves_119 ?_
                    refine lv_aload_n hx hb dX7_digestMoves_120 rfl (lv_at hl 1 rfl) ?_
                    refine kx_get (v := .ref (x + 1)) hx hb hts hinX7 hown hK hWro rfl 0 (by decide) (by decide +kernel) rfl dX7_digestMoves_121 ?_
                    refine lv_iload hx hb dX7_digestMoves_124 (lv_at hl 3 rfl) ?_
                    refine kx_retM (va_runV (As := [.int (nI (q))]) (rest := [.long (31 * (dS (dgMh e q (dgMp e q (dgM e h0 q) 10) (hgN e q)) (nI (woN e q)).toInt64))]) ⟨hx, hb, hml, hown, hts⟩ (k_X5_depthOf l D cs (x + 1) y g q hIy hGy hqy) (cwV 1 hts gX7_digestMoves_X5_depthOf rfl rfl rfl (by decide +kernel) ⟨Nat.le_of_ble_eq_true rfl, Nat.le_of_ble_eq_true rfl⟩) (kx_preV hK hN hM.obj rfl hM) rfl rfl hl.1 rfl (lv_room (Nat.le_of_ble_eq_true rfl)) dX7_digestMoves_126 ⟨Nat.le_of_ble_eq_true rfl, Nat.le_of_ble_eq_true rfl⟩) hS (fun x _ h => (by first | exact h | (have h1 := h.1; have h2 := h.2; exact ⟨by omega, by omega⟩) | (rcases h with h | h <;> (have h1 := h.1; have h2 := h.2; exact ⟨by omega, by omega⟩)))) (fun x h => (by first | exact h | (have h1 := h.1; have h2 := h.2; exact ⟨by omega, by omega⟩) | (rcases h with h | h <;> (have h1 := h.1; have h2 := h.2; exact ⟨by omega, by omega⟩)))) (fun H locs hMN hk hS => ?_)
                    have hWhi := hWhi.frame hk (fun x h1 h2 h => by first | (have h3 := h.1; have h4 := h.2; omega) | (rcases h with h | h <;> (have h3 := h.1; have h4 := h.2; omega)))
                    have hWro := hWro.kept (hk.2 _ hWro.lt (fun h => by first | (have h3 := h.1; have h4 := h.2; omega) | (rcases h with h | h <;> (have h3 := h.1; have h4 := h.2; omega))))
                    have hM2 := hM2.frame hk (fun x h1 h2 h => by first | (have h3 := h.1; have h4 := h.2; omega) | (rcases h with h | h <;> (have h3 := h.1; have h4 := h.2; omega)))
                    have hWtb := hWtb.kept (hk.2 _ hWtb.lt (fun h => by first | (have h3 := h.1; have h4 := h.2; omega) | (rcases h with h | h <;> (have h3 := h.1; have h4 := h.2; omega))))
                    have hWtn := hWtn.kept (hk.2 _ hWtn.lt (fun h => by first | (have h3 := h.1; have h4 := h.2; omega) | (rcases h with h | h <;> (have h3 := h.1; have h4 := h.2; omega))))
                    have hWto := hWto.kept (hk.2 _ hWto.lt (fun h => by first | (have h3 := h.1; have h4 := h.2; omega) | (rcases h with h | h <;> (have h3 := h.1; have h4 := h.2; omega))))
                    have hM := hMN
                    clear hk hMN
                    refine kx_ci (x := nI (dpN y q)) (y := nI (dpN e q)) (congrArg nI (ev_dp hey hqM)) ?_
                    refine lv_i2l hx hb dX7_digestMoves_129 rfl ?_
                    refine lv_ladd hx hb dX7_digestMoves_130 ?_
                    refine kx_cl (x := (31 * (dS (dgMh e q (dgMp e q (dgM e h0 q) 10) (hgN e q)) (nI (woN e q)).toInt64)) + ((nI (dpN e q)).toInt64)) (y := dgM e h0 (q + 1)) ((dS_e _ _).trans (dgM_s2 _ _ _)) ?_
                    refine lv_lstore_n (lv' := [(3, .long (dgM e h0 (q + 1))), (0, .ref (x)), (1, .long (h0)), (5, .int (nI (q))), (6, .ref (x + 1 + 11 + 2 * q)), (7, .int (nI (hgN e q))), (8, .int (nI ((hgN e q))))]) hx hb dX7_digestMoves_131 rfl hl (by decide) rfl (fun ls hl => ?_)
                    refine lv_iinc (v := nI (q + 1)) (lv' := [(5, .int (nI (q + 1))), (3, .long (dgM e h0 (q + 1))), (0, .ref (x)), (1, .long (h0)), (6, .ref (x + 1 + 11 + 2 * q)), (7, .int (nI (hgN e q))), (8, .int (nI ((hgN e q))))]) (k := 3) hx hb dX7_digestMoves_132 hl rfl (nI_add _ _) (by decide) rfl (fun ls hl => ?_)
                    refine lv_goto (tgt := 5) hx hb dX7_digestMoves_135 (by decide) ?_
                    exact ih5 (q + 1) (dcK y (q + 1)) _ _ _ (by omega) (by omega) ⟨hey.1.tr (dc_ei hIy _).1, hI⟩ hWhi hWro hM hM2 hWtb hWtn hWto hS (lv_sub hl [2, 3, 1, 0] rfl)
                  · refine lv_ldc2 hx hb hown (hts (.constantLong RX7 225 (31)) (by decide +kernel)) dX7_digestMoves_77 ?_
                    refine lv_lload_n hx hb dX7_digestMoves_80 rfl (lv_at hl 2 rfl) ?_
                    refine lv_lmul hx hb dX7_digestMoves_81 ?_
                    refine lv_aload hx hb dX7_digestMoves_82 (lv_at hl 4 rfl) ?_
                    refine lv_iload hx hb dX7_digestMoves_84 (lv_at hl 6 rfl) ?_
                    refine kx_retP (va_runV (As := [.int (nI (k))]) (rest := [.long (31 * (dgMh e q (dgMp e q (dgM e h0 q) 10) k))]) ⟨hx, hb, hml, hown, hts⟩ (k_X3_hostageAt l D cs (x + 1) y g q (nI (k)) hIy hqy) (cwV 1 hts gX7_digestMoves_X3_hostageAt rfl rfl rfl (by decide +kernel) ⟨Nat.le_of_ble_eq_true rfl, Nat.le_of_ble_eq_true rfl⟩) (kx_preV hK hN (hM.mv (m := q) (by omega)) rfl hM) rfl rfl hl.1 rfl (lv_room (Nat.le_of_ble_eq_true rfl)) dX7_digestMoves_86 ⟨Nat.le_of_ble_eq_true rfl, Nat.le_of_ble_eq_true rfl⟩) ?_
                    refine kx_ci (x := hxI y q (nI (k))) (y := e (320 + 16 * q + mW e q + k)) (dg_hx hey hqM (by omega)) ?_
                    refine lv_i2l hx hb dX7_digestMoves_89 rfl ?_
                    refine lv_ladd hx hb dX7_digestMoves_90 ?_
                    refine kx_cl (x := (31 * (dgMh e q (dgMp e q (dgM e h0 q) 10) k)) + ((e (320 + 16 * q + mW e q + k)).toInt64)) (y := dgMh e q (dgMp e q (dgM e h0 q) 10) (k + 1)) (dgMh_s _ _ _ _) ?_
                    refine lv_lstore_n (lv' := [(3, .long (dgMh e q (dgMp e q (dgM e h0 q) 10) (k + 1))), (0, .ref (x)), (1, .long (h0)), (5, .int (nI (q))), (6, .ref (x + 1 + 11 + 2 * q)), (7, .int (nI (hgN e q))), (8, .int (nI (k)))]) hx hb dX7_digestMoves_91 rfl hl (by decide) rfl (fun ls hl => ?_)
                    refine lv_iinc (v := nI (k + 1)) (lv' := [(8, .int (nI (k + 1))), (3, .long (dgMh e q (dgMp e q (dgM e h0 q) 10) (k + 1))), (0, .ref (x)), (1, .long (h0)), (5, .int (nI (q))), (6, .ref (x + 1 + 11 + 2 * q)), (7, .int (nI (hgN e q)))]) (k := 6) hx hb dX7_digestMoves_92 hl rfl (nI_add _ _) (by decide) rfl (fun ls hl => ?_)
                    refine lv_goto (tgt := 70) hx hb dX7_digestMoves_95 (by decide) ?_
                    exact ih70 (k + 1) _ _ _ (by omega) (by omega) hWhi hWro hM hM2 hWtb hWtn hWto hS (lv_sub hl [2, 3, 1, 4, 5, 6, 0] rfl)
              exact J70 _ 0 _ _ _ (Nat.lt_succ_self _) (by omega) hWhi hWro hM hM2 hWtb hWtn hWto hS (by rw [dgMh_0]; exact lv_sub hl [2, 3, 4, 5, 6, 1, 0] rfl)
            · refine lv_ldc2 hx hb hown (hts (.constantLong RX7 225 (31)) (by decide +kernel)) dX7_digestMoves_39 ?_
              refine lv_lload_n hx hb dX7_digestMoves_42 rfl (lv_at hl 2 rfl) ?_
              refine lv_lmul hx hb dX7_digestMoves_43 ?_
              refine lv_aload hx hb dX7_digestMoves_44 (lv_at hl 4 rfl) ?_
              refine lv_iload hx hb dX7_digestMoves_46 (lv_at hl 5 rfl) ?_
              refine kx_retP (va_runV (As := [.int (nI (k))]) (rest := [.long (31 * (dgMp e q (dgM e h0 q) k))]) ⟨hx, hb, hml, hown, hts⟩ (k_X3_part l D cs (x + 1) y g q k (by omega) (by omega)) (cwV 1 hts gX7_digestMoves_X3_part rfl rfl rfl (by decide +kernel) ⟨Nat.le_of_ble_eq_true rfl, Nat.le_of_ble_eq_true rfl⟩) (kx_preV hK hN (hM.mv (m := q) (by omega)) rfl hM) rfl rfl hl.1 rfl (lv_room (Nat.le_of_ble_eq_true rfl)) dX7_digestMoves_48 ⟨Nat.le_of_ble_eq_true rfl, Nat.le_of_ble_eq_true rfl⟩) ?_
              refine kx_ci (x := y (80 + 10 * q + k)) (y := e (80 + 10 * q + k)) (hey.1.2.2.1 q k hqM (by omega)) ?_
              refine lv_i2l hx hb dX7_digestMoves_51 rfl ?_
              refine lv_ladd hx hb dX7_digestMoves_52 ?_
              refine kx_cl (x := (31 * (dgMp e q (dgM e h0 q) k)) + ((e (80 + 10 * q + k)).toInt64)) (y := dgMp e q (dgM e h0 q) (k + 1)) (dgMp_s _ _ _ _) ?_
              refine lv_lstore_n (lv' := [(3, .long (dgMp e q (dgM e h0 q) (k + 1))), (0, .ref (x)), (1, .long (h0)), (5, .int (nI (q))), (6, .ref (x + 1 + 11 + 2 * q)), (7, .int (nI (k)))]) hx hb dX7_digestMoves_53 rfl hl (by decide) rfl (fun ls hl => ?_)
              refine lv_iinc (v := nI (k + 1)) (lv' := [(7, .int (nI (k + 1))), (3, .long (dgMp e q (dgM e h0 q) (k + 1))), (0, .ref (x)), (1, .long (h0)), (5, .int (nI (q))), (6, .ref (x + 1 + 11 + 2 * q))]) (k := 5) hx hb dX7_digestMoves_54 hl rfl (nI_add _ _) (by decide) rfl (fun ls hl => ?_)
              refine lv_goto (tgt := 32) hx hb dX7_digestMoves_57 (by decide) ?_
              exact ih32 (k + 1) _ _ _ (by omega) (by omega) hWhi hWro hM hM2 hWtb hWtn hWto hS (lv_sub hl [2, 3, 1, 4, 5, 0] rfl)
        exact J32 _ 0 _ _ _ (Nat.lt_succ_self _) (by omega) hWhi hWro hM hM2 hWtb hWtn hWto hS (by rw [dgMp_0]; exact lv_sub hl [2, 3, 4, 5, 1, 0] rfl)
  exact J5 _ 0 e _ _ _ (Nat.lt_succ_self _) (by omega) ⟨Eqv.rf, hI⟩ hWhi hWro hM hM2 hWtb hWtn hWto hS (by rw [dgM_0]; exact lv_sub hl [2, 3, 1, 0] rfl)
set_option maxHeartbeats 2500000 in
set_option maxRecDepth 100000 in
theorem k_X7_digest (l : Launch) (D : va_G) (cs : Nat → ClassId) (x : Nat) (e : Nat → Int32) (g : Nat → Int64) (e1 : Nat → Int32) (g1 : Nat → Int64) (nx cn : Nat) (se : Nat → Nat → Int32) (sg : Nat → Nat → Int64) (b nn : Nat → Int32) (wd ln pa : Nat) (ft : Int32) (hI : Inv e) (hG : Msk e g) : Met l yX7_digest wsX7_digest ({ frames := 5, cells := 0, slots := 0, locals := 136 } : Room) (PcK D cs [.ref (x)] (fun H => HrC D cs x e g e1 g1 nx cn se sg b nn wd ln pa ft H)) (QcM (some (.long (dgFc e (fnF (cfF e1 e)) ln (nI cn)))) (fun H => ∃ y' : Nat → Int32, EI e y' ∧ HrC D cs x y' g ((fnF (cfF e1 e))) ((cgM g1 g (Mn e))) nx cn se sg b nn wd ln pa ft H) (rgR x)) 0 0 ((rgR x)) := by
  refine kx_met (cc := cX7_digest) (maxL := 4) (ret := (some .long)) (by decide) rfl (Nat.le_of_ble_eq_true rfl) ?_
  intro p en s m args below meth c hx hb hml hrt hts hown hlk hK hN hP ls hl
  have hl : lv_has ls 4 [(0, .ref (x))] := hl
  obtain ⟨H, hHe⟩ : ∃ H : Heap, H = s.heap := ⟨_, rfl⟩
  rw [← hHe] at hP ⊢
  have hS : va_S ((rgR x)) s.heap H [] := by rw [← hHe]; exact va_S.rf
  have hinX2 : ∀ w ∈ wsX20, w ∈ wsX7_digest := by decide +kernel
  have hinX7 : ∀ w ∈ wsX70, w ∈ wsX7_digest := by decide +kernel
  obtain ⟨hWro, hM, hM2, hWhi, hWto, hWtb, hWtn⟩ := hP
  have h24 := hI.M24
  have h6 := hI.R6
  refine lv_ldc2 hx hb hown (hts (.constantLong RX7 223 (1347756)) (by decide +kernel)) dX7_digest_0 ?_
  refine lv_aload_n hx hb dX7_digest_3 rfl (lv_at hl 0 rfl) ?_
  refine kx_get (v := .ref (x + 119)) hx hb hts hinX7 hown hK hWro rfl 2 (by decide) (by decide +kernel) rfl dX7_digest_4 ?_
  refine kx_get (v := .int (nI (cn))) hx hb hts hinX2 hown hK hWhi.obj rfl 2 (by decide) (by decide +kernel) rfl dX7_digest_7 ?_
  refine lv_i2l hx hb dX7_digest_10 rfl ?_
  refine lv_ladd hx hb dX7_digest_11 ?_
  refine kx_cl (x := 1347756 + ((nI (cn)).toInt64)) (y := dg0 (nI cn)) (dg0_e _) ?_
  refine lv_lstore_n (lv' := [(1, .long (dg0 (nI cn))), (0, .ref (x))]) hx hb dX7_digest_12 rfl hl (by decide) rfl (fun ls hl => ?_)
  refine lv_iconst (v := nI 0) hx hb dX7_digest_13 (by decide) ?_
  refine lv_istore_n (lv' := [(3, .int (nI (0))), (1, .long (dg0 (nI cn))), (0, .ref (x))]) hx hb dX7_digest_14 rfl hl (by decide) rfl (fun ls hl => ?_)
  have J15 : ∀ (fu15 : Nat) (k : Nat) (H : Heap) (locs : List Loc) (ls : Array Slot), (15 - k) < fu15 → (k ≤ 15) → (HiC D cs (x + 119) nx cn se sg H) → (va_at D vwCl (x, .inr (5, [.ref (x + 1), .ref (x + 60), .ref (x + 119), .ref (x + 357)])) H) → (StC D cs (x + 1) e g H) → (StC D cs (x + 60) e1 g1 H) → (va_at D vwCl (x + 357 + 1, .inl (cs 1, 150, .inl b)) H) → (va_at D vwCl (x + 357 + 2, .inl (cs 0, 5, .inl nn)) H) → (va_at D vwCl (x + 357, .inr (0, [.ref (x + 357 + 1), .ref (x + 357 + 2), .ref (wd), .int (nI (ln)), .int (nI (pa)), .int (ft)])) H) → va_S ((rgR x)) s.heap H locs → lv_has ls 4 [(0, .ref (x)), (1, .long (dgWc e ln (dg0 (nI cn)) k)), (3, .int (nI (k)))] → W p l en ({ frames := 5, cells := 0, slots := 0, locals := 136 } : Room) s m args below meth c H locs 0 0 (MQ below (QcM (some (.long (dgFc e (fnF (cfF e1 e)) ln (nI cn)))) (fun H => ∃ y' : Nat → Int32, EI e y' ∧ HrC D cs x y' g ((fnF (cfF e1 e))) ((cgM g1 g (Mn e))) nx cn se sg b nn wd ln pa ft H) (rgR x)) args s 0 0 ((rgR x))) (F0 m 15 ls []) := by
    intro fu15; induction fu15 with
    | zero => intro k H locs ls hmu15 hk hWhi hWro hM hM2 hWtb hWtn hWto hS hl; exact absurd hmu15 (Nat.not_lt_zero _)
    | succ fu15 ih15 =>
      intro k H locs ls hmu15 hk hWhi hWro hM hM2 hWtb hWtn hWto hS hl
      refine lv_iload_n hx hb dX7_digest_15 rfl (lv_at hl 2 rfl) ?_
      refine lv_bipush (v := nI 14) hx hb dX7_digest_16 (by decide) ?_
      refine kn_icmp_gt (tgt := 40) hx hb dX7_digest_18 (by decide) (by omega) (by decide) (fun c_1 => ?_) (fun c_1 => ?_)
      · have hk15 : k = 15 := by omega
        subst hk15
        have hl : lv_has ls 4 [(0, .ref (x)), (1, .long (dgWc e ln (dg0 (nI cn)) 15)), (3, .int (nI (15)))] := hl
        refine lv_aload_n hx hb dX7_digest_40 rfl (lv_at hl 0 rfl) ?_
        refine lv_lload_n hx hb dX7_digest_41 rfl (lv_at hl 1 rfl) ?_
        refine kx_retM (va_runV (As := [.long (dgWc e ln (dg0 (nI cn)) 15)]) (rest := []) ⟨hx, hb, hml, hown, hts⟩ (k_X7_digestCells l D cs x e g e1 g1 nx cn se sg b nn wd ln pa ft (dgWc e ln (dg0 (nI cn)) 15) hI) (cwV 1 hts gX7_digest_X7_digestCells rfl rfl rfl (by decide +kernel) ⟨Nat.le_of_ble_eq_true rfl, Nat.le_of_ble_eq_true rfl⟩) (kx_preV hK hN hWro rfl ⟨hWro, hM, hM2, hWhi, hWto, hWtb, hWtn⟩) rfl rfl hl.1 rfl (lv_room (Nat.le_of_ble_eq_true rfl)) dX7_digest_42 ⟨Nat.le_of_ble_eq_true rfl, Nat.le_of_ble_eq_true rfl⟩) hS (fun x _ h => (by first | exact h | (have h1 := h.1; have h2 := h.2; exact ⟨by omega, by omega⟩) | (rcases h with h | h <;> (have h1 := h.1; have h2 := h.2; exact ⟨by omega, by omega⟩)))) (fun x h => (by first | exact h | (have h1 := h.1; have h2 := h.2; exact ⟨by omega, by omega⟩) | (rcases h with h | h <;> (have h1 := h.1; have h2 := h.2; exact ⟨by omega, by omega⟩)))) (fun H locs hMN hk hS => ?_)
        obtain ⟨hWro, hM, hM2, hWhi, hWto, hWtb, hWtn⟩ := hMN
        clear hk
        refine lv_lstore_n (lv' := [(1, .long (dgC e (fnF (cfF e1 e)) (dgWc e ln (dg0 (nI cn)) 15) 48)), (0, .ref (x)), (3, .int (nI (15)))]) hx hb dX7_digest_45 rfl hl (by decide) rfl (fun ls hl => ?_)
        refine lv_aload_n hx hb dX7_digest_46 rfl (lv_at hl 1 rfl) ?_
        refine lv_lload_n hx hb dX7_digest_47 rfl (lv_at hl 0 rfl) ?_
        refine kx_retP (va_runV (As := [.long (dgC e (fnF (cfF e1 e)) (dgWc e ln (dg0 (nI cn)) 15) 48)]) (rest := []) ⟨hx, hb, hml, hown, hts⟩ (k_X7_digestRings l D cs x e g ((fnF (cfF e1 e))) ((cgM g1 g (Mn e))) nx cn se sg b nn wd ln pa ft (dgC e (fnF (cfF e1 e)) (dgWc e ln (dg0 (nI cn)) 15) 48) (by first | assumption | omega)) (cwV 1 hts gX7_digest_X7_digestRings rfl rfl rfl (by decide +kernel) ⟨Nat.le_of_ble_eq_true rfl, Nat.le_of_ble_eq_true rfl⟩) (kx_preV hK hN hWro rfl ⟨hWro, hM, hM2, hWhi, hWto, hWtb, hWtn⟩) rfl rfl hl.1 rfl (lv_room (Nat.le_of_ble_eq_true rfl)) dX7_digest_48 ⟨Nat.le_of_ble_eq_true rfl, Nat.le_of_ble_eq_true rfl⟩) ?_
        refine lv_lstore_n (lv' := [(1, .long (dgR e (dgC e (fnF (cfF e1 e)) (dgWc e ln (dg0 (nI cn)) 15) 48) (Rn e))), (0, .ref (x)), (3, .int (nI (15)))]) hx hb dX7_digest_51 rfl hl (by decide) rfl (fun ls hl => ?_)
        refine lv_aload_n hx hb dX7_digest_52 rfl (lv_at hl 1 rfl) ?_
        refine lv_lload_n hx hb dX7_digest_53 rfl (lv_at hl 0 rfl) ?_
        refine kx_retM (va_runV (As := [.long (dgR e (dgC e (fnF (cfF e1 e)) (dgWc e ln (dg0 (nI cn)) 15) 48) (Rn e))]) (rest := []) ⟨hx, hb, hml, hown, hts⟩ (k_X7_digestMoves l D cs x e g ((fnF (cfF e1 e))) ((cgM g1 g (Mn e))) nx cn se sg b nn wd ln pa ft (dgR e (dgC e (fnF (cfF e1 e)) (dgWc e ln (dg0 (nI cn)) 15) 48) (Rn e)) (by first | assumption | omega) (by first | assumption | omega)) (cwV 1 hts gX7_digest_X7_digestMoves rfl rfl rfl (by decide +kernel) ⟨Nat.le_of_ble_eq_true rfl, Nat.le_of_ble_eq_true rfl⟩) (kx_preV hK hN hWro rfl ⟨hWro, hM, hM2, hWhi, hWto, hWtb, hWtn⟩) rfl rfl hl.1 rfl (lv_room (Nat.le_of_ble_eq_true rfl)) dX7_digest_54 ⟨Nat.le_of_ble_eq_true rfl, Nat.le_of_ble_eq_true rfl⟩) hS (fun x _ h => (by first | exact h | (have h1 := h.1; have h2 := h.2; exact ⟨by omega, by omega⟩) | (rcases h with h | h <;> (have h1 := h.1; have h2 := h.2; exact ⟨by omega, by omega⟩)))) (fun x h => (by first | exact h | (have h1 := h.1; have h2 := h.2; exact ⟨by omega, by omega⟩) | (rcases h with h | h <;> (have h1 := h.1; have h2 := h.2; exact ⟨by omega, by omega⟩)))) (fun H locs hMN hk hS => ?_)
        obtain ⟨y', hey', hWro, hM, hM2, hWhi, hWto, hWtb, hWtn⟩ := hMN
        clear hk
        refine lv_lstore_n (lv' := [(1, .long (dgM e (dgR e (dgC e (fnF (cfF e1 e)) (dgWc e ln (dg0 (nI cn)) 15) 48) (Rn e)) (Mn e))), (0, .ref (x)), (3, .int (nI (15)))]) hx hb dX7_digest_57 rfl hl (by decide) rfl (fun ls hl => ?_)
        refine lv_ldc2 hx hb hown (hts (.constantLong RX7 225 (31)) (by decide +kernel)) dX7_digest_58 ?_
        refine lv_lload_n hx hb dX7_digest_61 rfl (lv_at hl 0 rfl) ?_
        refine lv_lmul hx hb dX7_digest_62 ?_
        refine lv_aload_n hx hb dX7_digest_63 rfl (lv_at hl 1 rfl) ?_
        refine kx_get (v := .ref (x + 1)) hx hb hts hinX7 hown hK hWro rfl 0 (by decide) (by decide +kernel) rfl dX7_digest_64 ?_
        refine kx_retP (va_runV (As := []) (rest := [.long (31 * (dgM e (dgR e (dgC e (fnF (cfF e1 e)) (dgWc e ln (dg0 (nI cn)) 15) 48) (Rn e)) (Mn e)))]) ⟨hx, hb, hml, hown, hts⟩ (k_X5_heldCells l D cs (x + 1) y' g (ev_R hey') (hG.eqv hI hey'.1)) (cwV 0 hts gX7_digest_X5_heldCells rfl rfl rfl (by decide +kernel) ⟨Nat.le_of_ble_eq_true rfl, Nat.le_of_ble_eq_true rfl⟩) (kx_preV hK hN hM.obj rfl hM) rfl rfl hl.1 rfl (lv_room (Nat.le_of_ble_eq_true rfl)) dX7_digest_67 ⟨Nat.le_of_ble_eq_true rfl, Nat.le_of_ble_eq_true rfl⟩) ?_
        refine kx_cl (x := lN (hdN y')) (y := lN (hcN e)) (congrArg lN ((hdN_is (ev_R hey')).trans (ev_hc hey'))) ?_
        refine lv_ladd hx hb dX7_digest_70 ?_
        exact kx_lretM hx hb hrt hlk (dgFc_e _ _ _ _) ⟨y', hey', hWro, hM, hM2, hWhi, hWto, hWtb, hWtn⟩ hS dX7_digest_71
      · refine lv_ldc2 hx hb hown (hts (.constantLong RX7 225 (31)) (by decide +kernel)) dX7_digest_21 ?_
        refine lv_lload_n hx hb dX7_digest_24 rfl (lv_at hl 1 rfl) ?_
        refine lv_lmul hx hb dX7_digest_25 ?_
        refine lv_aload_n hx hb dX7_digest_26 rfl (lv_at hl 0 rfl) ?_
        refine lv_iload_n hx hb dX7_digest_27 rfl (lv_at hl 2 rfl) ?_
        refine kx_retP (va_runV (As := [.int (nI (k))]) (rest := [.long (31 * (dgWc e ln (dg0 (nI cn)) k))]) ⟨hx, hb, hml, hown, hts⟩ (k_X7_wholePart l D cs x e g e1 g1 nx cn se sg b nn wd ln pa ft k hI hG (by omega)) (cwV 1 hts gX7_digest_X7_wholePart rfl rfl rfl (by decide +kernel) ⟨Nat.le_of_ble_eq_true rfl, Nat.le_of_ble_eq_true rfl⟩) (kx_preV hK hN hWro rfl ⟨hWro, hM, hM2, hWhi, hWto, hWtb, hWtn⟩) rfl rfl hl.1 rfl (lv_room (Nat.le_of_ble_eq_true rfl)) dX7_digest_28 ⟨Nat.le_of_ble_eq_true rfl, Nat.le_of_ble_eq_true rfl⟩) ?_
        refine lv_i2l hx hb dX7_digest_31 rfl ?_
        refine lv_ladd hx hb dX7_digest_32 ?_
        refine kx_cl (x := (31 * (dgWc e ln (dg0 (nI cn)) k)) + ((if k = 14 then nI ln else wvI e k).toInt64)) (y := dgWc e ln (dg0 (nI cn)) (k + 1)) (dgWc_s _ _ _ _) ?_
        refine lv_lstore_n (lv' := [(1, .long (dgWc e ln (dg0 (nI cn)) (k + 1))), (0, .ref (x)), (3, .int (nI (k)))]) hx hb dX7_digest_33 rfl hl (by decide) rfl (fun ls hl => ?_)
        refine lv_iinc (v := nI (k + 1)) (lv' := [(3, .int (nI (k + 1))), (1, .long (dgWc e ln (dg0 (nI cn)) (k + 1))), (0, .ref (x))]) (k := 2) hx hb dX7_digest_34 hl rfl (nI_add _ _) (by decide) rfl (fun ls hl => ?_)
        refine lv_goto (tgt := 15) hx hb dX7_digest_37 (by decide) ?_
        exact ih15 (k + 1) _ _ _ (by omega) (by omega) hWhi hWro hM hM2 hWtb hWtn hWto hS (lv_sub hl [2, 1, 0] rfl)
  exact J15 _ 0 _ _ _ (Nat.lt_succ_self _) (by omega) hWhi hWro hM hM2 hWtb hWtn hWto hS (by rw [dgWc_0]; exact lv_sub hl [2, 1, 0] rfl)
