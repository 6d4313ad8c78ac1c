set_option maxHeartbeats 2500000 in
set_option maxRecDepth 100000 in
theorem k_X7_copiedIn (l : Launch) (D : va_G) (cs : Nat → ClassId) (x : Nat) (e : Nat → Int32) (g : Nat → Int64) (e1 : Nat → Int32) (g1 : Nat → Int64) (nx cn : Nat) (se : Nat → Nat → Int32) (sg : Nat → Nat → Int64) (b nn : Nat → Int32) (wd ln pa : Nat) (ft : Int32) (mv : Nat) (hI : Inv e) (hG : Msk e g) (hm : mv < Mn e) : Met l yX7_copiedIn wsX7_copiedIn ({ frames := 4, cells := 0, slots := 0, locals := 91 } : Room) (PcK D cs [.ref (x), .int (nI (mv))] (fun H => HrC D cs x e g e1 g1 nx cn se sg b nn wd ln pa ft H)) (QcM (some (.int (ctI (cfF e1 e) mv))) (fun H => ∃ e1' : Nat → Int32, ∃ g1' : Nat → Int64, HrC D cs x e g e1' g1' nx cn se sg b nn wd ln pa ft H) (rgR x)) 0 0 ((rgR x)) := by
  refine kx_met (cc := cX7_copiedIn) (maxL := 3) (ret := (some .int)) (by decide) rfl (Nat.le_of_ble_eq_true rfl) ?_
  intro p en s m args below meth c hx hb hml hrt hts hown hlk hK hN hP ls hl
  have hl : lv_has ls 3 [(0, .ref (x)), (1, .int (nI (mv)))] := hl
  obtain ⟨H, hHe⟩ : ∃ H : Heap, H = s.heap := ⟨_, rfl⟩
  rw [← hHe] at hP ⊢
  have hS : va_S ((rgR x)) s.heap H [] := by rw [← hHe]; exact va_S.rf
  have hinX3 : ∀ w ∈ wsX30, w ∈ wsX7_copiedIn := by decide +kernel
  have hinX5 : ∀ w ∈ wsX50, w ∈ wsX7_copiedIn := by decide +kernel
  have hinX7 : ∀ w ∈ wsX70, w ∈ wsX7_copiedIn := by decide +kernel
  obtain ⟨hWro, hM, hM2, hWhi, hWto, hWtb, hWtn⟩ := hP
  have h24 := hI.M24
  have h6 := hI.R6
  have hct := cf_ev e1 hI
  have hIc := ev_R hct
  have hGc := cf_msk e1 g1 hI hG
  have hM9 := hct.M
  have hs3 := hI.s3 hm
  have hsc : mS (cfF e1 e) mv = mS e mv := hct.1.mS hm
  refine lv_aload_n hx hb dX7_copiedIn_0 rfl (lv_at hl 0 rfl) ?_
  refine lv_iload_n hx hb dX7_copiedIn_1 rfl (lv_at hl 1 rfl) ?_
  refine kx_retP (va_runV (As := [.int (nI (mv))]) (rest := []) ⟨hx, hb, hml, hown, hts⟩ (k_X7_requireMove l D cs x e g e1 g1 nx cn se sg b nn wd ln pa ft hI mv (by first | assumption | omega)) (cwV 1 hts gX7_copiedIn_X7_requireMove rfl rfl rfl (by decide +kernel) ⟨Nat.le_of_ble_eq_true rfl, Nat.le_of_ble_eq_true rfl⟩) (kx_preV hK hN hWro rfl ⟨hWro, hM, hM2, hWhi, hWto, hWtb, hWtn⟩) rfl rfl hl.1 rfl (lv_room (Nat.le_of_ble_eq_true rfl)) dX7_copiedIn_2 ⟨Nat.le_of_ble_eq_true rfl, Nat.le_of_ble_eq_true rfl⟩) ?_
  refine lv_aload_n hx hb dX7_copiedIn_5 rfl (lv_at hl 0 rfl) ?_
  refine kx_get (v := .ref (x + 1)) hx hb hts hinX7 hown hK hWro rfl 0 (by decide) (by decide +kernel) rfl dX7_copiedIn_6 ?_
  refine kx_get (v := .ref (x + 1 + 3)) hx hb hts hinX5 hown hK hM.obj rfl 2 (by decide) (by decide +kernel) rfl dX7_copiedIn_9 ?_
  refine lv_iload_n hx hb dX7_copiedIn_12 rfl (lv_at hl 1 rfl) ?_
  refine kx_aald (i := mv) hx hb hK hM.moves 3 rfl (by omega) (by decide) rfl dX7_copiedIn_13 ?_
  refine kx_get (v := .int (e (80 + 10 * mv + 5))) hx hb hts hinX3 hown hK (hM.mv (m := mv) (by omega)) rfl 7 (by decide) (by decide +kernel) rfl dX7_copiedIn_14 ?_
  refine kx_ci (x := e (80 + 10 * mv + 5)) (y := nI (mS e mv)) (Inv.m5 hI (by first | assumption | omega)) ?_
  refine lv_iconst (v := nI 2) hx hb dX7_copiedIn_17 (by decide) ?_
  refine kn_icmp_lt (tgt := 23) hx hb dX7_copiedIn_18 (by decide) (by omega) (by decide) (fun hph => ?_) (fun hph => ?_)
  · refine lv_aload_n hx hb dX7_copiedIn_23 rfl (lv_at hl 0 rfl) ?_
    refine kx_get (v := .ref (x + 60)) hx hb hts hinX7 hown hK hWro rfl 1 (by decide) (by decide +kernel) rfl dX7_copiedIn_24 ?_
    refine lv_aload_n hx hb dX7_copiedIn_27 rfl (lv_at hl 0 rfl) ?_
    refine kx_get (v := .ref (x + 1)) hx hb hts hinX7 hown hK hWro rfl 0 (by decide) (by decide +kernel) rfl dX7_copiedIn_28 ?_
    refine kx_retM (va_runV (As := [.ref (x + 1)]) (rest := []) ⟨hx, hb, hml, hown, hts⟩ (k_X5_copyFrom l D cs (x + 60) e1 g1 (x + 1) e g hI (Or.inr (by omega))) (cwV 1 hts gX7_copiedIn_X5_copyFrom rfl rfl rfl (by decide +kernel) ⟨Nat.le_of_ble_eq_true rfl, Nat.le_of_ble_eq_true rfl⟩) (kx_preV hK hN hM2.obj rfl ⟨hM2, hM⟩) rfl rfl hl.1 rfl (lv_room (Nat.le_of_ble_eq_true rfl)) dX7_copiedIn_31 ⟨Nat.le_of_ble_eq_true rfl, Nat.le_of_ble_eq_true rfl⟩) hS (fun x _ h => (by first | exact h | (have h1 := h.1; have h2 := h.2; exact ⟨by omega, by omega⟩) | (rcases h with h | h <;> (have h1 := h.1; have h2 := h.2; exact ⟨by omega, by omega⟩)))) (fun x h => (by first | exact h | (have h1 := h.1; have h2 := h.2; exact ⟨by omega, by omega⟩) | (rcases h with h | h <;> (have h1 := h.1; have h2 := h.2; exact ⟨by omega, by omega⟩)))) (fun H locs hMN hk hS => ?_)
    have hWhi := hWhi.frame hk (fun x h1 h2 h => by first | (have h3 := h.1; have h4 := h.2; omega) | (rcases h with h | h <;> (have h3 := h.1; have h4 := h.2; omega)))
    have hWro := hWro.kept (hk.2 _ hWro.lt (fun h => by first | (have h3 := h.1; have h4 := h.2; omega) | (rcases h with h | h <;> (have h3 := h.1; have h4 := h.2; omega))))
    have hM := hM.frame hk (fun x h1 h2 h => by first | (have h3 := h.1; have h4 := h.2; omega) | (rcases h with h | h <;> (have h3 := h.1; have h4 := h.2; omega)))
    have hWtb := hWtb.kept (hk.2 _ hWtb.lt (fun h => by first | (have h3 := h.1; have h4 := h.2; omega) | (rcases h with h | h <;> (have h3 := h.1; have h4 := h.2; omega))))
    have hWtn := hWtn.kept (hk.2 _ hWtn.lt (fun h => by first | (have h3 := h.1; have h4 := h.2; omega) | (rcases h with h | h <;> (have h3 := h.1; have h4 := h.2; omega))))
    have hWto := hWto.kept (hk.2 _ hWto.lt (fun h => by first | (have h3 := h.1; have h4 := h.2; omega) | (rcases h with h | h <;> (have h3 := h.1; have h4 := h.2; omega))))
    have hM2 := hMN
    clear hk hMN
    refine lv_iconst (v := nI 1) hx hb dX7_copiedIn_34 (by decide) ?_
    refine lv_istore_n (lv' := [(2, .int (nI (1))), (0, .ref (x)), (1, .int (nI (mv)))]) hx hb dX7_copiedIn_35 rfl hl (by decide) rfl (fun ls hl => ?_)
    have J36 : ∀ (fu36 : Nat) (k : Nat) (H : Heap) (locs : List Loc) (ls : Array Slot), (300 - k) < fu36 → (k ≤ 300) → (∀ j, j ≤ k → mS (psF (cfF e1 e) j) mv < 2) → (HiC D cs (x + 119) nx cn se sg H) → (va_at D vwCl (x, .inr (5, [.ref (x + 1), .ref (x + 60), .ref (x + 119), .ref (x + 357)])) H) → (StC D cs (x + 1) e g H) → (StC D cs (x + 60) (psF (cfF e1 e) k) (cgM g1 g (Mn e)) H) → (va_at D vwCl (x + 357 + 1, .inl (cs 1, 150, .inl b)) H) → (va_at D vwCl (x + 357 + 2, .inl (cs 0, 5, .inl nn)) H) → (va_at D vwCl (x + 357, .inr (0, [.ref (x + 357 + 1), .ref (x + 357 + 2), .ref (wd), .int (nI (ln)), .int (nI (pa)), .int (ft)])) H) → va_S ((rgR x)) s.heap H locs → lv_has ls 3 [(0, .ref (x)), (1, .int (nI (mv))), (2, .int (nI (k + 1)))] → W p l en ({ frames := 4, cells := 0, slots := 0, locals := 91 } : Room) s m args below meth c H locs 0 0 (MQ below (QcM (some (.int (ctI (cfF e1 e) mv))) (fun H => ∃ e1' : Nat → Int32, ∃ g1' : Nat → Int64, HrC D cs x e g e1' g1' nx cn se sg b nn wd ln pa ft H) (rgR x)) args s 0 0 ((rgR x))) (F0 m 36 ls []) := by
      intro fu36; induction fu36 with
      | zero => intro k H locs ls hmu36 hk hall hWhi hWro hM hM2 hWtb hWtn hWto hS hl; exact absurd hmu36 (Nat.not_lt_zero _)
      | succ fu36 ih36 =>
        intro k H locs ls hmu36 hk hall hWhi hWro hM hM2 hWtb hWtn hWto hS hl
        have hy := psF_si hIc k
        have hMy := hy.1.M
        have hs4 := (psF_si hIc (k + 1)).2.s3 (m := mv) (by rw [(psF_si hIc (k + 1)).1.M]; omega)
        refine lv_iload_n hx hb dX7_copiedIn_36 rfl (lv_at hl 2 rfl) ?_
        refine lv_sipush (v := nI 300) hx hb dX7_copiedIn_37 (by decide) ?_
        refine kn_icmp_gt (tgt := 74) hx hb dX7_copiedIn_40 (by decide) (by omega) (by decide) (fun hge => ?_) (fun hge => ?_)
        · refine lv_sipush (v := -1000) hx hb dX7_copiedIn_74 (by decide) ?_
          exact kx_iretM hx hb hrt hlk (ct_no (fun j hj => hall j (by omega))).symm ⟨_, _, hWro, hM, hM2, hWhi, hWto, hWtb, hWtn⟩ hS dX7_copiedIn_77
        · refine lv_aload_n hx hb dX7_copiedIn_43 rfl (lv_at hl 0 rfl) ?_
          refine kx_get (v := .ref (x + 60)) hx hb hts hinX7 hown hK hWro rfl 1 (by decide) (by decide +kernel) rfl dX7_copiedIn_44 ?_
          refine kx_retM (va_runV (As := []) (rest := []) ⟨hx, hb, hml, hown, hts⟩ (k_X5_passTick l D cs (x + 60) (psF (cfF e1 e) k) (cgM g1 g (Mn e)) hy.2 (hGc.stay hIc hy.1)) (cwV 0 hts gX7_copiedIn_X5_passTick rfl rfl rfl (by decide +kernel) ⟨Nat.le_of_ble_eq_true rfl, Nat.le_of_ble_eq_true rfl⟩) (kx_preV hK hN hM2.obj rfl hM2) rfl rfl hl.1 rfl (lv_room (Nat.le_of_ble_eq_true rfl)) dX7_copiedIn_47 ⟨Nat.le_of_ble_eq_true rfl, Nat.le_of_ble_eq_true rfl⟩) hS (fun x _ h => (by first | exact h | (have h1 := h.1; have h2 := h.2; exact ⟨by omega, by omega⟩) | (rcases h with h | h <;> (have h1 := h.1; have h2 := h.2; exact ⟨by omega, by omega⟩)))) (fun x h => (by first | exact h | (have h1 := h.1; have h2 := h.2; exact ⟨by omega, by omega⟩) | (rcases h with h | h <;> (have h1 := h.1; have h2 := h.2; exact ⟨by omega, by omega⟩)))) (fun H locs hMN hk hS => ?_)
          have hWhi := hWhi.frame hk (fun x h1 h2 h => by first | (have h3 := h.1; have h4 := h.2; omega) | (rcases h with h | h <;> (have h3 := h.1; have h4 := h.2; omega)))
          have hWro := hWro.kept (hk.2 _ hWro.lt (fun h => by first | (have h3 := h.1; have h4 := h.2; omega) | (rcases h with h | h <;> (have h3 := h.1; have h4 := h.2; omega))))
          have hM := hM.frame hk (fun x h1 h2 h => by first | (have h3 := h.1; have h4 := h.2; omega) | (rcases h with h | h <;> (have h3 := h.1; have h4 := h.2; omega)))
          have hWtb := hWtb.kept (hk.2 _ hWtb.lt (fun h => by first | (have h3 := h.1; have h4 := h.2; omega) | (rcases h with h | h <;> (have h3 := h.1; have h4 := h.2; omega))))
          have hWtn := hWtn.kept (hk.2 _ hWtn.lt (fun h => by first | (have h3 := h.1; have h4 := h.2; omega) | (rcases h with h | h <;> (have h3 := h.1; have h4 := h.2; omega))))
          have hWto := hWto.kept (hk.2 _ hWto.lt (fun h => by first | (have h3 := h.1; have h4 := h.2; omega) | (rcases h with h | h <;> (have h3 := h.1; have h4 := h.2; omega))))
          have hM2 := hMN
          clear hk hMN
          have hM2 : StC D cs (x + 60) (psF (cfF e1 e) (k + 1)) ((cgM g1 g (Mn e))) H := hM2
          refine lv_aload_n hx hb dX7_copiedIn_50 rfl (lv_at hl 0 rfl) ?_
          refine kx_get (v := .ref (x + 60)) hx hb hts hinX7 hown hK hWro rfl 1 (by decide) (by decide +kernel) rfl dX7_copiedIn_51 ?_
          refine kx_get (v := .ref (x + 60 + 3)) hx hb hts hinX5 hown hK hM2.obj rfl 2 (by decide) (by decide +kernel) rfl dX7_copiedIn_54 ?_
          refine lv_iload_n hx hb dX7_copiedIn_57 rfl (lv_at hl 1 rfl) ?_
          refine kx_aald (i := mv) hx hb hK hM2.moves 3 rfl (by omega) (by decide) rfl dX7_copiedIn_58 ?_
          refine kx_get (v := .int ((psF (cfF e1 e) (k + 1)) (80 + 10 * mv + 5))) hx hb hts hinX3 hown hK (hM2.mv (m := mv) (by omega)) rfl 7 (by decide) (by decide +kernel) rfl dX7_copiedIn_59 ?_
          refine kx_ci (x := (psF (cfF e1 e) (k + 1)) (80 + 10 * mv + 5)) (y := nI (mS (psF (cfF e1 e) (k + 1)) mv)) (Inv.m5 (psF_si hIc (k + 1)).2 (by rw [(psF_si hIc (k + 1)).1.M]; omega)) ?_
          refine lv_iconst (v := nI 2) hx hb dX7_copiedIn_62 (by decide) ?_
          refine kn_icmp_lt (tgt := 68) hx hb dX7_copiedIn_63 (by decide) (by omega) (by decide) (fun hp2 => ?_) (fun hp2 => ?_)
          · refine lv_iinc (v := nI (k + 1 + 1)) (lv' := [(2, .int (nI (k + 1 + 1))), (0, .ref (x)), (1, .int (nI (mv)))]) (k := 2) hx hb dX7_copiedIn_68 hl rfl (nI_add _ _) (by decide) rfl (fun ls hl => ?_)
            refine lv_goto (tgt := 36) hx hb dX7_copiedIn_71 (by decide) ?_
            exact ih36 (k + 1) _ _ _ (by omega) (by omega) (le_t hall (by omega)) hWhi hWro hM hM2 hWtb hWtn hWto hS (lv_sub hl [1, 2, 0] rfl)
          · refine lv_iload_n hx hb dX7_copiedIn_66 rfl (lv_at hl 2 rfl) ?_
            exact kx_iretM hx hb hrt hlk (ct_at (k := k + 1) (fun j hj => hall j (by omega)) (by omega) (by omega)).symm ⟨_, _, hWro, hM, hM2, hWhi, hWto, hWtb, hWtn⟩ hS dX7_copiedIn_67
    exact J36 _ 0 _ _ _ (Nat.lt_succ_self _) (by omega) (fun j hj => by rw [show j = 0 by omega]; show mS (cfF e1 e) mv < 2; omega) hWhi hWro hM hM2 hWtb hWtn hWto hS (lv_sub hl [1, 2, 0] rfl)
  · refine lv_iconst (v := nI 0) hx hb dX7_copiedIn_21 (by decide) ?_
    exact kx_iretM hx hb hrt hlk (ct_at (t := (cfF e1 e)) (k := 0) (fun j hj => absurd hj (Nat.not_lt_zero j)) (by show ¬ mS (cfF e1 e) mv < 2; omega) (by decide)).symm ⟨e1, g1, hWro, hM, hM2, hWhi, hWto, hWtb, hWtn⟩ hS dX7_copiedIn_22
set_option maxHeartbeats 2500000 in
set_option maxRecDepth 100000 in
theorem k_X7_stuck (l : Launch) (D : va_G) (cs : Nat → ClassId) (x : Nat) (e : Nat → Int32) (g : Nat → Int64) (e1 : Nat → Int32) (g1 : Nat → Int64) (nx cn : Nat) (se : Nat → Nat → Int32) (sg : Nat → Nat → Int64) (b nn : Nat → Int32) (wd ln pa : Nat) (ft : Int32) (hI : Inv e) (hG : Msk e g) : Met l yX7_stuck wsX7_stuck ({ frames := 5, cells := 0, slots := 0, locals := 112 } : Room) (PcK D cs [.ref (x)] (fun H => HrC D cs x e g e1 g1 nx cn se sg b nn wd ln pa ft H)) (QcM (some (.int (nI (stI (cfF e1 e) e)))) (fun H => ∃ e1' : Nat → Int32, ∃ g1' : Nat → Int64, HrC D cs x e g e1' g1' nx cn se sg b nn wd ln pa ft H) (rgR x)) 0 0 ((rgR x)) := by
  refine kx_met (cc := cX7_stuck) (maxL := 2) (ret := (some .int)) (by decide) rfl (Nat.le_of_ble_eq_true rfl) ?_
  intro p en s m args below meth c hx hb hml hrt hts hown hlk hK hN hP ls hl
  have hl : lv_has ls 2 [(0, .ref (x))] := hl
  obtain ⟨H, hHe⟩ : ∃ H : Heap, H = s.heap := ⟨_, rfl⟩
  rw [← hHe] at hP ⊢
  have hS : va_S ((rgR x)) s.heap H [] := by rw [← hHe]; exact va_S.rf
  have hinX7 : ∀ w ∈ wsX70, w ∈ wsX7_stuck := by decide +kernel
  obtain ⟨hWro, hM, hM2, hWhi, hWto, hWtb, hWtn⟩ := hP
  have h24 := hI.M24
  have h6 := hI.R6
  have hct := cf_ev e1 hI
  have hIc := ev_R hct
  have hGc := cf_msk e1 g1 hI hG
  have hM9 := hct.M
  have hm0 : msN e 0 ≤ Mn e := msK_le e 0 (Mn e)
  have hm1 : msN e 1 ≤ Mn e := msK_le e 1 (Mn e)
  have hy := psF_si hIc 60
  have hm2 : msN (psF (cfF e1 e) 60) 0 ≤ Mn (psF (cfF e1 e) 60) := msK_le _ 0 _
  have hMy := hy.1.M
  refine lv_aload_n hx hb dX7_stuck_0 rfl (lv_at hl 0 rfl) ?_
  refine kx_get (v := .ref (x + 1)) hx hb hts hinX7 hown hK hWro rfl 0 (by decide) (by decide +kernel) rfl dX7_stuck_1 ?_
  refine lv_iconst (v := nI 0) hx hb dX7_stuck_4 (by decide) ?_
  refine kx_retP (va_runV (As := [.int (nI (0))]) (rest := []) ⟨hx, hb, hml, hown, hts⟩ (k_X5_countIn l D cs (x + 1) e g 0 hI (by decide)) (cwV 1 hts gX7_stuck_X5_countIn rfl rfl rfl (by decide +kernel) ⟨Nat.le_of_ble_eq_true rfl, Nat.le_of_ble_eq_true rfl⟩) (kx_preV hK hN hM.obj rfl hM) rfl rfl hl.1 rfl (lv_room (Nat.le_of_ble_eq_true rfl)) dX7_stuck_5 ⟨Nat.le_of_ble_eq_true rfl, Nat.le_of_ble_eq_true rfl⟩) ?_
  refine lv_istore_n (lv' := [(1, .int (nI (msN e 0))), (0, .ref (x))]) hx hb dX7_stuck_8 rfl hl (by decide) rfl (fun ls hl => ?_)
  refine lv_iload_n hx hb dX7_stuck_9 rfl (lv_at hl 0 rfl) ?_
  refine kn_if_eq (tgt := 24) hx hb dX7_stuck_10 (by decide) (by omega) (fun hw0 => ?_) (fun hw0 => ?_)
  · refine lv_iconst (v := nI 0) hx hb dX7_stuck_24 (by decide) ?_
    exact kx_iretM hx hb hrt hlk (congrArg nI (by unfold stI; rw [if_pos (by omega)])) ⟨e1, g1, hWro, hM, hM2, hWhi, hWto, hWtb, hWtn⟩ hS dX7_stuck_25
  · refine lv_aload_n hx hb dX7_stuck_13 rfl (lv_at hl 1 rfl) ?_
    refine kx_get (v := .ref (x + 1)) hx hb hts hinX7 hown hK hWro rfl 0 (by decide) (by decide +kernel) rfl dX7_stuck_14 ?_
    refine lv_iconst (v := nI 1) hx hb dX7_stuck_17 (by decide) ?_
    refine kx_retP (va_runV (As := [.int (nI (1))]) (rest := []) ⟨hx, hb, hml, hown, hts⟩ (k_X5_countIn l D cs (x + 1) e g 1 hI (by decide)) (cwV 1 hts gX7_stuck_X5_countIn rfl rfl rfl (by decide +kernel) ⟨Nat.le_of_ble_eq_true rfl, Nat.le_of_ble_eq_true rfl⟩) (kx_preV hK hN hM.obj rfl hM) rfl rfl hl.1 rfl (lv_room (Nat.le_of_ble_eq_true rfl)) dX7_stuck_18 ⟨Nat.le_of_ble_eq_true rfl, Nat.le_of_ble_eq_true rfl⟩) ?_
    refine kn_if_le (tgt := 26) hx hb dX7_stuck_21 (by decide) (by omega) (fun hw1 => ?_) (fun hw1 => ?_)
    · refine lv_aload_n hx hb dX7_stuck_26 rfl (lv_at hl 1 rfl) ?_
      refine kx_get (v := .ref (x + 60)) hx hb hts hinX7 hown hK hWro rfl 1 (by decide) (by decide +kernel) rfl dX7_stuck_27 ?_
      refine lv_aload_n hx hb dX7_stuck_30 rfl (lv_at hl 1 rfl) ?_
      refine kx_get (v := .ref (x + 1)) hx hb hts hinX7 hown hK hWro rfl 0 (by decide) (by decide +kernel) rfl dX7_stuck_31 ?_
      refine kx_retM (va_runV (As := [.ref (x + 1)]) (rest := []) ⟨hx, hb, hml, hown, hts⟩ (k_X5_copyFrom l D cs (x + 60) e1 g1 (x + 1) e g hI (Or.inr (by omega))) (cwV 1 hts gX7_stuck_X5_copyFrom rfl rfl rfl (by decide +kernel) ⟨Nat.le_of_ble_eq_true rfl, Nat.le_of_ble_eq_true rfl⟩) (kx_preV hK hN hM2.obj rfl ⟨hM2, hM⟩) rfl rfl hl.1 rfl (lv_room (Nat.le_of_ble_eq_true rfl)) dX7_stuck_34 ⟨Nat.le_of_ble_eq_true rfl, Nat.le_of_ble_eq_true rfl⟩) hS (fun x _ h => (by first | exact h | (have h1 := h.1; have h2 := h.2; exact ⟨by omega, by omega⟩) | (rcases h with h | h <;> (have h1 := h.1; have h2 := h.2; exact ⟨by omega, by omega⟩)))) (fun x h => (by first | exact h | (have h1 := h.1; have h2 := h.2; exact ⟨by omega, by omega⟩) | (rcases h with h | h <;> (have h1 := h.1; have h2 := h.2; exact ⟨by omega, by omega⟩)))) (fun H locs hMN hk hS => ?_)
      have hWhi := hWhi.frame hk (fun x h1 h2 h => by first | (have h3 := h.1; have h4 := h.2; omega) | (rcases h with h | h <;> (have h3 := h.1; have h4 := h.2; omega)))
      have hWro := hWro.kept (hk.2 _ hWro.lt (fun h => by first | (have h3 := h.1; have h4 := h.2; omega) | (rcases h with h | h <;> (have h3 := h.1; have h4 := h.2; omega))))
      have hM := hM.frame hk (fun x h1 h2 h => by first | (have h3 := h.1; have h4 := h.2; omega) | (rcases h with h | h <;> (have h3 := h.1; have h4 := h.2; omega)))
      have hWtb := hWtb.kept (hk.2 _ hWtb.lt (fun h => by first | (have h3 := h.1; have h4 := h.2; omega) | (rcases h with h | h <;> (have h3 := h.1; have h4 := h.2; omega))))
      have hWtn := hWtn.kept (hk.2 _ hWtn.lt (fun h => by first | (have h3 := h.1; have h4 := h.2; omega) | (rcases h with h | h <;> (have h3 := h.1; have h4 := h.2; omega))))
      have hWto := hWto.kept (hk.2 _ hWto.lt (fun h => by first | (have h3 := h.1; have h4 := h.2; omega) | (rcases h with h | h <;> (have h3 := h.1; have h4 := h.2; omega))))
      have hM2 := hMN
      clear hk hMN
      refine lv_aload_n hx hb dX7_stuck_37 rfl (lv_at hl 1 rfl) ?_
      refine kx_get (v := .ref (x + 60)) hx hb hts hinX7 hown hK hWro rfl 1 (by decide) (by decide +kernel) rfl dX7_stuck_38 ?_
      refine lv_bipush (v := nI 60) hx hb dX7_stuck_41 (by decide) ?_
      refine kx_retM (va_runV (As := [.int (nI (60))]) (rest := []) ⟨hx, hb, hml, hown, hts⟩ (k_X5_letPass l D cs (x + 60) (cfF e1 e) (cgM g1 g (Mn e)) 60 hIc hGc (by decide)) (cwV 1 hts gX7_stuck_X5_letPass rfl rfl rfl (by decide +kernel) ⟨Nat.le_of_ble_eq_true rfl, Nat.le_of_ble_eq_true rfl⟩) (kx_preV hK hN hM2.obj rfl hM2) rfl rfl hl.1 rfl (lv_room (Nat.le_of_ble_eq_true rfl)) dX7_stuck_43 ⟨Nat.le_of_ble_eq_true rfl, Nat.le_of_ble_eq_true rfl⟩) hS (fun x _ h => (by first | exact h | (have h1 := h.1; have h2 := h.2; exact ⟨by omega, by omega⟩) | (rcases h with h | h <;> (have h1 := h.1; have h2 := h.2; exact ⟨by omega, by omega⟩)))) (fun x h => (by first | exact h | (have h1 := h.1; have h2 := h.2; exact ⟨by omega, by omega⟩) | (rcases h with h | h <;> (have h1 := h.1; have h2 := h.2; exact ⟨by omega, by omega⟩)))) (fun H locs hMN hk hS => ?_)
      have hWhi := hWhi.frame hk (fun x h1 h2 h => by first | (have h3 := h.1; have h4 := h.2; omega) | (rcases h with h | h <;> (have h3 := h.1; have h4 := h.2; omega)))
      have hWro := hWro.kept (hk.2 _ hWro.lt (fun h => by first | (have h3 := h.1; have h4 := h.2; omega) | (rcases h with h | h <;> (have h3 := h.1; have h4 := h.2; omega))))
      have hM := hM.frame hk (fun x h1 h2 h => by first | (have h3 := h.1; have h4 := h.2; omega) | (rcases h with h | h <;> (have h3 := h.1; have h4 := h.2; omega)))
      have hWtb := hWtb.kept (hk.2 _ hWtb.lt (fun h => by first | (have h3 := h.1; have h4 := h.2; omega) | (rcases h with h | h <;> (have h3 := h.1; have h4 := h.2; omega))))
      have hWtn := hWtn.kept (hk.2 _ hWtn.lt (fun h => by first | (have h3 := h.1; have h4 := h.2; omega) | (rcases h with h | h <;> (have h3 := h.1; have h4 := h.2; omega))))
      have hWto := hWto.kept (hk.2 _ hWto.lt (fun h => by first | (have h3 := h.1; have h4 := h.2; omega) | (rcases h with h | h <;> (have h3 := h.1; have h4 := h.2; omega))))
      have hM2 := hMN
      clear hk hMN
      refine lv_pop hx hb dX7_stuck_46 rfl ?_
      refine lv_aload_n hx hb dX7_stuck_47 rfl (lv_at hl 1 rfl) ?_
      refine kx_get (v := .ref (x + 60)) hx hb hts hinX7 hown hK hWro rfl 1 (by decide) (by decide +kernel) rfl dX7_stuck_48 ?_
      refine lv_iconst (v := nI 0) hx hb dX7_stuck_51 (by decide) ?_
      refine kx_retP (va_runV (As := [.int (nI (0))]) (rest := []) ⟨hx, hb, hml, hown, hts⟩ (k_X5_countIn l D cs (x + 60) (psF (cfF e1 e) 60) ((cgM g1 g (Mn e))) 0 hy.2 (by decide)) (cwV 1 hts gX7_stuck_X5_countIn rfl rfl rfl (by decide +kernel) ⟨Nat.le_of_ble_eq_true rfl, Nat.le_of_ble_eq_true rfl⟩) (kx_preV hK hN hM2.obj rfl hM2) rfl rfl hl.1 rfl (lv_room (Nat.le_of_ble_eq_true rfl)) dX7_stuck_52 ⟨Nat.le_of_ble_eq_true rfl, Nat.le_of_ble_eq_true rfl⟩) ?_
      refine lv_iload_n hx hb dX7_stuck_55 rfl (lv_at hl 0 rfl) ?_
      refine kn_icmp_ne (tgt := 63) hx hb dX7_stuck_56 (by decide) (by omega) (by omega) (fun hq => ?_) (fun hq => ?_)
      · refine lv_iconst (v := nI 0) hx hb dX7_stuck_63 (by decide) ?_
        exact kx_iretM hx hb hrt hlk (congrArg nI (by unfold stI; rw [if_neg (by omega)]; simp [hq])) ⟨_, _, hWro, hM, hM2, hWhi, hWto, hWtb, hWtn⟩ hS dX7_stuck_64
      · refine lv_iconst (v := nI 1) hx hb dX7_stuck_59 (by decide) ?_
        refine lv_goto (tgt := 64) hx hb dX7_stuck_60 (by decide) ?_
        exact kx_iretM hx hb hrt hlk (congrArg nI (by unfold stI; rw [if_neg (by omega)]; simp [hq])) ⟨_, _, hWro, hM, hM2, hWhi, hWto, hWtb, hWtn⟩ hS dX7_stuck_64
    · refine lv_iconst (v := nI 0) hx hb dX7_stuck_24 (by decide) ?_
      exact kx_iretM hx hb hrt hlk (congrArg nI (by unfold stI; rw [if_pos (by omega)])) ⟨e1, g1, hWro, hM, hM2, hWhi, hWto, hWtb, hWtn⟩ hS dX7_stuck_25
