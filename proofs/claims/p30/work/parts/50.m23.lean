set_option maxHeartbeats 2500000 in
set_option maxRecDepth 100000 in
theorem k_X5_signPatiently (l : Launch) (D : va_G) (cs : Nat → ClassId) (q : Nat) (e : Nat → Int32) (g : Nat → Int64) (r : Nat) (pt : Int32) (hI : Inv e) (hr : r < Rn e) (hp9 : pt = e (56 + 4 * r + 2)) : Met l yX5_signPatiently wsX5_signPatiently ({ frames := 1, cells := 0, slots := 0, locals := 21 } : Room) (PcK D cs [.ref (q), .int (nI (r)), .int (pt)] (fun H => StC D cs q e g H)) (QcM none (fun H => StC D cs q (sgR r (Mn e) e) g H) (rgS q)) 0 0 ((rgS q)) := by
  refine kx_met (cc := cX5_signPatiently) (maxL := 5) (ret := none) (by decide) rfl (Nat.le_of_ble_eq_true rfl) ?_
  intro p en s m args below meth c hx hb hml hrt hts hown hlk hK hN hP ls hl
  have hl : lv_has ls 5 [(0, .ref (q)), (1, .int (nI (r))), (2, .int (pt))] := hl
  obtain ⟨H, hHe⟩ : ∃ H : Heap, H = s.heap := ⟨_, rfl⟩
  rw [← hHe] at hP ⊢
  have hS : va_S ((rgS q)) s.heap H [] := by rw [← hHe]; exact va_S.rf
  have hinX3 : ∀ w ∈ wsX30, w ∈ wsX5_signPatiently := by decide +kernel
  have hinX5 : ∀ w ∈ wsX50, w ∈ wsX5_signPatiently := by decide +kernel
  have hM := hP
  have h24 := hI.M24
  have h6 := hI.R6
  refine lv_iconst (v := nI 0) hx hb dX5_signPatiently_0 (by decide) ?_
  refine lv_istore_n (lv' := [(3, .int (nI (0))), (0, .ref (q)), (1, .int (nI (r))), (2, .int (pt))]) hx hb dX5_signPatiently_1 rfl hl (by decide) rfl (fun ls hl => ?_)
  have J2 : ∀ (fu2 : Nat) (k : Nat) (H : Heap) (locs : List Loc) (ls : Array Slot), (Mn e - k) < fu2 → (k ≤ Mn e) → (StC D cs q (sgR r k e) g H) → va_S ((rgS q)) s.heap H locs → lv_has ls 5 [(0, .ref (q)), (1, .int (nI (r))), (2, .int (pt)), (3, .int (nI (k)))] → W p l en ({ frames := 1, cells := 0, slots := 0, locals := 21 } : Room) s m args below meth c H locs 0 0 (MQ below (QcM none (fun H => StC D cs q (sgR r (Mn e) e) g H) (rgS q)) args s 0 0 ((rgS q))) (F0 m 2 ls []) := by
    intro fu2; induction fu2 with
    | zero => intro k H locs ls hmu2 hk hM hS hl; exact absurd hmu2 (Nat.not_lt_zero _)
    | succ fu2 ih2 =>
      intro k H locs ls hmu2 hk hM hS hl
      obtain ⟨x, hxd⟩ : ∃ x, sgR r k e = x := ⟨_, rfl⟩
      have hx' : SI e x := hxd ▸ sgR_si hI r k
      rw [hxd] at hM
      have hRx := hx'.1.R
      have hMx := hx'.1.M
      have hpx : x (56 + 4 * r + 2) = e (56 + 4 * r + 2) := hx'.1.2.2.2.1 r 2 (by omega) (by omega)
      refine lv_iload_n hx hb dX5_signPatiently_2 rfl (lv_at hl 3 rfl) ?_
      refine lv_aload_n hx hb dX5_signPatiently_3 rfl (lv_at hl 0 rfl) ?_
      refine kx_get (v := .int (x 4)) hx hb hts hinX5 hown hK hM.obj rfl 5 (by decide) (by decide +kernel) rfl dX5_signPatiently_4 ?_
      refine kx_ci (x := x 4) (y := nI (Mn x)) (Inv.z4 hx'.2) ?_
      refine kn_icmp_ge (tgt := 53) hx hb dX5_signPatiently_7 (by decide) (by omega) (by omega) (fun c_1 => ?_) (fun c_1 => ?_)
      · exact kx_vretM hx hb hrt hlk (by rw [← hxd, show k = Mn e by omega] at hM; exact hM) hS dX5_signPatiently_53
      · have hkM : k < Mn x := by omega
        have hs3 := hx'.2.s3 hkM
        refine lv_aload_n hx hb dX5_signPatiently_10 rfl (lv_at hl 0 rfl) ?_
        refine kx_get (v := .ref (q + 3)) hx hb hts hinX5 hown hK hM.obj rfl 2 (by decide) (by decide +kernel) rfl dX5_signPatiently_11 ?_
        refine lv_iload_n hx hb dX5_signPatiently_14 rfl (lv_at hl 3 rfl) ?_
        refine kx_aald (i := k) hx hb hK hM.moves 3 rfl (by omega) (by decide) rfl dX5_signPatiently_15 ?_
        refine lv_astore (lv' := [(4, .ref (q + 11 + 2 * k)), (0, .ref (q)), (1, .int (nI (r))), (2, .int (pt)), (3, .int (nI (k)))]) hx hb dX5_signPatiently_16 hl (by decide) rfl (fun ls hl => ?_)
        refine lv_aload hx hb dX5_signPatiently_18 (lv_at hl 0 rfl) ?_
        refine lv_iload_n hx hb dX5_signPatiently_20 rfl (lv_at hl 2 rfl) ?_
        refine kx_retP (va_runS (As := [.ref (q + 11 + 2 * k), .int (nI (r))]) (rest := []) ⟨hx, hb, hml, hown, hts⟩ (k_X5_isCopiedTo l D cs q x g k r hx'.2 (by first | assumption | omega) (by omega)) (cwS 2 hts gX5_signPatiently_X5_isCopiedTo rfl rfl rfl (by decide +kernel) ⟨Nat.le_of_ble_eq_true rfl, Nat.le_of_ble_eq_true rfl⟩) (kx_preS hK hN hM) rfl rfl hl.1 rfl (lv_room (Nat.le_of_ble_eq_true rfl)) dX5_signPatiently_21 ⟨Nat.le_of_ble_eq_true rfl, Nat.le_of_ble_eq_true rfl⟩) ?_
        refine kb_if_eq (tgt := 47) hx hb dX5_signPatiently_24 (by decide) (fun hic => ?_) (fun hic => ?_)
        · have e9 : sgR r (k + 1) e = x := by
            show sgS r k (sgR r k e) = _
            rw [hxd]; first | (rw [hp9, ← hpx] at hpat; simp [sgS, sgC, hic, hpat]; done) | (simp [sgS, sgC, hic]; done)
          have hM : StC D cs q (sgR r (k + 1) e) g H := by rw [e9]; exact hM
          refine lv_iinc (v := nI (k + 1)) (lv' := [(3, .int (nI (k + 1))), (4, .ref (q + 11 + 2 * k)), (0, .ref (q)), (1, .int (nI (r))), (2, .int (pt))]) (k := 4) hx hb dX5_signPatiently_47 hl rfl (nI_add _ _) (by decide) rfl (fun ls hl => ?_)
          refine lv_goto (tgt := 2) hx hb dX5_signPatiently_50 (by decide) ?_
          exact ih2 (k + 1) _ _ _ (by omega) (by omega) hM hS (lv_sub hl [2, 3, 4, 0] rfl)
        · refine lv_aload_n hx hb dX5_signPatiently_27 rfl (lv_at hl 1 rfl) ?_
          refine kx_get (v := .int (x 0)) hx hb hts hinX5 hown hK hM.obj rfl 8 (by decide) (by decide +kernel) rfl dX5_signPatiently_28 ?_
          refine lv_aload hx hb dX5_signPatiently_31 (lv_at hl 0 rfl) ?_
          refine kx_get (v := .int (x (80 + 10 * k + 8))) hx hb hts hinX3 hown hK (hM.mv (m := k) (by omega)) rfl 10 (by decide) (by decide +kernel) rfl dX5_signPatiently_33 ?_
          refine lv_isub hx hb dX5_signPatiently_36 ?_
          refine lv_iload_n hx hb dX5_signPatiently_37 rfl (lv_at hl 3 rfl) ?_
          refine lv_icmp_lt (tgt := 47) hx hb dX5_signPatiently_38 (by decide) (fun hpat => ?_) (fun hpat => ?_)
          · have e9 : sgR r (k + 1) e = x := by
              show sgS r k (sgR r k e) = _
              rw [hxd]; first | (rw [hp9, ← hpx] at hpat; simp [sgS, sgC, hic, hpat]; done) | (simp [sgS, sgC, hic]; done)
            have hM : StC D cs q (sgR r (k + 1) e) g H := by rw [e9]; exact hM
            refine lv_iinc (v := nI (k + 1)) (lv' := [(3, .int (nI (k + 1))), (4, .ref (q + 11 + 2 * k)), (0, .ref (q)), (1, .int (nI (r))), (2, .int (pt))]) (k := 4) hx hb dX5_signPatiently_47 hl rfl (nI_add _ _) (by decide) rfl (fun ls hl => ?_)
            refine lv_goto (tgt := 2) hx hb dX5_signPatiently_50 (by decide) ?_
            exact ih2 (k + 1) _ _ _ (by omega) (by omega) hM hS (lv_sub hl [2, 3, 4, 0] rfl)
          · refine lv_aload_n hx hb dX5_signPatiently_41 rfl (lv_at hl 1 rfl) ?_
            refine lv_aload hx hb dX5_signPatiently_42 (lv_at hl 0 rfl) ?_
            refine kx_retM (va_runV (As := [.ref (q + 11 + 2 * k)]) (rest := []) ⟨hx, hb, hml, hown, hts⟩ (k_X5_markSigned l D cs q x g k (by first | assumption | omega)) (cwV 1 hts gX5_signPatiently_X5_markSigned rfl rfl rfl (by decide +kernel) ⟨Nat.le_of_ble_eq_true rfl, Nat.le_of_ble_eq_true rfl⟩) (kx_preV hK hN hM.obj rfl hM) rfl rfl hl.1 rfl (lv_room (Nat.le_of_ble_eq_true rfl)) dX5_signPatiently_44 ⟨Nat.le_of_ble_eq_true rfl, Nat.le_of_ble_eq_true rfl⟩) hS (fun x _ h => by first | exact h | exact ⟨by have h1 := h.1; have h2 := h.2; omega, by have h1 := h.1; have h2 := h.2; omega⟩) (fun x h => by first | exact h | exact ⟨by have h1 := h.1; have h2 := h.2; omega, by have h1 := h.1; have h2 := h.2; omega⟩) (fun H locs hMN hk hS => ?_)
            have hM := hMN
            clear hk hMN
            have e9 : sgR r (k + 1) e = signF x k := by
              show sgS r k (sgR r k e) = _
              rw [hxd]; first | (rw [hp9, ← hpx] at hpat; simp [sgS, sgC, hic, hpat]; done) | (simp [sgS, sgC, hic]; done)
            have hM : StC D cs q (sgR r (k + 1) e) g H := by rw [e9]; exact hM
            refine lv_iinc (v := nI (k + 1)) (lv' := [(3, .int (nI (k + 1))), (4, .ref (q + 11 + 2 * k)), (0, .ref (q)), (1, .int (nI (r))), (2, .int (pt))]) (k := 4) hx hb dX5_signPatiently_47 hl rfl (nI_add _ _) (by decide) rfl (fun ls hl => ?_)
            refine lv_goto (tgt := 2) hx hb dX5_signPatiently_50 (by decide) ?_
            exact ih2 (k + 1) _ _ _ (by omega) (by omega) hM hS (lv_sub hl [2, 3, 4, 0] rfl)
  exact J2 _ 0 _ _ _ (Nat.lt_succ_self _) (by omega) hM hS (lv_sub hl [1, 2, 3, 0] rfl)
set_option maxHeartbeats 2500000 in
set_option maxRecDepth 100000 in
theorem k_X5_startMoves (l : Launch) (D : va_G) (cs : Nat → ClassId) (q : Nat) (e : Nat → Int32) (g : Nat → Int64) (hI : Inv e) (hG : Msk e g) : Met l yX5_startMoves wsX5_startMoves ({ frames := 2, cells := 0, slots := 0, locals := 45 } : Room) (PcK D cs [.ref (q)] (fun H => StC D cs q e g H)) (QcM none (fun H => StC D cs q (stK e (Mn e)) g H) (rgS q)) 0 0 ((rgS q)) := by
  refine kx_met (cc := cX5_startMoves) (maxL := 4) (ret := none) (by decide) rfl (Nat.le_of_ble_eq_true rfl) ?_
  intro p en s m args below meth c hx hb hml hrt hts hown hlk hK hN hP ls hl
  have hl : lv_has ls 4 [(0, .ref (q))] := hl
  obtain ⟨H, hHe⟩ : ∃ H : Heap, H = s.heap := ⟨_, rfl⟩
  rw [← hHe] at hP ⊢
  have hS : va_S ((rgS q)) s.heap H [] := by rw [← hHe]; exact va_S.rf
  have hinX3 : ∀ w ∈ wsX30, w ∈ wsX5_startMoves := by decide +kernel
  have hinX5 : ∀ w ∈ wsX50, w ∈ wsX5_startMoves := by decide +kernel
  have hM := hP
  have h24 := hI.M24
  have h6 := hI.R6
  refine lv_aload_n hx hb dX5_startMoves_0 rfl (lv_at hl 0 rfl) ?_
  refine lv_iconst (v := nI 1) hx hb dX5_startMoves_1 (by decide) ?_
  refine kx_retP (va_runV (As := [.int (nI (1))]) (rest := []) ⟨hx, hb, hml, hown, hts⟩ (k_X5_countIn l D cs q e g 1 hI (by decide)) (cwV 1 hts gX5_startMoves_X5_countIn rfl rfl rfl (by decide +kernel) ⟨Nat.le_of_ble_eq_true rfl, Nat.le_of_ble_eq_true rfl⟩) (kx_preV hK hN hM.obj rfl hM) rfl rfl hl.1 rfl (lv_room (Nat.le_of_ble_eq_true rfl)) dX5_startMoves_2 ⟨Nat.le_of_ble_eq_true rfl, Nat.le_of_ble_eq_true rfl⟩) ?_
  refine lv_istore_n (lv' := [(1, .int (nI (msN e 1))), (0, .ref (q))]) hx hb dX5_startMoves_5 rfl hl (by decide) rfl (fun ls hl => ?_)
  refine lv_iconst (v := nI 0) hx hb dX5_startMoves_6 (by decide) ?_
  refine lv_istore_n (lv' := [(2, .int (nI (0))), (1, .int (nI (msN e 1))), (0, .ref (q))]) hx hb dX5_startMoves_7 rfl hl (by decide) rfl (fun ls hl => ?_)
  have J8 : ∀ (fu8 : Nat) (k : Nat) (H : Heap) (locs : List Loc) (ls : Array Slot), (Mn e - k) < fu8 → (k ≤ Mn e) → (StC D cs q (stK e k) g H) → va_S ((rgS q)) s.heap H locs → lv_has ls 4 [(0, .ref (q)), (1, .int (nI (msN (stK e k) 1))), (2, .int (nI (k)))] → W p l en ({ frames := 2, cells := 0, slots := 0, locals := 45 } : Room) s m args below meth c H locs 0 0 (MQ below (QcM none (fun H => StC D cs q (stK e (Mn e)) g H) (rgS q)) args s 0 0 ((rgS q))) (F0 m 8 ls []) := by
    intro fu8; induction fu8 with
    | zero => intro k H locs ls hmu8 hk hM hS hl; exact absurd hmu8 (Nat.not_lt_zero _)
    | succ fu8 ih8 =>
      intro k H locs ls hmu8 hk hM hS hl
      obtain ⟨y, hyd⟩ : ∃ y, stK e k = y := ⟨_, rfl⟩
      have hy : SI e y := hyd ▸ stK_si hI k
      rw [hyd] at hM hl
      have hMy := hy.1.M
      have hGy := hG.stay hI hy.1
      have hl : lv_has ls 4 [(0, .ref (q)), (1, .int (nI (msN (y) 1))), (2, .int (nI (k)))] := hl
      refine lv_iload_n hx hb dX5_startMoves_8 rfl (lv_at hl 2 rfl) ?_
      refine lv_aload_n hx hb dX5_startMoves_9 rfl (lv_at hl 0 rfl) ?_
      refine kx_get (v := .int (y 4)) hx hb hts hinX5 hown hK hM.obj rfl 5 (by decide) (by decide +kernel) rfl dX5_startMoves_10 ?_
      refine kx_ci (x := y 4) (y := nI (Mn y)) (Inv.z4 hy.2) ?_
      refine kn_icmp_ge (tgt := 60) hx hb dX5_startMoves_13 (by decide) (by omega) (by omega) (fun c_1 => ?_) (fun c_1 => ?_)
      · exact kx_vretM hx hb hrt hlk (by rw [← hyd, show k = Mn e by omega] at hM; exact hM) hS dX5_startMoves_60
      · have hkM : k < Mn y := by omega
        have hs3 := hy.2.s3 hkM
        have hwo := woN_lt y (l := k) (by omega)
        have hms : msN y 1 ≤ Mn y := msK_le y 1 (Mn y)
        refine lv_aload_n hx hb dX5_startMoves_16 rfl (lv_at hl 0 rfl) ?_
        refine kx_get (v := .ref (q + 3)) hx hb hts hinX5 hown hK hM.obj rfl 2 (by decide) (by decide +kernel) rfl dX5_startMoves_17 ?_
        refine lv_iload_n hx hb dX5_startMoves_20 rfl (lv_at hl 2 rfl) ?_
        refine kx_aald (i := k) hx hb hK hM.moves 3 rfl (by omega) (by decide) rfl dX5_startMoves_21 ?_
        refine lv_astore_n (lv' := [(3, .ref (q + 11 + 2 * k)), (0, .ref (q)), (1, .int (nI (msN (y) 1))), (2, .int (nI (k)))]) hx hb dX5_startMoves_22 rfl hl (by decide) rfl (fun ls hl => ?_)
        refine lv_iload_n hx hb dX5_startMoves_23 rfl (lv_at hl 2 rfl) ?_
        refine lv_aload_n hx hb dX5_startMoves_24 rfl (lv_at hl 1 rfl) ?_
        refine kx_get (v := .int (y 2)) hx hb hts hinX5 hown hK hM.obj rfl 7 (by decide) (by decide +kernel) rfl dX5_startMoves_25 ?_
        refine lv_icmp_ge (tgt := 54) hx hb dX5_startMoves_28 (by decide) (fun hln => ?_) (fun hln => ?_)
        · have e9 : stK e (k + 1) = y := by
            show stS k (stK e k) = _
            rw [hyd]; first | (simp [stS, *]; done) | (exfalso; omega)
          have hM : StC D cs q (stK e (k + 1)) g H := by rw [e9]; exact hM
          refine lv_iinc (v := nI (k + 1)) (lv' := [(2, .int (nI (k + 1))), (3, .ref (q + 11 + 2 * k)), (0, .ref (q)), (1, .int (nI (msN (y) 1)))]) (k := 3) hx hb dX5_startMoves_54 hl rfl (nI_add _ _) (by decide) rfl (fun ls hl => ?_)
          refine lv_goto (tgt := 8) hx hb dX5_startMoves_57 (by decide) ?_
          have hl : lv_has ls 4 [(2, .int (nI (k + 1))), (3, .ref (q + 11 + 2 * k)), (0, .ref (q)), (1, .int (nI (msN (stK e (k + 1)) 1)))] := by rw [show (msN (stK e (k + 1)) 1) = (msN (y) 1) from (by rw [e9]; try exact start_ms hy.2 hkM (by assumption))]; exact hl
          exact ih8 (k + 1) _ _ _ (by omega) (by omega) hM hS (lv_sub hl [2, 3, 0] rfl)
        · refine lv_aload_n hx hb dX5_startMoves_31 rfl (lv_at hl 0 rfl) ?_
          refine kx_get (v := .int (y (80 + 10 * k + 5))) hx hb hts hinX3 hown hK (hM.mv (m := k) (by omega)) rfl 7 (by decide) (by decide +kernel) rfl dX5_startMoves_32 ?_
          refine kx_ci (x := y (80 + 10 * k + 5)) (y := nI (mS y k)) (Inv.m5 hy.2 (by first | assumption | omega)) ?_
          refine kn_if_ne (tgt := 54) hx hb dX5_startMoves_35 (by decide) (by omega) (fun c_2 => ?_) (fun c_2 => ?_)
          · have e9 : stK e (k + 1) = y := by
              show stS k (stK e k) = _
              rw [hyd]; first | (simp [stS, *]; done) | (exfalso; omega)
            have hM : StC D cs q (stK e (k + 1)) g H := by rw [e9]; exact hM
            refine lv_iinc (v := nI (k + 1)) (lv' := [(2, .int (nI (k + 1))), (3, .ref (q + 11 + 2 * k)), (0, .ref (q)), (1, .int (nI (msN (y) 1)))]) (k := 3) hx hb dX5_startMoves_54 hl rfl (nI_add _ _) (by decide) rfl (fun ls hl => ?_)
            refine lv_goto (tgt := 8) hx hb dX5_startMoves_57 (by decide) ?_
            have hl : lv_has ls 4 [(2, .int (nI (k + 1))), (3, .ref (q + 11 + 2 * k)), (0, .ref (q)), (1, .int (nI (msN (stK e (k + 1)) 1)))] := by rw [show (msN (stK e (k + 1)) 1) = (msN (y) 1) from (by rw [e9]; try exact start_ms hy.2 hkM (by assumption))]; exact hl
            exact ih8 (k + 1) _ _ _ (by omega) (by omega) hM hS (lv_sub hl [2, 3, 0] rfl)
          · refine lv_aload_n hx hb dX5_startMoves_38 rfl (lv_at hl 1 rfl) ?_
            refine lv_iload_n hx hb dX5_startMoves_39 rfl (lv_at hl 3 rfl) ?_
            refine kx_retP (va_runV (As := [.int (nI (k))]) (rest := []) ⟨hx, hb, hml, hown, hts⟩ (k_X5_waitedFor l D cs q y g k hy.2 hGy (by first | assumption | omega)) (cwV 1 hts gX5_startMoves_X5_waitedFor rfl rfl rfl (by decide +kernel) ⟨Nat.le_of_ble_eq_true rfl, Nat.le_of_ble_eq_true rfl⟩) (kx_preV hK hN hM.obj rfl hM) rfl rfl hl.1 rfl (lv_room (Nat.le_of_ble_eq_true rfl)) dX5_startMoves_40 ⟨Nat.le_of_ble_eq_true rfl, Nat.le_of_ble_eq_true rfl⟩) ?_
            refine kn_if_ne (tgt := 54) hx hb dX5_startMoves_43 (by decide) (by omega) (fun c_3 => ?_) (fun c_3 => ?_)
            · have e9 : stK e (k + 1) = y := by
                show stS k (stK e k) = _
                rw [hyd]; first | (simp [stS, *]; done) | (exfalso; omega)
              have hM : StC D cs q (stK e (k + 1)) g H := by rw [e9]; exact hM
              refine lv_iinc (v := nI (k + 1)) (lv' := [(2, .int (nI (k + 1))), (3, .ref (q + 11 + 2 * k)), (0, .ref (q)), (1, .int (nI (msN (y) 1)))]) (k := 3) hx hb dX5_startMoves_54 hl rfl (nI_add _ _) (by decide) rfl (fun ls hl => ?_)
              refine lv_goto (tgt := 8) hx hb dX5_startMoves_57 (by decide) ?_
              have hl : lv_has ls 4 [(2, .int (nI (k + 1))), (3, .ref (q + 11 + 2 * k)), (0, .ref (q)), (1, .int (nI (msN (stK e (k + 1)) 1)))] := by rw [show (msN (stK e (k + 1)) 1) = (msN (y) 1) from (by rw [e9]; try exact start_ms hy.2 hkM (by assumption))]; exact hl
              exact ih8 (k + 1) _ _ _ (by omega) (by omega) hM hS (lv_sub hl [2, 3, 0] rfl)
            · refine lv_aload_n hx hb dX5_startMoves_46 rfl (lv_at hl 1 rfl) ?_
              refine lv_aload_n hx hb dX5_startMoves_47 rfl (lv_at hl 0 rfl) ?_
              refine kx_retM (va_runV (As := [.ref (q + 11 + 2 * k)]) (rest := []) ⟨hx, hb, hml, hown, hts⟩ (k_X5_start l D cs q y g k hy.2 (by first | assumption | omega)) (cwV 1 hts gX5_startMoves_X5_start rfl rfl rfl (by decide +kernel) ⟨Nat.le_of_ble_eq_true rfl, Nat.le_of_ble_eq_true rfl⟩) (kx_preV hK hN hM.obj rfl hM) rfl rfl hl.1 rfl (lv_room (Nat.le_of_ble_eq_true rfl)) dX5_startMoves_48 ⟨Nat.le_of_ble_eq_true rfl, Nat.le_of_ble_eq_true rfl⟩) hS (fun x _ h => by first | exact h | exact ⟨by have h1 := h.1; have h2 := h.2; omega, by have h1 := h.1; have h2 := h.2; omega⟩) (fun x h => by first | exact h | exact ⟨by have h1 := h.1; have h2 := h.2; omega, by have h1 := h.1; have h2 := h.2; omega⟩) (fun H locs hMN hk hS => ?_)
              have hM := hMN
              clear hk hMN
              refine lv_iinc (v := nI (msN (y) 1 + 1)) (lv' := [(1, .int (nI (msN (y) 1 + 1))), (3, .ref (q + 11 + 2 * k)), (0, .ref (q)), (2, .int (nI (k)))]) (k := 2) hx hb dX5_startMoves_51 hl rfl (nI_add _ _) (by decide) rfl (fun ls hl => ?_)
              have e9 : stK e (k + 1) = startF y k := by
                show stS k (stK e k) = _
                rw [hyd]; first | (simp [stS, *]; done) | (exfalso; omega)
              have hM : StC D cs q (stK e (k + 1)) g H := by rw [e9]; exact hM
              refine lv_iinc (v := nI (k + 1)) (lv' := [(2, .int (nI (k + 1))), (1, .int (nI (msN (y) 1 + 1))), (3, .ref (q + 11 + 2 * k)), (0, .ref (q))]) (k := 3) hx hb dX5_startMoves_54 hl rfl (nI_add _ _) (by decide) rfl (fun ls hl => ?_)
              refine lv_goto (tgt := 8) hx hb dX5_startMoves_57 (by decide) ?_
              have hl : lv_has ls 4 [(2, .int (nI (k + 1))), (1, .int (nI (msN (stK e (k + 1)) 1))), (3, .ref (q + 11 + 2 * k)), (0, .ref (q))] := by rw [show (msN (stK e (k + 1)) 1) = (msN (y) 1 + 1) from (by rw [e9]; try exact start_ms hy.2 hkM (by assumption))]; exact hl
              exact ih8 (k + 1) _ _ _ (by omega) (by omega) hM hS (lv_sub hl [3, 1, 0] rfl)
  exact J8 _ 0 _ _ _ (Nat.lt_succ_self _) (by omega) hM hS (lv_sub hl [2, 1, 0] rfl)
set_option maxHeartbeats 2500000 in
set_option maxRecDepth 100000 in
theorem k_X5_passTick (l : Launch) (D : va_G) (cs : Nat → ClassId) (q : Nat) (e : Nat → Int32) (g : Nat → Int64) (hI : Inv e) (hG : Msk e g) : Met l yX5_passTick wsX5_passTick ({ frames := 3, cells := 0, slots := 0, locals := 68 } : Room) (PcK D cs [.ref (q)] (fun H => StC D cs q e g H)) (QcM none (fun H => StC D cs q (tickF e) g H) (rgS q)) 0 0 ((rgS q)) := by
  refine kx_met (cc := cX5_passTick) (maxL := 2) (ret := none) (by decide) rfl (Nat.le_of_ble_eq_true rfl) ?_
  intro p en s m args below meth c hx hb hml hrt hts hown hlk hK hN hP ls hl
  have hl : lv_has ls 2 [(0, .ref (q))] := hl
  obtain ⟨H, hHe⟩ : ∃ H : Heap, H = s.heap := ⟨_, rfl⟩
  rw [← hHe] at hP ⊢
  have hS : va_S ((rgS q)) s.heap H [] := by rw [← hHe]; exact va_S.rf
  have hinX4 : ∀ w ∈ wsX40, w ∈ wsX5_passTick := by decide +kernel
  have hinX5 : ∀ w ∈ wsX50, w ∈ wsX5_passTick := by decide +kernel
  have hM := hP
  have h24 := hI.M24
  have h6 := hI.R6
  have hsg := sgF_si hI
  have hta := tkA_si hI
  refine lv_iconst (v := nI 0) hx hb dX5_passTick_0 (by decide) ?_
  refine lv_istore_n (lv' := [(1, .int (nI (0))), (0, .ref (q))]) hx hb dX5_passTick_1 rfl hl (by decide) rfl (fun ls hl => ?_)
  have J2 : ∀ (fu2 : Nat) (k : Nat) (H : Heap) (locs : List Loc) (ls : Array Slot), (Rn e - k) < fu2 → (k ≤ Rn e) → (StC D cs q (sgK e k) g H) → va_S ((rgS q)) s.heap H locs → lv_has ls 2 [(0, .ref (q)), (1, .int (nI (k)))] → W p l en ({ frames := 3, cells := 0, slots := 0, locals := 68 } : Room) s m args below meth c H locs 0 0 (MQ below (QcM none (fun H => StC D cs q (tickF e) g H) (rgS q)) args s 0 0 ((rgS q))) (F0 m 2 ls []) := by
    intro fu2; induction fu2 with
    | zero => intro k H locs ls hmu2 hk hM hS hl; exact absurd hmu2 (Nat.not_lt_zero _)
    | succ fu2 ih2 =>
      intro k H locs ls hmu2 hk hM hS hl
      obtain ⟨y, hyd⟩ : ∃ y, sgK e k = y := ⟨_, rfl⟩
      have hy : SI e y := hyd ▸ sgK_si hI k
      rw [hyd] at hM
      have hMy := hy.1.M
      have hRy := hy.1.R
      refine lv_iload_n hx hb dX5_passTick_2 rfl (lv_at hl 1 rfl) ?_
      refine lv_aload_n hx hb dX5_passTick_3 rfl (lv_at hl 0 rfl) ?_
      refine kx_get (v := .int (y 3)) hx hb hts hinX5 hown hK hM.obj rfl 4 (by decide) (by decide +kernel) rfl dX5_passTick_4 ?_
      refine kx_ci (x := y 3) (y := nI (Rn y)) (Inv.z3 hy.2) ?_
      refine kn_icmp_ge (tgt := 54) hx hb dX5_passTick_7 (by decide) (by omega) (by omega) (fun c_1 => ?_) (fun c_1 => ?_)
      · rw [← hyd, show k = Rn e by omega] at hM
        have hM : StC D cs q (sgF e) g H := hM
        refine lv_aload_n hx hb dX5_passTick_54 rfl (lv_at hl 0 rfl) ?_
        refine kx_retM (va_runV (As := []) (rest := []) ⟨hx, hb, hml, hown, hts⟩ (k_X5_startMoves l D cs q (sgF e) g hsg.2 (hG.stay hI hsg.1)) (cwV 0 hts gX5_passTick_X5_startMoves rfl rfl rfl (by decide +kernel) ⟨Nat.le_of_ble_eq_true rfl, Nat.le_of_ble_eq_true rfl⟩) (kx_preV hK hN hM.obj rfl hM) rfl rfl hl.1 rfl (lv_room (Nat.le_of_ble_eq_true rfl)) dX5_passTick_55 ⟨Nat.le_of_ble_eq_true rfl, Nat.le_of_ble_eq_true rfl⟩) hS (fun x _ h => by first | exact h | exact ⟨by have h1 := h.1; have h2 := h.2; omega, by have h1 := h.1; have h2 := h.2; omega⟩) (fun x h => by first | exact h | exact ⟨by have h1 := h.1; have h2 := h.2; omega, by have h1 := h.1; have h2 := h.2; omega⟩) (fun H locs hMN hk hS => ?_)
        have hM := hMN
        clear hk hMN
        have hM : StC D cs q (tkA e) g H := (by unfold tkA; rw [← hsg.1.M]; exact hM)
        refine lv_iconst (v := nI 0) hx hb dX5_passTick_58 (by decide) ?_
        refine lv_istore_n (lv' := [(1, .int (nI (0))), (0, .ref (q))]) hx hb dX5_passTick_59 rfl hl (by decide) rfl (fun ls hl => ?_)
        have J60 : ∀ (fu60 : Nat) (k : Nat) (H : Heap) (locs : List Loc) (ls : Array Slot), (Mn e - k) < fu60 → (k ≤ Mn e) → (StC D cs q (cy5 (tkA e) k) g H) → va_S ((rgS q)) s.heap H locs → lv_has ls 2 [(0, .ref (q)), (1, .int (nI (k)))] → W p l en ({ frames := 3, cells := 0, slots := 0, locals := 68 } : Room) s m args below meth c H locs 0 0 (MQ below (QcM none (fun H => StC D cs q (tickF e) g H) (rgS q)) args s 0 0 ((rgS q))) (F0 m 60 ls []) := by
          intro fu60; induction fu60 with
          | zero => intro k H locs ls hmu60 hk hM hS hl; exact absurd hmu60 (Nat.not_lt_zero _)
          | succ fu60 ih60 =>
            intro k H locs ls hmu60 hk hM hS hl
            have hq5 : SI e (cy5 (tkA e) k) := ⟨hta.1.tr (cy5_si hta.2 (by rw [hta.1.M]; exact hk)).1, (cy5_si hta.2 (by rw [hta.1.M]; exact hk)).2⟩
            have hM5 := hq5.1.M
            have hS8 := hq5.2.S8
            refine lv_iload_n hx hb dX5_passTick_60 rfl (lv_at hl 1 rfl) ?_
            refine lv_aload_n hx hb dX5_passTick_61 rfl (lv_at hl 0 rfl) ?_
            refine kx_get (v := .int ((cy5 (tkA e) k) 4)) hx hb hts hinX5 hown hK hM.obj rfl 5 (by decide) (by decide +kernel) rfl dX5_passTick_62 ?_
            refine kx_ci (x := (cy5 (tkA e) k) 4) (y := nI (Mn (cy5 (tkA e) k))) (Inv.z4 hq5.2) ?_
            refine kn_icmp_ge (tgt := 88) hx hb dX5_passTick_65 (by decide) (by omega) (by omega) (fun c_2 => ?_) (fun c_2 => ?_)
            · have hkk : k = Mn e := by omega
              subst hkk
              refine lv_aload_n hx hb dX5_passTick_88 rfl (lv_at hl 0 rfl) ?_
              refine lv_dup hx hb dX5_passTick_89 rfl ?_
              refine kx_get (v := .int ((cy5 (tkA e) (Mn e)) 0)) hx hb hts hinX5 hown hK hM.obj rfl 8 (by decide) (by decide +kernel) rfl dX5_passTick_90 ?_
              refine lv_iconst (v := nI 1) hx hb dX5_passTick_93 (by decide) ?_
              refine lv_iadd hx hb dX5_passTick_94 ?_
              refine kx_put hx hb hts hinX5 tyX5_ok nmX5 hown hK hM.obj rfl hS ⟨by omega, by omega⟩ 8 (by decide) (by decide +kernel) rfl rfl rfl (Nat.le_of_ble_eq_true rfl) dX5_passTick_95 (fun H locs hc hU hS => ?_)
              have hM := hM.put_tick hc hU
              clear hc hU
              exact kx_vretM hx hb hrt hlk (by rw [← tick_end hI]; exact hM) hS dX5_passTick_98
            · refine lv_aload_n hx hb dX5_passTick_68 rfl (lv_at hl 0 rfl) ?_
              refine lv_aload_n hx hb dX5_passTick_69 rfl (lv_at hl 0 rfl) ?_
              refine kx_get (v := .ref (q + 3)) hx hb hts hinX5 hown hK hM.obj rfl 2 (by decide) (by decide +kernel) rfl dX5_passTick_70 ?_
              refine lv_iload_n hx hb dX5_passTick_73 rfl (lv_at hl 1 rfl) ?_
              refine kx_aald (i := k) hx hb hK hM.moves 3 rfl (by omega) (by decide) rfl dX5_passTick_74 ?_
              refine lv_aload_n hx hb dX5_passTick_75 rfl (lv_at hl 0 rfl) ?_
              refine kx_get (v := .int ((cy5 (tkA e) k) 1)) hx hb hts hinX5 hown hK hM.obj rfl 6 (by decide) (by decide +kernel) rfl dX5_passTick_76 ?_
              refine kx_ci (x := (cy5 (tkA e) k) 1) (y := nI (Sp (cy5 (tkA e) k))) (Inv.z1 hq5.2) ?_
              refine kx_retM (va_runV (As := [.ref (q + 11 + 2 * k), .int (nI (Sp (cy5 (tkA e) k)))]) (rest := []) ⟨hx, hb, hml, hown, hts⟩ (k_X5_copyOn l D cs q (cy5 (tkA e) k) g k (Sp (cy5 (tkA e) k)) hq5.2 (by first | assumption | omega) (by first | assumption | omega)) (cwV 2 hts gX5_passTick_X5_copyOn rfl rfl rfl (by decide +kernel) ⟨Nat.le_of_ble_eq_true rfl, Nat.le_of_ble_eq_true rfl⟩) (kx_preV hK hN hM.obj rfl hM) rfl rfl hl.1 rfl (lv_room (Nat.le_of_ble_eq_true rfl)) dX5_passTick_79 ⟨Nat.le_of_ble_eq_true rfl, Nat.le_of_ble_eq_true rfl⟩) hS (fun x _ h => by first | exact h | exact ⟨by have h1 := h.1; have h2 := h.2; omega, by have h1 := h.1; have h2 := h.2; omega⟩) (fun x h => by first | exact h | exact ⟨by have h1 := h.1; have h2 := h.2; omega, by have h1 := h.1; have h2 := h.2; omega⟩) (fun H locs hMN hk hS => ?_)
              have hM := hMN
              clear hk hMN
              have hM : StC D cs q (cy5 (tkA e) (k + 1)) g H := (by rw [← cy5_s]; exact hM)
              refine lv_iinc (v := nI (k + 1)) (lv' := [(1, .int (nI (k + 1))), (0, .ref (q))]) (k := 1) hx hb dX5_passTick_82 hl rfl (nI_add _ _) (by decide) rfl (fun ls hl => ?_)
              refine lv_goto (tgt := 60) hx hb dX5_passTick_85 (by decide) ?_
              exact ih60 (k + 1) _ _ _ (by omega) (by omega) hM hS (lv_sub hl [1, 0] rfl)
        exact J60 _ 0 _ _ _ (Nat.lt_succ_self _) (by omega) (by rw [cy5_0]; exact hM) hS (lv_sub hl [1, 0] rfl)
      · have hkR : k < Rn y := by omega
        have h9 := stk_is hy.2 hkR
        refine lv_aload_n hx hb dX5_passTick_10 rfl (lv_at hl 0 rfl) ?_
        refine kx_get (v := .ref (q + 2)) hx hb hts hinX5 hown hK hM.obj rfl 1 (by decide) (by decide +kernel) rfl dX5_passTick_11 ?_
        refine lv_iload_n hx hb dX5_passTick_14 rfl (lv_at hl 1 rfl) ?_
        refine kx_aald (i := k) hx hb hK hM.rings 2 rfl (by omega) (by decide) rfl dX5_passTick_15 ?_
        refine kx_get (v := .int (y (56 + 4 * k + 3))) hx hb hts hinX4 hown hK (hM.rg (r := k) (by omega)) rfl 3 (by decide) (by decide +kernel) rfl dX5_passTick_16 ?_
        refine kx_ci (x := y (56 + 4 * k + 3)) (y := bI (stkB y k)) (stk_is hy.2 (by first | assumption | omega)) ?_
        refine kb_if_ne (tgt := 48) hx hb dX5_passTick_19 (by decide) (fun hs0 => ?_) (fun hs0 => ?_)
        · have e9 : sgK e (k + 1) = y := by
            show sgT (Mn e) k (sgK e k) = _
            rw [hyd]; first | (simp [sgT, sgOn, bI_t, bI_f, nI1_0, show nI 0 = 0 from rfl, *]; done) | (simp_all [sgT, sgOn, bI_t, bI_f]; done)
          have hM : StC D cs q (sgK e (k + 1)) g H := by rw [e9]; exact hM
          refine lv_iinc (v := nI (k + 1)) (lv' := [(1, .int (nI (k + 1))), (0, .ref (q))]) (k := 1) hx hb dX5_passTick_48 hl rfl (nI_add _ _) (by decide) rfl (fun ls hl => ?_)
          refine lv_goto (tgt := 2) hx hb dX5_passTick_51 (by decide) ?_
          exact ih2 (k + 1) _ _ _ (by omega) (by omega) hM hS (lv_sub hl [1, 0] rfl)
        · refine lv_aload_n hx hb dX5_passTick_22 rfl (lv_at hl 0 rfl) ?_
          refine kx_get (v := .ref (q + 2)) hx hb hts hinX5 hown hK hM.obj rfl 1 (by decide) (by decide +kernel) rfl dX5_passTick_23 ?_
          refine lv_iload_n hx hb dX5_passTick_26 rfl (lv_at hl 1 rfl) ?_
          refine kx_aald (i := k) hx hb hK hM.rings 2 rfl (by omega) (by decide) rfl dX5_passTick_27 ?_
          refine kx_get (v := .int (y (56 + 4 * k + 2))) hx hb hts hinX4 hown hK (hM.rg (r := k) (by omega)) rfl 2 (by decide) (by decide +kernel) rfl dX5_passTick_28 ?_
          refine lv_if_le (tgt := 48) hx hb dX5_passTick_31 (by decide) (fun hp0 => ?_) (fun hp0 => ?_)
          · have e9 : sgK e (k + 1) = y := by
              show sgT (Mn e) k (sgK e k) = _
              rw [hyd]; first | (simp [sgT, sgOn, bI_t, bI_f, nI1_0, show nI 0 = 0 from rfl, *]; done) | (simp_all [sgT, sgOn, bI_t, bI_f]; done)
            have hM : StC D cs q (sgK e (k + 1)) g H := by rw [e9]; exact hM
            refine lv_iinc (v := nI (k + 1)) (lv' := [(1, .int (nI (k + 1))), (0, .ref (q))]) (k := 1) hx hb dX5_passTick_48 hl rfl (nI_add _ _) (by decide) rfl (fun ls hl => ?_)
            refine lv_goto (tgt := 2) hx hb dX5_passTick_51 (by decide) ?_
            exact ih2 (k + 1) _ _ _ (by omega) (by omega) hM hS (lv_sub hl [1, 0] rfl)
          · refine lv_aload_n hx hb dX5_passTick_34 rfl (lv_at hl 0 rfl) ?_
            refine lv_iload_n hx hb dX5_passTick_35 rfl (lv_at hl 1 rfl) ?_
            refine lv_aload_n hx hb dX5_passTick_36 rfl (lv_at hl 0 rfl) ?_
            refine kx_get (v := .ref (q + 2)) hx hb hts hinX5 hown hK hM.obj rfl 1 (by decide) (by decide +kernel) rfl dX5_passTick_37 ?_
            refine lv_iload_n hx hb dX5_passTick_40 rfl (lv_at hl 1 rfl) ?_
            refine kx_aald (i := k) hx hb hK hM.rings 2 rfl (by omega) (by decide) rfl dX5_passTick_41 ?_
            refine kx_get (v := .int (y (56 + 4 * k + 2))) hx hb hts hinX4 hown hK (hM.rg (r := k) (by omega)) rfl 2 (by decide) (by decide +kernel) rfl dX5_passTick_42 ?_
            refine kx_retM (va_runV (As := [.int (nI (k)), .int (y (56 + 4 * k + 2))]) (rest := []) ⟨hx, hb, hml, hown, hts⟩ (k_X5_signPatiently l D cs q y g k (y (56 + 4 * k + 2)) hy.2 (by first | assumption | omega) rfl) (cwV 2 hts gX5_passTick_X5_signPatiently rfl rfl rfl (by decide +kernel) ⟨Nat.le_of_ble_eq_true rfl, Nat.le_of_ble_eq_true rfl⟩) (kx_preV hK hN hM.obj rfl hM) rfl rfl hl.1 rfl (lv_room (Nat.le_of_ble_eq_true rfl)) dX5_passTick_45 ⟨Nat.le_of_ble_eq_true rfl, Nat.le_of_ble_eq_true rfl⟩) hS (fun x _ h => by first | exact h | exact ⟨by have h1 := h.1; have h2 := h.2; omega, by have h1 := h.1; have h2 := h.2; omega⟩) (fun x h => by first | exact h | exact ⟨by have h1 := h.1; have h2 := h.2; omega, by have h1 := h.1; have h2 := h.2; omega⟩) (fun H locs hMN hk hS => ?_)
            have hM := hMN
            clear hk hMN
            have hM : StC D cs q (sgR k (Mn e) y) g H := (by rw [← hMy]; exact hM)
            have e9 : sgK e (k + 1) = sgR k (Mn e) y := by
              show sgT (Mn e) k (sgK e k) = _
              rw [hyd]; first | (simp [sgT, sgOn, bI_t, bI_f, nI1_0, show nI 0 = 0 from rfl, *]; done) | (simp_all [sgT, sgOn, bI_t, bI_f]; done)
            have hM : StC D cs q (sgK e (k + 1)) g H := by rw [e9]; exact hM
            refine lv_iinc (v := nI (k + 1)) (lv' := [(1, .int (nI (k + 1))), (0, .ref (q))]) (k := 1) hx hb dX5_passTick_48 hl rfl (nI_add _ _) (by decide) rfl (fun ls hl => ?_)
            refine lv_goto (tgt := 2) hx hb dX5_passTick_51 (by decide) ?_
            exact ih2 (k + 1) _ _ _ (by omega) (by omega) hM hS (lv_sub hl [1, 0] rfl)
  exact J2 _ 0 _ _ _ (Nat.lt_succ_self _) (by omega) (by rw [sgK_0]; exact hM) hS (lv_sub hl [1, 0] rfl)
set_option maxHeartbeats 2500000 in
set_option maxRecDepth 100000 in
theorem k_X5_letPass (l : Launch) (D : va_G) (cs : Nat → ClassId) (q : Nat) (e : Nat → Int32) (g : Nat → Int64) (n0 : Nat) (hI : Inv e) (hG : Msk e g) (hn : n0 < 1000) : Met l yX5_letPass wsX5_letPass ({ frames := 4, cells := 0, slots := 0, locals := 89 } : Room) (PcK D cs [.ref (q), .int (nI (n0))] (fun H => StC D cs q e g H)) (QcM (some (.int (nI (psN e n0)))) (fun H => StC D cs q (psF e n0) g H) (rgS q)) 0 0 ((rgS q)) := by
  refine kx_met (cc := cX5_letPass) (maxL := 4) (ret := (some .int)) (by decide) rfl (Nat.le_of_ble_eq_true rfl) ?_
  intro p en s m args below meth c hx hb hml hrt hts hown hlk hK hN hP ls hl
  have hl : lv_has ls 4 [(0, .ref (q)), (1, .int (nI (n0)))] := hl
  obtain ⟨H, hHe⟩ : ∃ H : Heap, H = s.heap := ⟨_, rfl⟩
  rw [← hHe] at hP ⊢
  have hS : va_S ((rgS q)) s.heap H [] := by rw [← hHe]; exact va_S.rf
  have hinX5 : ∀ w ∈ wsX50, w ∈ wsX5_letPass := by decide +kernel
  have hM := hP
  have h24 := hI.M24
  have h6 := hI.R6
  refine lv_aload_n hx hb dX5_letPass_0 rfl (lv_at hl 0 rfl) ?_
  refine kx_get (v := .int (e 5)) hx hb hts hinX5 hown hK hM.obj rfl 9 (by decide) (by decide +kernel) rfl dX5_letPass_1 ?_
  refine lv_istore_n (lv' := [(2, .int (e 5)), (0, .ref (q)), (1, .int (nI (n0)))]) hx hb dX5_letPass_4 rfl hl (by decide) rfl (fun ls hl => ?_)
  refine lv_iconst (v := nI 0) hx hb dX5_letPass_5 (by decide) ?_
  refine lv_istore_n (lv' := [(3, .int (nI (0))), (2, .int (e 5)), (0, .ref (q)), (1, .int (nI (n0)))]) hx hb dX5_letPass_6 rfl hl (by decide) rfl (fun ls hl => ?_)
  have J7 : ∀ (fu7 : Nat) (k : Nat) (H : Heap) (locs : List Loc) (ls : Array Slot), (n0 - k) < fu7 → (k ≤ n0) → (StC D cs q (psF e k) g H) → va_S ((rgS q)) s.heap H locs → lv_has ls 4 [(0, .ref (q)), (1, .int (nI (n0))), (2, .int (e 5)), (3, .int (nI (k)))] → W p l en ({ frames := 4, cells := 0, slots := 0, locals := 89 } : Room) s m args below meth c H locs 0 0 (MQ below (QcM (some (.int (nI (psN e n0)))) (fun H => StC D cs q (psF e n0) g H) (rgS q)) args s 0 0 ((rgS q))) (F0 m 7 ls []) := by
    intro fu7; induction fu7 with
    | zero => intro k H locs ls hmu7 hk hM hS hl; exact absurd hmu7 (Nat.not_lt_zero _)
    | succ fu7 ih7 =>
      intro k H locs ls hmu7 hk hM hS hl
      have hy := psF_si hI k
      refine lv_iload_n hx hb dX5_letPass_7 rfl (lv_at hl 3 rfl) ?_
      refine lv_iload_n hx hb dX5_letPass_8 rfl (lv_at hl 1 rfl) ?_
      refine kn_icmp_ge (tgt := 22) hx hb dX5_letPass_9 (by decide) (by omega) (by omega) (fun c_1 => ?_) (fun c_1 => ?_)
      · have hkk : k = n0 := by omega
        subst hkk
        refine lv_aload_n hx hb dX5_letPass_22 rfl (lv_at hl 0 rfl) ?_
        refine kx_get (v := .int ((psF e k) 5)) hx hb hts hinX5 hown hK hM.obj rfl 9 (by decide) (by decide +kernel) rfl dX5_letPass_23 ?_
        refine kx_ci (x := (psF e k) 5) (y := e 5 + nI (psN e k)) (ps_5 hI _) ?_
        refine lv_iload_n hx hb dX5_letPass_26 rfl (lv_at hl 2 rfl) ?_
        refine lv_isub hx hb dX5_letPass_27 ?_
        exact kx_iretM hx hb hrt hlk (i_back _ _) hM hS dX5_letPass_28
      · refine lv_aload_n hx hb dX5_letPass_12 rfl (lv_at hl 0 rfl) ?_
        refine kx_retM (va_runV (As := []) (rest := []) ⟨hx, hb, hml, hown, hts⟩ (k_X5_passTick l D cs q (psF e k) g hy.2 (hG.stay hI hy.1)) (cwV 0 hts gX5_letPass_X5_passTick rfl rfl rfl (by decide +kernel) ⟨Nat.le_of_ble_eq_true rfl, Nat.le_of_ble_eq_true rfl⟩) (kx_preV hK hN hM.obj rfl hM) rfl rfl hl.1 rfl (lv_room (Nat.le_of_ble_eq_true rfl)) dX5_letPass_13 ⟨Nat.le_of_ble_eq_true rfl, Nat.le_of_ble_eq_true rfl⟩) hS (fun x _ h => by first | exact h | exact ⟨by have h1 := h.1; have h2 := h.2; omega, by have h1 := h.1; have h2 := h.2; omega⟩) (fun x h => by first | exact h | exact ⟨by have h1 := h.1; have h2 := h.2; omega, by have h1 := h.1; have h2 := h.2; omega⟩) (fun H locs hMN hk hS => ?_)
        have hM := hMN
        clear hk hMN
        have hM : StC D cs q (psF e (k + 1)) g H := hM
        refine lv_iinc (v := nI (k + 1)) (lv' := [(3, .int (nI (k + 1))), (0, .ref (q)), (1, .int (nI (n0))), (2, .int (e 5))]) (k := 3) hx hb dX5_letPass_16 hl rfl (nI_add _ _) (by decide) rfl (fun ls hl => ?_)
        refine lv_goto (tgt := 7) hx hb dX5_letPass_19 (by decide) ?_
        exact ih7 (k + 1) _ _ _ (by omega) (by omega) hM hS (lv_sub hl [1, 2, 3, 0] rfl)
  exact J7 _ 0 _ _ _ (Nat.lt_succ_self _) (by omega) (by rw [psF_0]; exact hM) hS (lv_sub hl [2, 3, 1, 0] rfl)
set_option maxHeartbeats 2500000 in
set_option maxRecDepth 100000 in
theorem k_X5_depthOf (l : Launch) (D : va_G) (cs : Nat → ClassId) (q : Nat) (e : Nat → Int32) (g : Nat → Int64) (mv : Nat) (hI : Inv e) (hG : Msk e g) (hm : mv < Mn e) : Met l yX5_depthOf wsX5_depthOf ({ frames := 2, cells := 0, slots := 0, locals := 45 } : Room) (PcK D cs [.ref (q), .int (nI (mv))] (fun H => StC D cs q e g H)) (QcM (some (.int (nI (dpN e mv)))) (fun H => StC D cs q (dcK e (mv + 1)) g H) (rgS q)) 0 0 ((rgS q)) := by
  refine kx_met (cc := cX5_depthOf) (maxL := 6) (ret := (some .int)) (by decide) rfl (Nat.le_of_ble_eq_true rfl) ?_
  intro p en s m args below meth c hx hb hml hrt hts hown hlk hK hN hP ls hl
  have hl : lv_has ls 6 [(0, .ref (q)), (1, .int (nI (mv)))] := hl
  obtain ⟨H, hHe⟩ : ∃ H : Heap, H = s.heap := ⟨_, rfl⟩
  rw [← hHe] at hP ⊢
  have hS : va_S ((rgS q)) s.heap H [] := by rw [← hHe]; exact va_S.rf
  have hinX5 : ∀ w ∈ wsX50, w ∈ wsX5_depthOf := by decide +kernel
  have hM := hP
  have h24 := hI.M24
  have h6 := hI.R6
  refine lv_iconst (v := nI 0) hx hb dX5_depthOf_0 (by decide) ?_
  refine lv_istore_n (lv' := [(2, .int (nI (0))), (0, .ref (q)), (1, .int (nI (mv)))]) hx hb dX5_depthOf_1 rfl hl (by decide) rfl (fun ls hl => ?_)
  have J2 : ∀ (fu2 : Nat) (k : Nat) (H : Heap) (locs : List Loc) (ls : Array Slot), (mv + 1 - k) < fu2 → (k ≤ mv + 1) → (StC D cs q (dcK e k) g H) → va_S ((rgS q)) s.heap H locs → lv_has ls 6 [(0, .ref (q)), (1, .int (nI (mv))), (2, .int (nI (k)))] → W p l en ({ frames := 2, cells := 0, slots := 0, locals := 45 } : Room) s m args below meth c H locs 0 0 (MQ below (QcM (some (.int (nI (dpN e mv)))) (fun H => StC D cs q (dcK e (mv + 1)) g H) (rgS q)) args s 0 0 ((rgS q))) (F0 m 2 ls []) := by
    intro fu2; induction fu2 with
    | zero => intro k H locs ls hmu2 hk hM hS hl; exact absurd hmu2 (Nat.not_lt_zero _)
    | succ fu2 ih2 =>
      intro k H locs ls hmu2 hk hM hS hl
      have hE := dc_ei hI k
      have hIy := ev_R hE
      have hMy := hE.1.M
      refine lv_iload_n hx hb dX5_depthOf_2 rfl (lv_at hl 2 rfl) ?_
      refine lv_iload_n hx hb dX5_depthOf_3 rfl (lv_at hl 1 rfl) ?_
      refine kn_icmp_gt (tgt := 70) hx hb dX5_depthOf_4 (by decide) (by omega) (by omega) (fun c_1 => ?_) (fun c_1 => ?_)
      · have hkk : k = mv + 1 := by omega
        subst hkk
        refine lv_aload_n hx hb dX5_depthOf_70 rfl (lv_at hl 0 rfl) ?_
        refine kx_get (v := .ref (q + 4)) hx hb hts hinX5 hown hK hM.obj rfl 3 (by decide) (by decide +kernel) rfl dX5_depthOf_71 ?_
        refine lv_iload_n hx hb dX5_depthOf_74 rfl (lv_at hl 1 rfl) ?_
        refine kx_iald (i := mv) hx hb hK hM.depths 0 rfl (by omega) (by decide) dX5_depthOf_75 ?_
        refine kx_ci (x := (dcK e (mv + 1)) (704 + mv)) (y := nI (dpN e mv)) (dcK_in e (by omega)) ?_
        exact kx_iretM hx hb hrt hlk rfl hM hS dX5_depthOf_76
      · have hkM : k < Mn e := by omega
        have hwo := woN_lt e (l := k) (by omega)
        refine lv_aload_n hx hb dX5_depthOf_7 rfl (lv_at hl 0 rfl) ?_
        refine lv_iload_n hx hb dX5_depthOf_8 rfl (lv_at hl 2 rfl) ?_
        refine kx_retP (va_runV (As := [.int (nI (k))]) (rest := []) ⟨hx, hb, hml, hown, hts⟩ (k_X5_waitedFor l D cs q (dcK e k) g k hIy (hG.eqv hI hE.1) (by omega)) (cwV 1 hts gX5_depthOf_X5_waitedFor rfl rfl rfl (by decide +kernel) ⟨Nat.le_of_ble_eq_true rfl, Nat.le_of_ble_eq_true rfl⟩) (kx_preV hK hN hM.obj rfl hM) rfl rfl hl.1 rfl (lv_room (Nat.le_of_ble_eq_true rfl)) dX5_depthOf_9 ⟨Nat.le_of_ble_eq_true rfl, Nat.le_of_ble_eq_true rfl⟩) ?_
        refine kx_ci (x := nI (woN (dcK e k) k)) (y := nI (woN e k)) (congrArg nI (hE.1.wo hI hkM)) ?_
        refine lv_istore_n (lv' := [(3, .int (nI (woN e k))), (0, .ref (q)), (1, .int (nI (mv))), (2, .int (nI (k)))]) hx hb dX5_depthOf_12 rfl hl (by decide) rfl (fun ls hl => ?_)
        refine lv_iconst (v := nI 0) hx hb dX5_depthOf_13 (by decide) ?_
        refine lv_istore (lv' := [(4, .int (nI (0))), (3, .int (nI (woN e k))), (0, .ref (q)), (1, .int (nI (mv))), (2, .int (nI (k)))]) hx hb dX5_depthOf_14 hl (by decide) rfl (fun ls hl => ?_)
        refine lv_iconst (v := nI 0) hx hb dX5_depthOf_16 (by decide) ?_
        refine lv_istore (lv' := [(5, .int (nI (0))), (4, .int (nI (0))), (3, .int (nI (woN e k))), (0, .ref (q)), (1, .int (nI (mv))), (2, .int (nI (k)))]) hx hb dX5_depthOf_17 hl (by decide) rfl (fun ls hl => ?_)
        have J19 : ∀ (fu19 : Nat) (e1 : Nat) (H : Heap) (locs : List Loc) (ls : Array Slot), (k - e1) < fu19 → (e1 ≤ k) → (StC D cs q (dcK e k) g H) → va_S ((rgS q)) s.heap H locs → lv_has ls 6 [(0, .ref (q)), (1, .int (nI (mv))), (2, .int (nI (k))), (3, .int (nI (woN e k))), (4, .int (nI (dpV e (dpT e k) k e1))), (5, .int (nI (e1)))] → W p l en ({ frames := 2, cells := 0, slots := 0, locals := 45 } : Room) s m args below meth c H locs 0 0 (MQ below (QcM (some (.int (nI (dpN e mv)))) (fun H => StC D cs q (dcK e (mv + 1)) g H) (rgS q)) args s 0 0 ((rgS q))) (F0 m 19 ls []) := by
          intro fu19; induction fu19 with
          | zero => intro e1 H locs ls hmu19 he1 hM hS hl; exact absurd hmu19 (Nat.not_lt_zero _)
          | succ fu19 ih19 =>
            intro e1 H locs ls hmu19 he1 hM hS hl
            refine lv_iload hx hb dX5_depthOf_19 (lv_at hl 5 rfl) ?_
            refine lv_iload_n hx hb dX5_depthOf_21 rfl (lv_at hl 2 rfl) ?_
            refine kn_icmp_ge (tgt := 56) hx hb dX5_depthOf_22 (by decide) (by omega) (by omega) (fun c_2 => ?_) (fun c_2 => ?_)
            · have hee : e1 = k := by omega
              subst hee
              refine lv_aload_n hx hb dX5_depthOf_56 rfl (lv_at hl 0 rfl) ?_
              refine kx_get (v := .ref (q + 4)) hx hb hts hinX5 hown hK hM.obj rfl 3 (by decide) (by decide +kernel) rfl dX5_depthOf_57 ?_
              refine lv_iload_n hx hb dX5_depthOf_60 rfl (lv_at hl 2 rfl) ?_
              refine lv_iload hx hb dX5_depthOf_61 (lv_at hl 4 rfl) ?_
              refine kx_iast (i := e1) hx hb hK hM.depths hS ⟨by omega, by omega⟩ 0 rfl (by omega) (by decide) dX5_depthOf_63 (fun H locs hc hU hS => ?_)
              have hM := hM.put_depths (i := e1) (by omega) hc hU
              clear hc hU
              have hM : StC D cs q (dcK e (e1 + 1)) g H := (by rw [← dcK_s]; exact hM)
              refine lv_iinc (v := nI (e1 + 1)) (lv' := [(2, .int (nI (e1 + 1))), (0, .ref (q)), (1, .int (nI (mv))), (3, .int (nI (woN e e1))), (4, .int (nI (dpV e (dpT e e1) e1 e1))), (5, .int (nI (e1)))]) (k := 2) hx hb dX5_depthOf_64 hl rfl (nI_add _ _) (by decide) rfl (fun ls hl => ?_)
              refine lv_goto (tgt := 2) hx hb dX5_depthOf_67 (by decide) ?_
              exact ih2 (e1 + 1) _ _ _ (by omega) (by omega) hM hS (lv_sub hl [1, 2, 0] rfl)
            · refine lv_iload_n hx hb dX5_depthOf_25 rfl (lv_at hl 3 rfl) ?_
              refine lv_iconst (v := nI 1) hx hb dX5_depthOf_26 (by decide) ?_
              refine lv_iload hx hb dX5_depthOf_27 (lv_at hl 5 rfl) ?_
              refine kn_bit hx hb (by omega) dX5_depthOf_29 ?_
              refine kn_and hx hb dX5_depthOf_30 ?_
              refine kn_if_eq (tgt := 50) hx hb dX5_depthOf_31 (by decide) (Nat.lt_of_le_of_lt Nat.and_le_left (by omega)) (fun hbit => ?_) (fun hbit => ?_)
              · refine lv_iinc (v := nI (e1 + 1)) (lv' := [(5, .int (nI (e1 + 1))), (0, .ref (q)), (1, .int (nI (mv))), (2, .int (nI (k))), (3, .int (nI (woN e k))), (4, .int (nI (dpV e (dpT e k) k e1)))]) (k := 5) hx hb dX5_depthOf_50 hl rfl (nI_add _ _) (by decide) rfl (fun ls hl => ?_)
                refine lv_goto (tgt := 19) hx hb dX5_depthOf_53 (by decide) ?_
                have hl : lv_has ls 6 [(5, .int (nI (e1 + 1))), (0, .ref (q)), (1, .int (nI (mv))), (2, .int (nI (k))), (3, .int (nI (woN e k))), (4, .int (nI (dpV e (dpT e k) k (e1 + 1))))] := by rw [show (dpV e (dpT e k) k (e1 + 1)) = (dpV e (dpT e k) k e1) from (by rw [dpV_max]; first | rw [if_pos hbit] | rw [if_neg (fun q => q hbit)])]; exact hl
                exact ih19 (e1 + 1) _ _ _ (by omega) (by omega) hM hS (lv_sub hl [1, 2, 3, 4, 5, 0] rfl)
              · refine lv_iload hx hb dX5_depthOf_34 (lv_at hl 4 rfl) ?_
                have hdl := dpT_le e k e1
                have hdv := dpV_le e (t := dpT e k) (m := k) (n := k) e1 (fun j hj => Nat.lt_of_le_of_lt (dpT_le e k j) (by omega))
                refine lv_iconst (v := nI 1) hx hb dX5_depthOf_36 (by decide) ?_
                refine lv_aload_n hx hb dX5_depthOf_37 rfl (lv_at hl 0 rfl) ?_
                refine kx_get (v := .ref (q + 4)) hx hb hts hinX5 hown hK hM.obj rfl 3 (by decide) (by decide +kernel) rfl dX5_depthOf_38 ?_
                refine lv_iload hx hb dX5_depthOf_41 (lv_at hl 5 rfl) ?_
                refine kx_iald (i := e1) hx hb hK hM.depths 0 rfl (by omega) (by decide) dX5_depthOf_43 ?_
                refine kx_ci (x := (dcK e k) (704 + e1)) (y := nI (dpT e k e1)) (dcK_in e (by omega)) ?_
                refine kn_add hx hb dX5_depthOf_44 ?_
                refine kn_max hx hb (hml.trans hl.1.symm) hown (hts (.methodLink RX5 213 Lib.Math.max.name) (by decide +kernel)) (hts (.static Lib.Math.max.name) (by decide +kernel)) (hts (.initialized "java/lang/Math") (by decide +kernel)) (hts (.code Lib.Math.max.name Lib.Math.max.code 2 (some .int)) (by decide +kernel)) (Nat.le_of_ble_eq_true rfl) (Nat.le_of_ble_eq_true rfl) (Nat.le_of_ble_eq_true rfl) (Nat.le_of_ble_eq_true rfl) (by omega) (by omega) dX5_depthOf_45 ?_
                refine lv_istore (lv' := [(4, .int (nI (max (dpV e (dpT e k) k e1) (1 + (dpT e k e1))))), (0, .ref (q)), (1, .int (nI (mv))), (2, .int (nI (k))), (3, .int (nI (woN e k))), (5, .int (nI (e1)))]) hx hb dX5_depthOf_48 hl (by decide) rfl (fun ls hl => ?_)
                refine lv_iinc (v := nI (e1 + 1)) (lv' := [(5, .int (nI (e1 + 1))), (4, .int (nI (max (dpV e (dpT e k) k e1) (1 + (dpT e k e1))))), (0, .ref (q)), (1, .int (nI (mv))), (2, .int (nI (k))), (3, .int (nI (woN e k)))]) (k := 5) hx hb dX5_depthOf_50 hl rfl (nI_add _ _) (by decide) rfl (fun ls hl => ?_)
                refine lv_goto (tgt := 19) hx hb dX5_depthOf_53 (by decide) ?_
                have hl : lv_has ls 6 [(5, .int (nI (e1 + 1))), (4, .int (nI (dpV e (dpT e k) k (e1 + 1)))), (0, .ref (q)), (1, .int (nI (mv))), (2, .int (nI (k))), (3, .int (nI (woN e k)))] := by rw [show (dpV e (dpT e k) k (e1 + 1)) = (max (dpV e (dpT e k) k e1) (1 + (dpT e k e1))) from (by rw [dpV_max]; first | rw [if_pos hbit] | rw [if_neg (fun q => q hbit)])]; exact hl
                exact ih19 (e1 + 1) _ _ _ (by omega) (by omega) hM hS (lv_sub hl [2, 3, 4, 5, 1, 0] rfl)
        exact J19 _ 0 _ _ _ (Nat.lt_succ_self _) (by omega) hM hS (lv_sub hl [3, 4, 5, 2, 1, 0] rfl)
  exact J2 _ 0 _ _ _ (Nat.lt_succ_self _) (by omega) (by rw [dcK_0]; exact hM) hS (lv_sub hl [1, 2, 0] rfl)
