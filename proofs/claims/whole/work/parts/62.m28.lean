set_option maxHeartbeats 2500000 in
set_option maxRecDepth 100000 in
theorem k_X1_readCommand (l : Launch) (D : va_G) (cs : Nat → ClassId) (tq : Nat) (b nn : Nat → Int32) (wd ln pa : Nat) (ft : Int32) (L : Nat) (aW aS aV : Nat → Nat) (tW tM : Nat) (k0 : Nat) (hk8 : k0 < 8) (hwd : wd = aW k0)  (hL : L ≤ tq) (hl150 : ln ≤ 150) (hpa : pa ≤ ln) : Met l yX1_readCommand wsX1_readCommand ({ frames := 7, cells := 0, slots := 0, locals := 157 } : Room) (PcW D cs L aW aS aV tW tM [.ref (tq)] (fun H => TxC D cs tq b nn wd ln pa ft H)) (QcM (some (.int (bI ((decide ((skp b ln pa) < ln) && rdOk b ln (skp b ln pa)))))) (fun H => ∃ nn1 : Nat → Int32, ∃ k1 : Nat, ∃ pa1 : Nat, ∃ ft1 : Int32, k1 < 8 ∧ pa1 ≤ ln ∧ RdC b ln (skp b ln pa) ft nn1 k1 pa1 ft1 ∧ TxC D cs tq b nn1 ((aW k1)) ln pa1 ft1 H) (rgT tq)) 0 0 ((rgT tq)) := by
  refine kx_metW (cc := cX1_readCommand) (maxL := 1) (ret := (some .boolean)) (by decide) rfl (Nat.le_of_ble_eq_true rfl) ?_
  intro p en s m args below meth c hx hb hml hrt hts hown hlk hK hN hW hP ls hl
  have hl : lv_has ls 1 [(0, .ref (tq))] := hl
  obtain ⟨H, hHe⟩ : ∃ H : Heap, H = s.heap := ⟨_, rfl⟩
  rw [← hHe] at hP ⊢
  have hS : va_S ((rgT tq)) s.heap H [] := by rw [← hHe]; exact va_S.rf
  have hinX1 : ∀ w ∈ wsX10, w ∈ wsX1_readCommand := by decide +kernel
  subst hwd
  have hAL : ∀ x, (rgT tq) x → L ≤ x := (fun x h => Nat.le_trans hL h.1)
  have hWn := hW.narrow hAL
  have hWto := hP.1
  have hWtb := hP.2.1
  have hWtn := hP.2.2
  have hsl := skp_le b hpa
  have hll := ltr_le b hsl.2
  refine lv_aload_n hx hb dX1_readCommand_0 rfl (lv_at hl 0 rfl) ?_
  refine kx_retM (va_runV (As := []) (rest := []) ⟨hx, hb, hml, hown, hts⟩ (k_X1_skipSpaces l D cs tq b nn (aW k0) ln pa ft (by first | assumption | omega) (by first | assumption | omega)) (cwV 0 hts gX1_readCommand_X1_skipSpaces rfl rfl rfl (by decide +kernel) ⟨Nat.le_of_ble_eq_true rfl, Nat.le_of_ble_eq_true rfl⟩) (kx_preV hK hN hWto rfl ⟨hWto, hWtb, hWtn⟩) rfl rfl hl.1 rfl (lv_room (Nat.le_of_ble_eq_true rfl)) dX1_readCommand_1 ⟨Nat.le_of_ble_eq_true rfl, Nat.le_of_ble_eq_true rfl⟩) hS (fun x _ h => h) (fun x h => h) (fun H locs hMN hk hS => ?_)
  obtain ⟨hWto, hWtb, hWtn⟩ := hMN
  clear hk
  refine lv_aload_n hx hb dX1_readCommand_4 rfl (lv_at hl 0 rfl) ?_
  refine kx_get (v := .int (nI ((skp b ln pa)))) hx hb hts hinX1 hown hK hWto rfl 4 (by decide) (by decide +kernel) rfl dX1_readCommand_5 ?_
  refine lv_aload_n hx hb dX1_readCommand_8 rfl (lv_at hl 0 rfl) ?_
  refine kx_get (v := .int (nI (ln))) hx hb hts hinX1 hown hK hWto rfl 3 (by decide) (by decide +kernel) rfl dX1_readCommand_9 ?_
  refine kn_icmp_ge (tgt := 40) hx hb dX1_readCommand_12 (by decide) (by omega) (by omega) (fun hge => ?_) (fun hge => ?_)
  · have hng : ¬ skp b ln pa < ln := by omega
    refine lv_iconst (v := nI 0) hx hb dX1_readCommand_40 (by decide) ?_
    exact kx_zretM hx hb hrt hlk (by first | (rw [hr.1, decide_eq_true (by omega)]; rfl) | (rw [(rdc_3 (nn := nn) (k := 0) (pa := 0) (ft := ft) (by omega) h8 hnf hsc).1, Bool.and_false]; rfl) | (rw [(rdc_2 (nn := nn) (k := 0) (pa := 0) (ft := ft) (by omega) h8 hnf).1, Bool.and_false]; rfl) | (rw [(rdc_1 (nn := nn) (k := 0) (pa := 0) (ft := ft) (by omega) h8).1, Bool.and_false]; rfl) | (rw [decide_eq_false hng]; rfl)) (by first | exact ⟨_, _, _, _, h8, smA_le hpn.2, hr.2, hWto, hWtb, hWtn⟩ | exact ⟨_, _, _, _, h8, nbP_le hll.2, (rdc_2 (by omega) h8 hnf).2, hWto, hWtb, hWtn⟩ | exact ⟨_, _, _, _, h8, smA_le hpn.2, (rdc_3 (by omega) h8 hnf hsc).2, hWto, hWtb, hWtn⟩ | exact ⟨_, _, _, _, hk8, hll.2, (rdc_1 (by omega) h8).2, hWto, hWtb, hWtn⟩ | exact ⟨_, _, _, _, hk8, hsl.2, rdc_0 hng, hWto, hWtb, hWtn⟩) hS dX1_readCommand_41
  · refine lv_aload_n hx hb dX1_readCommand_15 rfl (lv_at hl 0 rfl) ?_
    refine kx_retM (va_runV (As := []) (rest := []) ⟨hx, hb, hml, hown, hts⟩ (k_X1_readWord l D cs tq b nn ((aW k0)) ln ((skp b ln pa)) ft L aW aS aV tW tM hL hl150 hsl.2) (cwV 0 hts gX1_readCommand_X1_readWord rfl rfl rfl (by decide +kernel) ⟨Nat.le_of_ble_eq_true rfl, Nat.le_of_ble_eq_true rfl⟩) (kx_preWV hK hN (hW.keptS hS hAL) hWto rfl ⟨hWto, hWtb, hWtn⟩) rfl rfl hl.1 rfl (lv_room (Nat.le_of_ble_eq_true rfl)) dX1_readCommand_16 ⟨Nat.le_of_ble_eq_true rfl, Nat.le_of_ble_eq_true rfl⟩) hS (fun x _ h => h) (fun x h => h) (fun H locs hMN hk hS => ?_)
    obtain ⟨hWto, hWtb, hWtn⟩ := hMN
    clear hk
    refine kb_if_eq (tgt := 40) hx hb dX1_readCommand_19 (by decide) (fun h8 => ?_) (fun h8 => ?_)
    · replace h8 := of_decide_eq_false h8
      have hWto : va_at D vwCl (tq, .inr (0, [.ref (tq + 1), .ref (tq + 2), .ref (aW k0), .int (nI (ln)), .int (nI ((ltr b ln ((skp b ln pa))))), .int (nI (skp b ln pa))])) H := (by rw [if_neg h8, if_neg h8] at hWto; exact hWto)
      refine lv_iconst (v := nI 0) hx hb dX1_readCommand_40 (by decide) ?_
      exact kx_zretM hx hb hrt hlk (by first | (rw [hr.1, decide_eq_true (by omega)]; rfl) | (rw [(rdc_3 (nn := nn) (k := 0) (pa := 0) (ft := ft) (by omega) h8 hnf hsc).1, Bool.and_false]; rfl) | (rw [(rdc_2 (nn := nn) (k := 0) (pa := 0) (ft := ft) (by omega) h8 hnf).1, Bool.and_false]; rfl) | (rw [(rdc_1 (nn := nn) (k := 0) (pa := 0) (ft := ft) (by omega) h8).1, Bool.and_false]; rfl) | (rw [decide_eq_false hng]; rfl)) (by first | exact ⟨_, _, _, _, h8, smA_le hpn.2, hr.2, hWto, hWtb, hWtn⟩ | exact ⟨_, _, _, _, h8, nbP_le hll.2, (rdc_2 (by omega) h8 hnf).2, hWto, hWtb, hWtn⟩ | exact ⟨_, _, _, _, h8, smA_le hpn.2, (rdc_3 (by omega) h8 hnf hsc).2, hWto, hWtb, hWtn⟩ | exact ⟨_, _, _, _, hk8, hll.2, (rdc_1 (by omega) h8).2, hWto, hWtb, hWtn⟩ | exact ⟨_, _, _, _, hk8, hsl.2, rdc_0 hng, hWto, hWtb, hWtn⟩) hS dX1_readCommand_41
    · replace h8 := of_decide_eq_true h8
      have hWto : va_at D vwCl (tq, .inr (0, [.ref (tq + 1), .ref (tq + 2), .ref (aW (wbN b (skp b ln pa) (ltr b ln (skp b ln pa)))), .int (nI (ln)), .int (nI ((ltr b ln ((skp b ln pa))))), .int (ft)])) H := (by rw [if_pos h8, if_pos h8] at hWto; exact hWto)
      refine lv_aload_n hx hb dX1_readCommand_22 rfl (lv_at hl 0 rfl) ?_
      refine kx_retM (va_runV (As := []) (rest := []) ⟨hx, hb, hml, hown, hts⟩ (k_X1_readNumbers l D cs tq b nn (aW (wbN b (skp b ln pa) (ltr b ln (skp b ln pa)))) ln ((ltr b ln ((skp b ln pa)))) ft L aW aS aV tW tM (wbN b (skp b ln pa) (ltr b ln (skp b ln pa))) h8 rfl hL hl150 hll.2) (cwV 0 hts gX1_readCommand_X1_readNumbers rfl rfl rfl (by decide +kernel) ⟨Nat.le_of_ble_eq_true rfl, Nat.le_of_ble_eq_true rfl⟩) (kx_preWV hK hN (hW.keptS hS hAL) hWto rfl ⟨hWto, hWtb, hWtn⟩) rfl rfl hl.1 rfl (lv_room (Nat.le_of_ble_eq_true rfl)) dX1_readCommand_23 ⟨Nat.le_of_ble_eq_true rfl, Nat.le_of_ble_eq_true rfl⟩) hS (fun x _ h => h) (fun x h => h) (fun H locs hMN hk hS => ?_)
      obtain ⟨hWto, hWtb, hWtn⟩ := hMN
      clear hk
      refine kb_if_eq (tgt := 40) hx hb dX1_readCommand_26 (by decide) (fun hnf => ?_) (fun hnf => ?_)
      · replace hnf := of_decide_eq_false hnf
        refine lv_iconst (v := nI 0) hx hb dX1_readCommand_40 (by decide) ?_
        exact kx_zretM hx hb hrt hlk (by first | (rw [hr.1, decide_eq_true (by omega)]; rfl) | (rw [(rdc_3 (nn := nn) (k := 0) (pa := 0) (ft := ft) (by omega) h8 hnf hsc).1, Bool.and_false]; rfl) | (rw [(rdc_2 (nn := nn) (k := 0) (pa := 0) (ft := ft) (by omega) h8 hnf).1, Bool.and_false]; rfl) | (rw [(rdc_1 (nn := nn) (k := 0) (pa := 0) (ft := ft) (by omega) h8).1, Bool.and_false]; rfl) | (rw [decide_eq_false hng]; rfl)) (by first | exact ⟨_, _, _, _, h8, smA_le hpn.2, hr.2, hWto, hWtb, hWtn⟩ | exact ⟨_, _, _, _, h8, nbP_le hll.2, (rdc_2 (by omega) h8 hnf).2, hWto, hWtb, hWtn⟩ | exact ⟨_, _, _, _, h8, smA_le hpn.2, (rdc_3 (by omega) h8 hnf hsc).2, hWto, hWtb, hWtn⟩ | exact ⟨_, _, _, _, hk8, hll.2, (rdc_1 (by omega) h8).2, hWto, hWtb, hWtn⟩ | exact ⟨_, _, _, _, hk8, hsl.2, rdc_0 hng, hWto, hWtb, hWtn⟩) hS dX1_readCommand_41
      · replace hnf := of_decide_eq_true hnf
        have hWto : va_at D vwCl (tq, .inr (0, [.ref (tq + 1), .ref (tq + 2), .ref ((aW (wbN b (skp b ln pa) (ltr b ln (skp b ln pa))))), .int (nI (ln)), .int (nI (nps b ln (ltr b ln (skp b ln pa)) (nmC (wbN b (skp b ln pa) (ltr b ln (skp b ln pa)))))), .int (ft)])) H := (by rw [nbP_ok hnf, nbF_ok hnf] at hWto; exact hWto)
        have hWtn : va_at D vwCl (tq + 2, .inl (cs 0, 5, .inl (npN b nn ln (ltr b ln (skp b ln pa)) (nmC (wbN b (skp b ln pa) (ltr b ln (skp b ln pa))))))) H := (by rw [hnf] at hWtn; exact hWtn)
        have hpn := nps_le b hll.2 (nmC (wbN b (skp b ln pa) (ltr b ln (skp b ln pa))))
        refine lv_aload_n hx hb dX1_readCommand_29 rfl (lv_at hl 0 rfl) ?_
        refine kx_retM (va_runV (As := []) (rest := []) ⟨hx, hb, hml, hown, hts⟩ (k_X1_readSemicolon l D cs tq b (npN b nn ln (ltr b ln (skp b ln pa)) (nmC (wbN b (skp b ln pa) (ltr b ln (skp b ln pa))))) ((aW (wbN b (skp b ln pa) (ltr b ln (skp b ln pa))))) ln (nps b ln (ltr b ln (skp b ln pa)) (nmC (wbN b (skp b ln pa) (ltr b ln (skp b ln pa))))) ft hl150 hpn.2) (cwV 0 hts gX1_readCommand_X1_readSemicolon rfl rfl rfl (by decide +kernel) ⟨Nat.le_of_ble_eq_true rfl, Nat.le_of_ble_eq_true rfl⟩) (kx_preV hK hN hWto rfl ⟨hWto, hWtb, hWtn⟩) rfl rfl hl.1 rfl (lv_room (Nat.le_of_ble_eq_true rfl)) dX1_readCommand_30 ⟨Nat.le_of_ble_eq_true rfl, Nat.le_of_ble_eq_true rfl⟩) hS (fun x _ h => h) (fun x h => h) (fun H locs hMN hk hS => ?_)
        obtain ⟨hWto, hWtb, hWtn⟩ := hMN
        clear hk
        refine kb_if_eq (tgt := 40) hx hb dX1_readCommand_33 (by decide) (fun hsc => ?_) (fun hsc => ?_)
        · replace hsc := of_decide_eq_false hsc
          refine lv_iconst (v := nI 0) hx hb dX1_readCommand_40 (by decide) ?_
          exact kx_zretM hx hb hrt hlk (by first | (rw [hr.1, decide_eq_true (by omega)]; rfl) | (rw [(rdc_3 (nn := nn) (k := 0) (pa := 0) (ft := ft) (by omega) h8 hnf hsc).1, Bool.and_false]; rfl) | (rw [(rdc_2 (nn := nn) (k := 0) (pa := 0) (ft := ft) (by omega) h8 hnf).1, Bool.and_false]; rfl) | (rw [(rdc_1 (nn := nn) (k := 0) (pa := 0) (ft := ft) (by omega) h8).1, Bool.and_false]; rfl) | (rw [decide_eq_false hng]; rfl)) (by first | exact ⟨_, _, _, _, h8, smA_le hpn.2, hr.2, hWto, hWtb, hWtn⟩ | exact ⟨_, _, _, _, h8, nbP_le hll.2, (rdc_2 (by omega) h8 hnf).2, hWto, hWtb, hWtn⟩ | exact ⟨_, _, _, _, h8, smA_le hpn.2, (rdc_3 (by omega) h8 hnf hsc).2, hWto, hWtb, hWtn⟩ | exact ⟨_, _, _, _, hk8, hll.2, (rdc_1 (by omega) h8).2, hWto, hWtb, hWtn⟩ | exact ⟨_, _, _, _, hk8, hsl.2, rdc_0 hng, hWto, hWtb, hWtn⟩) hS dX1_readCommand_41
        · replace hsc := of_decide_eq_true hsc
          have hr := rdc_4 (nn := nn) (ft := ft) (by omega) h8 hnf hsc
          refine lv_iconst (v := nI 1) hx hb dX1_readCommand_36 (by decide) ?_
          refine lv_goto (tgt := 41) hx hb dX1_readCommand_37 (by decide) ?_
          exact kx_zretM hx hb hrt hlk (by first | (rw [hr.1, decide_eq_true (by omega)]; rfl) | (rw [(rdc_3 (nn := nn) (k := 0) (pa := 0) (ft := ft) (by omega) h8 hnf hsc).1, Bool.and_false]; rfl) | (rw [(rdc_2 (nn := nn) (k := 0) (pa := 0) (ft := ft) (by omega) h8 hnf).1, Bool.and_false]; rfl) | (rw [(rdc_1 (nn := nn) (k := 0) (pa := 0) (ft := ft) (by omega) h8).1, Bool.and_false]; rfl) | (rw [decide_eq_false hng]; rfl)) (by first | exact ⟨_, _, _, _, h8, smA_le hpn.2, hr.2, hWto, hWtb, hWtn⟩ | exact ⟨_, _, _, _, h8, nbP_le hll.2, (rdc_2 (by omega) h8 hnf).2, hWto, hWtb, hWtn⟩ | exact ⟨_, _, _, _, h8, smA_le hpn.2, (rdc_3 (by omega) h8 hnf hsc).2, hWto, hWtb, hWtn⟩ | exact ⟨_, _, _, _, hk8, hll.2, (rdc_1 (by omega) h8).2, hWto, hWtb, hWtn⟩ | exact ⟨_, _, _, _, hk8, hsl.2, rdc_0 hng, hWto, hWtb, hWtn⟩) hS dX1_readCommand_41
set_option maxHeartbeats 2500000 in
set_option maxRecDepth 100000 in
theorem k_X1_findFault (l : Launch) (D : va_G) (cs : Nat → ClassId) (tq : Nat) (b nn : Nat → Int32) (wd ln pa : Nat) (ft : Int32) (L : Nat) (aW aS aV : Nat → Nat) (tW tM : Nat) (k0 : Nat) (hk8 : k0 < 8) (hwd : wd = aW k0)  (hL : L ≤ tq) (hl150 : ln ≤ 150) (hpa : pa ≤ ln) : Met l yX1_findFault wsX1_findFault ({ frames := 8, cells := 0, slots := 0, locals := 177 } : Room) (PcW D cs L aW aS aV tW tM [.ref (tq)] (fun H => TxC D cs tq b nn wd ln pa ft H)) (QcM (some (.int (ftI b ln))) (fun H => ∃ nn1 : Nat → Int32, ∃ k1 : Nat, ∃ pa1 : Nat, ∃ ft1 : Int32, k1 < 8 ∧ pa1 ≤ ln ∧ TxC D cs tq b nn1 ((aW k1)) ln pa1 ft1 H) (rgT tq)) 0 0 ((rgT tq)) := by
  refine kx_metW (cc := cX1_findFault) (maxL := 3) (ret := (some .int)) (by decide) rfl (Nat.le_of_ble_eq_true rfl) ?_
  intro p en s m args below meth c hx hb hml hrt hts hown hlk hK hN hW hP ls hl
  have hl : lv_has ls 3 [(0, .ref (tq))] := hl
  obtain ⟨H, hHe⟩ : ∃ H : Heap, H = s.heap := ⟨_, rfl⟩
  rw [← hHe] at hP ⊢
  have hS : va_S ((rgT tq)) s.heap H [] := by rw [← hHe]; exact va_S.rf
  have hinX1 : ∀ w ∈ wsX10, w ∈ wsX1_findFault := by decide +kernel
  subst hwd
  have hAL : ∀ x, (rgT tq) x → L ≤ x := (fun x h => Nat.le_trans hL h.1)
  have hWn := hW.narrow hAL
  have hWto := hP.1
  have hWtb := hP.2.1
  have hWtn := hP.2.2
  refine lv_aload_n hx hb dX1_findFault_0 rfl (lv_at hl 0 rfl) ?_
  refine kx_retM (va_runV (As := []) (rest := []) ⟨hx, hb, hml, hown, hts⟩ (k_X1_rewind l D cs tq b nn (aW k0) ln pa ft (by first | assumption | omega) (by first | assumption | omega)) (cwV 0 hts gX1_findFault_X1_rewind rfl rfl rfl (by decide +kernel) ⟨Nat.le_of_ble_eq_true rfl, Nat.le_of_ble_eq_true rfl⟩) (kx_preV hK hN hWto rfl ⟨hWto, hWtb, hWtn⟩) rfl rfl hl.1 rfl (lv_room (Nat.le_of_ble_eq_true rfl)) dX1_findFault_1 ⟨Nat.le_of_ble_eq_true rfl, Nat.le_of_ble_eq_true rfl⟩) hS (fun x _ h => h) (fun x h => h) (fun H locs hMN hk hS => ?_)
  obtain ⟨hWto, hWtb, hWtn⟩ := hMN
  clear hk
  refine lv_iconst (v := nI 1) hx hb dX1_findFault_4 (by decide) ?_
  refine lv_istore_n (lv' := [(1, .int (nI (1))), (0, .ref (tq))]) hx hb dX1_findFault_5 rfl hl (by decide) rfl (fun ls hl => ?_)
  refine lv_iconst (v := nI 0) hx hb dX1_findFault_6 (by decide) ?_
  refine lv_istore_n (lv' := [(2, .int (nI (0))), (1, .int (nI (1))), (0, .ref (tq))]) hx hb dX1_findFault_7 rfl hl (by decide) rfl (fun ls hl => ?_)
  have J8 : ∀ (fu8 : Nat) (r : Nat) (mr : Bool) (nnc : Nat → Int32) (kc : Nat) (pac : Nat) (ftc : Int32) (H : Heap) (locs : List Loc) (ls : Array Slot), (150 - r) < fu8 → (kc < 8) → (pac ≤ ln) → (r ≤ 150) → (mr = true → (∀ i, i < r → cgo b ln i = true) ∧ skp b ln pac = cpq b ln r ∧ ftc = -1) → (mr = false → ftc = ftI b ln) → (va_at D vwCl (tq + 1, .inl (cs 1, 150, .inl b)) H) → (va_at D vwCl (tq + 2, .inl (cs 0, 5, .inl nnc)) H) → (va_at D vwCl (tq, .inr (0, [.ref (tq + 1), .ref (tq + 2), .ref (aW kc), .int (nI (ln)), .int (nI (pac)), .int (ftc)])) H) → va_S ((rgT tq)) s.heap H locs → lv_has ls 3 [(0, .ref (tq)), (1, .int (bI (mr))), (2, .int (nI (r)))] → W p l en ({ frames := 8, cells := 0, slots := 0, locals := 177 } : Room) s m args below meth c H locs 0 0 (MQ below (QcM (some (.int (ftI b ln))) (fun H => ∃ nn1 : Nat → Int32, ∃ k1 : Nat, ∃ pa1 : Nat, ∃ ft1 : Int32, k1 < 8 ∧ pa1 ≤ ln ∧ TxC D cs tq b nn1 ((aW k1)) ln pa1 ft1 H) (rgT tq)) args s 0 0 ((rgT tq))) (F0 m 8 ls []) := by
    intro fu8; induction fu8 with
    | zero => intro r mr nnc kc pac ftc H locs ls hmu8 hkc hpac hr hmt hmf hWtb hWtn hWto hS hl; exact absurd hmu8 (Nat.not_lt_zero _)
    | succ fu8 ih8 =>
      intro r mr nnc kc pac ftc H locs ls hmu8 hkc hpac hr hmt hmf hWtb hWtn hWto hS hl
      refine lv_iload_n hx hb dX1_findFault_8 rfl (lv_at hl 1 rfl) ?_
      refine kb_if_eq (tgt := 30) hx hb dX1_findFault_9 (by decide) (fun hmr => ?_) (fun hmr => ?_)
      · have hfe := hmf hmr
        refine lv_aload_n hx hb dX1_findFault_30 rfl (lv_at hl 0 rfl) ?_
        refine kx_get (v := .int (ftc)) hx hb hts hinX1 hown hK hWto rfl 5 (by decide) (by decide +kernel) rfl dX1_findFault_31 ?_
        exact kx_iretM hx hb hrt hlk (by rw [hfe]) ⟨_, _, _, _, hkc, hpac, hWto, hWtb, hWtn⟩ hS dX1_findFault_34
      · obtain ⟨hall, hsk, hft9⟩ := hmt hmr
        refine lv_iload_n hx hb dX1_findFault_12 rfl (lv_at hl 2 rfl) ?_
        refine lv_sipush (v := nI 150) hx hb dX1_findFault_13 (by decide) ?_
        refine kn_icmp_ge (tgt := 30) hx hb dX1_findFault_16 (by decide) (by omega) (by decide) (fun hge => ?_) (fun hge => ?_)
        · have hfe := ff_e hl150 hall (by omega) hft9
          refine lv_aload_n hx hb dX1_findFault_30 rfl (lv_at hl 0 rfl) ?_
          refine kx_get (v := .int (ftc)) hx hb hts hinX1 hown hK hWto rfl 5 (by decide) (by decide +kernel) rfl dX1_findFault_31 ?_
          exact kx_iretM hx hb hrt hlk (by rw [hfe]) ⟨_, _, _, _, hkc, hpac, hWto, hWtb, hWtn⟩ hS dX1_findFault_34
        · refine lv_aload_n hx hb dX1_findFault_19 rfl (lv_at hl 0 rfl) ?_
          refine kx_retM (va_runV (As := []) (rest := []) ⟨hx, hb, hml, hown, hts⟩ (k_X1_readCommand l D cs tq b nnc (aW kc) ln pac ftc L aW aS aV tW tM kc hkc rfl hL hl150 hpac) (cwV 0 hts gX1_findFault_X1_readCommand rfl rfl rfl (by decide +kernel) ⟨Nat.le_of_ble_eq_true rfl, Nat.le_of_ble_eq_true rfl⟩) (kx_preWV hK hN (hW.keptS hS hAL) hWto rfl ⟨hWto, hWtb, hWtn⟩) rfl rfl hl.1 rfl (lv_room (Nat.le_of_ble_eq_true rfl)) dX1_findFault_20 ⟨Nat.le_of_ble_eq_true rfl, Nat.le_of_ble_eq_true rfl⟩) hS (fun x _ h => h) (fun x h => h) (fun H locs hMN hk hS => ?_)
          obtain ⟨nn1, k1, pa1, ft1, hk1, hp1, hrd, hWto, hWtb, hWtn⟩ := hMN
          clear hk
          refine lv_istore_n (lv' := [(1, .int (bI ((decide ((skp b ln pac) < ln) && rdOk b ln (skp b ln pac))))), (0, .ref (tq)), (2, .int (nI (r)))]) hx hb dX1_findFault_23 rfl hl (by decide) rfl (fun ls hl => ?_)
          refine lv_iinc (v := nI (r + 1)) (lv' := [(2, .int (nI (r + 1))), (1, .int (bI ((decide ((skp b ln pac) < ln) && rdOk b ln (skp b ln pac))))), (0, .ref (tq))]) (k := 2) hx hb dX1_findFault_24 hl rfl (nI_add _ _) (by decide) rfl (fun ls hl => ?_)
          refine lv_goto (tgt := 8) hx hb dX1_findFault_27 (by decide) ?_
          exact ih8 (r + 1) ((decide (skp b ln pac < ln) && rdOk b ln (skp b ln pac))) nn1 k1 pa1 ft1 _ _ _ (by omega) hk1 hp1 (by omega) (fun q => ff_t hall hsk hft9 hrd q) (fun q => ff_f hl150 hall hsk hft9 hrd q) hWtb hWtn hWto hS (lv_sub hl [2, 1, 0] rfl)
  exact J8 _ 0 true nn k0 0 ((-1)) _ _ _ (Nat.lt_succ_self _) hk8 (Nat.zero_le _) (by omega) (fun _ => ⟨fun i hi => absurd hi (Nat.not_lt_zero i), rfl, rfl⟩) (fun q => absurd q (by decide)) hWtb hWtn hWto hS (lv_sub hl [2, 1, 0] rfl)
