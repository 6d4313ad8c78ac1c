set_option maxHeartbeats 2500000 in
set_option maxRecDepth 100000 in
theorem k_X1_readNumbers (l : Launch) (D : va_G) (cs : Nat → ClassId) (tq : Nat) (b nn : Nat → Int32) (wd ln pa : Nat) (ft : Int32) (L : Nat) (aW aS aV : Nat → Nat) (tW tM : Nat) (k0 : Nat) (hk8 : k0 < 8) (hwd : wd = aW k0) (hL : L ≤ tq) (hl150 : ln ≤ 150) (hpa : pa ≤ ln) : Met l yX1_readNumbers wsX1_readNumbers ({ frames := 2, cells := 0, slots := 0, locals := 46 } : Room) (PcW D cs L aW aS aV tW tM [.ref (tq)] (fun H => TxC D cs tq b nn wd ln pa ft H)) (QcM (some (.int (bI (decide (nfI b ln pa (nmC k0) = nmC k0))))) (fun H => TxC D cs tq b ((npN b nn ln pa (nfI b ln pa (nmC k0)))) wd ln ((nbP b ln pa (nmC k0))) ((nbF b ln pa (nmC k0) ft)) H) (rgT tq)) 0 0 ((rgT tq)) := by
  refine kx_metW (cc := cX1_readNumbers) (maxL := 2) (ret := (some .boolean)) (by decide) rfl (Nat.le_of_ble_eq_true rfl) ?_
  intro p en s m args below meth c hx hb hml hrt hts hown hlk hK hN hW hP ls hl
  have hl : lv_has ls 2 [(0, .ref (tq))] := hl
  obtain ⟨H, hHe⟩ : ∃ H : Heap, H = s.heap := ⟨_, rfl⟩
  rw [← hHe] at hP ⊢
  have hS : va_S ((rgT tq)) s.heap H [] := by rw [← hHe]; exact va_S.rf
  have hinX1 : ∀ w ∈ wsX10, w ∈ wsX1_readNumbers := by decide +kernel
  subst hwd
  have hAL : ∀ x, (rgT tq) x → L ≤ x := (fun x h => Nat.le_trans hL h.1)
  have hWn := hW.narrow hAL
  have hWto := hP.1
  have hWtb := hP.2.1
  have hWtn := hP.2.2
  have hc5 := nmC_5 k0
  refine lv_iconst (v := nI 0) hx hb dX1_readNumbers_0 (by decide) ?_
  refine lv_istore_n (lv' := [(1, .int (nI (0))), (0, .ref (tq))]) hx hb dX1_readNumbers_1 rfl hl (by decide) rfl (fun ls hl => ?_)
  have J2 : ∀ (fu2 : Nat) (i : Nat) (H : Heap) (locs : List Loc) (ls : Array Slot), (nmC k0 - i) < fu2 → (i ≤ nmC k0) → (∀ j, j < i → nmOk b ln (nps b ln pa j) = true) → (va_at D vwCl (tq + 1, .inl (cs 1, 150, .inl b)) H) → (va_at D vwCl (tq + 2, .inl (cs 0, 5, .inl (npN b nn ln pa i))) H) → (va_at D vwCl (tq, .inr (0, [.ref (tq + 1), .ref (tq + 2), .ref (aW k0), .int (nI (ln)), .int (nI (nps b ln pa i)), .int (ft)])) H) → va_S ((rgT tq)) s.heap H locs → lv_has ls 2 [(0, .ref (tq)), (1, .int (nI (i)))] → W p l en ({ frames := 2, cells := 0, slots := 0, locals := 46 } : Room) s m args below meth c H locs 0 0 (MQ below (QcM (some (.int (bI (decide (nfI b ln pa (nmC k0) = nmC k0))))) (fun H => TxC D cs tq b ((npN b nn ln pa (nfI b ln pa (nmC k0)))) (aW k0) ln ((nbP b ln pa (nmC k0))) ((nbF b ln pa (nmC k0) ft)) H) (rgT tq)) args s 0 0 ((rgT tq))) (F0 m 2 ls []) := by
    intro fu2; induction fu2 with
    | zero => intro i H locs ls hmu2 hi hall hWtb hWtn hWto hS hl; exact absurd hmu2 (Nat.not_lt_zero _)
    | succ fu2 ih2 =>
      intro i H locs ls hmu2 hi hall hWtb hWtn hWto hS hl
      refine lv_iload_n hx hb dX1_readNumbers_2 rfl (lv_at hl 1 rfl) ?_
      refine lv_aload_n hx hb dX1_readNumbers_3 rfl (lv_at hl 0 rfl) ?_
      refine kx_get (v := .ref (aW k0)) hx hb hts hinX1 hown hK hWto rfl 2 (by decide) (by decide +kernel) rfl dX1_readNumbers_4 ?_
      refine va_getE (i := k0) hx hb hWn.en (show _ < 8 from by omega) hS hown (q := wFD.getD 1 ("", "", "", [])) (List.mem_of_getElem? (i := 1) rfl) (hts (.fieldLink RX1 90 "HostageRings$Word" "numbers" "I") (by decide +kernel)) (fun x h => h) dX1_readNumbers_7 ?_
      refine kx_ci (y := nI (nmC k0)) (w_num k0 (by omega)) ?_
      refine kn_icmp_ge (tgt := 34) hx hb dX1_readNumbers_10 (by decide) (by omega) (by omega) (fun hge => ?_) (fun hge => ?_)
      · have hii : i = nmC k0 := by omega
        subst hii
        have hnf := nfI_all hall
        refine lv_iconst (v := nI 1) hx hb dX1_readNumbers_34 (by decide) ?_
        exact kx_zretM hx hb hrt hlk (by rw [hnf, decide_eq_true rfl]; rfl) (by unfold nbP nbF; rw [hnf, if_pos rfl, if_pos rfl]; exact ⟨hWto, hWtb, hWtn⟩) hS dX1_readNumbers_35
      · have hpi := nps_le b hpa i
        refine lv_iload_n hx hb dX1_readNumbers_13 rfl (lv_at hl 1 rfl) ?_
        refine lv_iconst (v := nI 5) hx hb dX1_readNumbers_14 (by decide) ?_
        refine kn_icmp_ge (tgt := 34) hx hb dX1_readNumbers_15 (by decide) (by omega) (by decide) (fun c_1 => ?_) (fun c_1 => ?_)
        · omega
        · refine lv_aload_n hx hb dX1_readNumbers_18 rfl (lv_at hl 0 rfl) ?_
          refine lv_iload_n hx hb dX1_readNumbers_19 rfl (lv_at hl 1 rfl) ?_
          refine kx_retM (va_runV (As := [.int (nI (i))]) (rest := []) ⟨hx, hb, hml, hown, hts⟩ (k_X1_readNumber l D cs tq b (npN b nn ln pa i) (aW k0) ln (nps b ln pa i) ft i (by first | assumption | omega) (by first | assumption | omega) hpi.2) (cwV 1 hts gX1_readNumbers_X1_readNumber rfl rfl rfl (by decide +kernel) ⟨Nat.le_of_ble_eq_true rfl, Nat.le_of_ble_eq_true rfl⟩) (kx_preV hK hN hWto rfl ⟨hWto, hWtb, hWtn⟩) rfl rfl hl.1 rfl (lv_room (Nat.le_of_ble_eq_true rfl)) dX1_readNumbers_20 ⟨Nat.le_of_ble_eq_true rfl, Nat.le_of_ble_eq_true rfl⟩) hS (fun x _ h => h) (fun x h => h) (fun H locs hMN hk hS => ?_)
          obtain ⟨hWto, hWtb, hWtn⟩ := hMN
          clear hk
          refine kb_if_ne (tgt := 28) hx hb dX1_readNumbers_23 (by decide) (fun hnm => ?_) (fun hnm => ?_)
          · refine lv_iinc (v := nI (i + 1)) (lv' := [(1, .int (nI (i + 1))), (0, .ref (tq))]) (k := 1) hx hb dX1_readNumbers_28 hl rfl (nI_add _ _) (by decide) rfl (fun ls hl => ?_)
            refine lv_goto (tgt := 2) hx hb dX1_readNumbers_31 (by decide) ?_
            exact ih2 (i + 1) _ _ _ (by omega) (by omega) (no_t hall hnm) hWtb hWtn (by rw [rnF_ok hnm, rnA_ok hnm] at hWto; exact hWto) hS (lv_sub hl [1, 0] rfl)
          · refine lv_iconst (v := nI 0) hx hb dX1_readNumbers_26 (by decide) ?_
            exact kx_zretM hx hb hrt hlk (by rw [nfI_at hall (by omega) hnm, decide_eq_false (by omega)]; rfl) (by unfold nbP nbF; rw [nfI_at hall (by omega) hnm, if_neg (by omega), if_neg (by omega)]; rw [rnF_no hnm] at hWto; rw [rnN_no hnm] at hWtn; exact ⟨hWto, hWtb, hWtn⟩) hS dX1_readNumbers_27
  exact J2 _ 0 _ _ _ (Nat.lt_succ_self _) (by omega) (fun j hj => absurd hj (Nat.not_lt_zero j)) hWtb (by rw [npN_0]; exact hWtn) (by rw [nps_0]; exact hWto) hS (lv_sub hl [1, 0] rfl)
set_option maxHeartbeats 2500000 in
set_option maxRecDepth 100000 in
theorem k_X1_readWord (l : Launch) (D : va_G) (cs : Nat → ClassId) (tq : Nat) (b nn : Nat → Int32) (wd ln pa : Nat) (ft : Int32) (L : Nat) (aW aS aV : Nat → Nat) (tW tM : Nat)  (hL : L ≤ tq) (hl150 : ln ≤ 150) (hpa : pa ≤ ln) : Met l yX1_readWord wsX1_readWord ({ frames := 6, cells := 0, slots := 0, locals := 135 } : Room) (PcW D cs L aW aS aV tW tM [.ref (tq)] (fun H => TxC D cs tq b nn wd ln pa ft H)) (QcM (some (.int (bI (decide ((wbN b pa (ltr b ln pa)) < 8))))) (fun H => TxC D cs tq b nn ((if (wbN b pa (ltr b ln pa)) < 8 then aW (wbN b pa (ltr b ln pa)) else wd)) ln ((ltr b ln pa)) ((if (wbN b pa (ltr b ln pa)) < 8 then ft else nI pa)) H) (rgT tq)) 0 0 ((rgT tq)) := by
  refine kx_metW (cc := cX1_readWord) (maxL := 3) (ret := (some .boolean)) (by decide) rfl (Nat.le_of_ble_eq_true rfl) ?_
  intro p en s m args below meth c hx hb hml hrt hts hown hlk hK hN hW hP ls hl
  have hl : lv_has ls 3 [(0, .ref (tq))] := hl
  obtain ⟨H, hHe⟩ : ∃ H : Heap, H = s.heap := ⟨_, rfl⟩
  rw [← hHe] at hP ⊢
  have hS : va_S ((rgT tq)) s.heap H [] := by rw [← hHe]; exact va_S.rf
  have hinX1 : ∀ w ∈ wsX10, w ∈ wsX1_readWord := by decide +kernel
  have hAL : ∀ x, (rgT tq) x → L ≤ x := (fun x h => Nat.le_trans hL h.1)
  have hWn := hW.narrow hAL
  have hWto := hP.1
  have hWtb := hP.2.1
  have hWtn := hP.2.2
  refine lv_aload_n hx hb dX1_readWord_0 rfl (lv_at hl 0 rfl) ?_
  refine kx_get (v := .int (nI (pa))) hx hb hts hinX1 hown hK hWto rfl 4 (by decide) (by decide +kernel) rfl dX1_readWord_1 ?_
  refine lv_istore_n (lv' := [(1, .int (nI (pa))), (0, .ref (tq))]) hx hb dX1_readWord_4 rfl hl (by decide) rfl (fun ls hl => ?_)
  have J5 : ∀ (fu5 : Nat) (i : Nat) (H : Heap) (locs : List Loc) (ls : Array Slot), (ln - (pa + i)) < fu5 → (pa + i ≤ ln) → (∀ j, j < i → isL (bt b ln (pa + j)) = true) → (va_at D vwCl (tq + 1, .inl (cs 1, 150, .inl b)) H) → (va_at D vwCl (tq + 2, .inl (cs 0, 5, .inl nn)) H) → (va_at D vwCl (tq, .inr (0, [.ref (tq + 1), .ref (tq + 2), .ref (wd), .int (nI (ln)), .int (nI (pa + i)), .int (ft)])) H) → va_S ((rgT tq)) s.heap H locs → lv_has ls 3 [(0, .ref (tq)), (1, .int (nI (pa)))] → W p l en ({ frames := 6, cells := 0, slots := 0, locals := 135 } : Room) s m args below meth c H locs 0 0 (MQ below (QcM (some (.int (bI (decide ((wbN b pa (ltr b ln pa)) < 8))))) (fun H => TxC D cs tq b nn ((if (wbN b pa (ltr b ln pa)) < 8 then aW (wbN b pa (ltr b ln pa)) else wd)) ln ((ltr b ln pa)) ((if (wbN b pa (ltr b ln pa)) < 8 then ft else nI pa)) H) (rgT tq)) args s 0 0 ((rgT tq))) (F0 m 5 ls []) := by
    intro fu5; induction fu5 with
    | zero => intro i H locs ls hmu5 hi hsm hWtb hWtn hWto hS hl; exact absurd hmu5 (Nat.not_lt_zero _)
    | succ fu5 ih5 =>
      intro i H locs ls hmu5 hi hsm hWtb hWtn hWto hS hl
      refine lv_aload_n hx hb dX1_readWord_5 rfl (lv_at hl 0 rfl) ?_
      refine kx_get (v := .int (nI (pa + i))) hx hb hts hinX1 hown hK hWto rfl 4 (by decide) (by decide +kernel) rfl dX1_readWord_6 ?_
      refine lv_aload_n hx hb dX1_readWord_9 rfl (lv_at hl 0 rfl) ?_
      refine kx_get (v := .int (nI (ln))) hx hb hts hinX1 hown hK hWto rfl 3 (by decide) (by decide +kernel) rfl dX1_readWord_10 ?_
      refine kn_icmp_ge (tgt := 48) hx hb dX1_readWord_13 (by decide) (by omega) (by omega) (fun hge => ?_) (fun hge => ?_)
      · have hle := ltr_is hsm (by first | (rw [bt_lt hlt]; exact hlet) | (rw [bt_ge (by omega)]; decide)) hpa
        have hWto : va_at D vwCl (tq, .inr (0, [.ref (tq + 1), .ref (tq + 2), .ref (wd), .int (nI (ln)), .int (nI (ltr b ln pa)), .int (ft)])) H := by rw [show (ltr b ln pa) = (pa + i) from hle]; exact hWto
        have hll := ltr_le b hpa
        refine lv_aload_n hx hb dX1_readWord_48 rfl (lv_at hl 0 rfl) ?_
        refine lv_iload_n hx hb dX1_readWord_49 rfl (lv_at hl 1 rfl) ?_
        refine lv_aload_n hx hb dX1_readWord_50 rfl (lv_at hl 0 rfl) ?_
        refine kx_get (v := .int (nI (ltr b ln pa))) hx hb hts hinX1 hown hK hWto rfl 4 (by decide) (by decide +kernel) rfl dX1_readWord_51 ?_
        refine kx_retP (va_runV (As := [.int (nI (pa)), .int (nI (ltr b ln pa))]) (rest := []) ⟨hx, hb, hml, hown, hts⟩ (k_X1_wordBetween l D cs tq b nn wd ln (ltr b ln pa) ft L aW aS aV tW tM pa (ltr b ln pa) hll.1 hll.2 (by first | assumption | omega) (by first | assumption | omega) hll.2) (cwV 2 hts gX1_readWord_X1_wordBetween rfl rfl rfl (by decide +kernel) ⟨Nat.le_of_ble_eq_true rfl, Nat.le_of_ble_eq_true rfl⟩) (kx_preWV hK hN (hW.keptS hS hAL) hWto rfl ⟨hWto, hWtb, hWtn⟩) rfl rfl hl.1 rfl (lv_room (Nat.le_of_ble_eq_true rfl)) dX1_readWord_54 ⟨Nat.le_of_ble_eq_true rfl, Nat.le_of_ble_eq_true rfl⟩) ?_
        rcases Nat.lt_or_ge (wbN b pa (ltr b ln pa)) 8 with h8 | h8
        · rw [wbV_lt h8]
          show W _ _ _ _ _ _ _ _ _ _ _ _ _ _ _ (F0 m 57 ls [.ref (aW (wbN b pa (ltr b ln pa)))])
          refine lv_astore_n (lv' := [(2, .ref (aW (wbN b pa (ltr b ln pa)))), (0, .ref (tq)), (1, .int (nI (pa)))]) hx hb dX1_readWord_57 rfl hl (by decide) rfl (fun ls hl => ?_)
          refine lv_aload_n hx hb dX1_readWord_58 rfl (lv_at hl 0 rfl) ?_
          refine lv_ifnonnull (tgt := 68) hx hb dX1_readWord_59 (by decide) ?_
          refine lv_aload_n hx hb dX1_readWord_68 rfl (lv_at hl 1 rfl) ?_
          refine lv_aload_n hx hb dX1_readWord_69 rfl (lv_at hl 0 rfl) ?_
          refine kx_put hx hb hts hinX1 tyX1_ok nmX1 hown hK hWto rfl hS ⟨by omega, by omega⟩ 2 (by decide) (by decide +kernel) rfl rfl rfl (Nat.le_of_ble_eq_true rfl) dX1_readWord_70 (fun H locs hc hU hS => ?_)
          have hWto : va_at D vwCl (tq, .inr (0, [.ref (tq + 1), .ref (tq + 2), .ref (aW (wbN b pa (ltr b ln pa))), .int (nI (ln)), .int (nI (ltr b ln pa)), .int (ft)])) H := hc
          have hWtb := hWtb.kept (hU.2 _ (by omega))
          have hWtn := hWtn.kept (hU.2 _ (by omega))
          clear hc hU
          refine lv_iconst (v := nI 1) hx hb dX1_readWord_73 (by decide) ?_
          exact kx_zretM hx hb hrt hlk (by rw [decide_eq_true h8]; rfl) (by rw [if_pos h8, if_pos h8]; exact ⟨hWto, hWtb, hWtn⟩) hS dX1_readWord_74
        · rw [show (wbN b pa (ltr b ln pa)) = 8 by have := wbN_8 b pa (ltr b ln pa); omega]
          rw [wbV_8]
          refine lv_astore_nN (lv' := [(2, .null), (0, .ref (tq)), (1, .int (nI (pa)))]) hx hb dX1_readWord_57 rfl hl (by decide) rfl (fun ls hl => ?_)
          refine lv_aload_nN hx hb dX1_readWord_58 rfl (lv_at hl 0 rfl) ?_
          refine lv_ifnonnullN hx hb dX1_readWord_59 ?_
          refine lv_aload_n hx hb dX1_readWord_62 rfl (lv_at hl 1 rfl) ?_
          refine lv_iload_n hx hb dX1_readWord_63 rfl (lv_at hl 2 rfl) ?_
          refine kx_retM (va_runV (As := [.int (nI (pa))]) (rest := []) ⟨hx, hb, hml, hown, hts⟩ (k_X1_failAt l D cs tq b nn wd ln (ltr b ln pa) ft (nI (pa)) (by first | assumption | omega) hll.2) (cwV 1 hts gX1_readWord_X1_failAt rfl rfl rfl (by decide +kernel) ⟨Nat.le_of_ble_eq_true rfl, Nat.le_of_ble_eq_true rfl⟩) (kx_preV hK hN hWto rfl ⟨hWto, hWtb, hWtn⟩) rfl rfl hl.1 rfl (lv_room (Nat.le_of_ble_eq_true rfl)) dX1_readWord_64 ⟨Nat.le_of_ble_eq_true rfl, Nat.le_of_ble_eq_true rfl⟩) hS (fun x _ h => h) (fun x h => h) (fun H locs hMN hk hS => ?_)
          obtain ⟨hWto, hWtb, hWtn⟩ := hMN
          clear hk
          exact kx_zretM hx hb hrt hlk (by rw [decide_eq_false (by omega)]) (by rw [if_neg (by omega), if_neg (by omega)]; exact ⟨hWto, hWtb, hWtn⟩) hS dX1_readWord_67
      · have hlt : pa + i < ln := by omega
        refine lv_aload_n hx hb dX1_readWord_16 rfl (lv_at hl 0 rfl) ?_
        refine kx_get (v := .ref (tq + 1)) hx hb hts hinX1 hown hK hWto rfl 0 (by decide) (by decide +kernel) rfl dX1_readWord_17 ?_
        refine lv_aload_n hx hb dX1_readWord_20 rfl (lv_at hl 0 rfl) ?_
        refine kx_get (v := .int (nI (pa + i))) hx hb hts hinX1 hown hK hWto rfl 4 (by decide) (by decide +kernel) rfl dX1_readWord_21 ?_
        refine kx_cald (i := pa + i) hx hb hK hWtb 1 rfl (by omega) (by omega) dX1_readWord_24 ?_
        refine lv_bipush (v := nI 97) hx hb dX1_readWord_25 (by decide) ?_
        refine lv_bipush (v := nI 122) hx hb dX1_readWord_27 (by decide) ?_
        refine kx_retP (va_runSN (As := [.int (b (pa + i)), .int (nI (97)), .int (nI (122))]) (rest := []) ⟨hx, hb, hml, hown, hts⟩ (k_X7_isWithin l D cs (b (pa + i)) (nI (97)) (nI (122))) ⟨va_cnB 3 hts ggX1_readWord_X7_isWithin rfl rfl rfl hN.2.1 (hts (.initialized RX7) (by decide +kernel)) (by decide +kernel) ⟨Nat.le_of_ble_eq_true rfl, Nat.le_of_ble_eq_true rfl⟩, hts (.static yX7_isWithin) (by decide +kernel), trivial⟩ (kx_preS hK hN trivial) rfl rfl hl.1 rfl (lv_room (Nat.le_of_ble_eq_true rfl)) dX1_readWord_29 ⟨Nat.le_of_ble_eq_true rfl, Nat.le_of_ble_eq_true rfl⟩) ?_
        refine kb_if_eq (tgt := 48) hx hb dX1_readWord_32 (by decide) (fun hlet => ?_) (fun hlet => ?_)
        · have hle := ltr_is hsm (by first | (rw [bt_lt hlt]; exact hlet) | (rw [bt_ge (by omega)]; decide)) hpa
          have hWto : va_at D vwCl (tq, .inr (0, [.ref (tq + 1), .ref (tq + 2), .ref (wd), .int (nI (ln)), .int (nI (ltr b ln pa)), .int (ft)])) H := by rw [show (ltr b ln pa) = (pa + i) from hle]; exact hWto
          have hll := ltr_le b hpa
          refine lv_aload_n hx hb dX1_readWord_48 rfl (lv_at hl 0 rfl) ?_
          refine lv_iload_n hx hb dX1_readWord_49 rfl (lv_at hl 1 rfl) ?_
          refine lv_aload_n hx hb dX1_readWord_50 rfl (lv_at hl 0 rfl) ?_
          refine kx_get (v := .int (nI (ltr b ln pa))) hx hb hts hinX1 hown hK hWto rfl 4 (by decide) (by decide +kernel) rfl dX1_readWord_51 ?_
          refine kx_retP (va_runV (As := [.int (nI (pa)), .int (nI (ltr b ln pa))]) (rest := []) ⟨hx, hb, hml, hown, hts⟩ (k_X1_wordBetween l D cs tq b nn wd ln (ltr b ln pa) ft L aW aS aV tW tM pa (ltr b ln pa) hll.1 hll.2 (by first | assumption | omega) (by first | assumption | omega) hll.2) (cwV 2 hts gX1_readWord_X1_wordBetween rfl rfl rfl (by decide +kernel) ⟨Nat.le_of_ble_eq_true rfl, Nat.le_of_ble_eq_true rfl⟩) (kx_preWV hK hN (hW.keptS hS hAL) hWto rfl ⟨hWto, hWtb, hWtn⟩) rfl rfl hl.1 rfl (lv_room (Nat.le_of_ble_eq_true rfl)) dX1_readWord_54 ⟨Nat.le_of_ble_eq_true rfl, Nat.le_of_ble_eq_true rfl⟩) ?_
          rcases Nat.lt_or_ge (wbN b pa (ltr b ln pa)) 8 with h8 | h8
          · rw [wbV_lt h8]
            show W _ _ _ _ _ _ _ _ _ _ _ _ _ _ _ (F0 m 57 ls [.ref (aW (wbN b pa (ltr b ln pa)))])
            refine lv_astore_n (lv' := [(2, .ref (aW (wbN b pa (ltr b ln pa)))), (0, .ref (tq)), (1, .int (nI (pa)))]) hx hb dX1_readWord_57 rfl hl (by decide) rfl (fun ls hl => ?_)
            refine lv_aload_n hx hb dX1_readWord_58 rfl (lv_at hl 0 rfl) ?_
            refine lv_ifnonnull (tgt := 68) hx hb dX1_readWord_59 (by decide) ?_
            refine lv_aload_n hx hb dX1_readWord_68 rfl (lv_at hl 1 rfl) ?_
            refine lv_aload_n hx hb dX1_readWord_69 rfl (lv_at hl 0 rfl) ?_
            refine kx_put hx hb hts hinX1 tyX1_ok nmX1 hown hK hWto rfl hS ⟨by omega, by omega⟩ 2 (by decide) (by decide +kernel) rfl rfl rfl (Nat.le_of_ble_eq_true rfl) dX1_readWord_70 (fun H locs hc hU hS => ?_)
            have hWto : va_at D vwCl (tq, .inr (0, [.ref (tq + 1), .ref (tq + 2), .ref (aW (wbN b pa (ltr b ln pa))), .int (nI (ln)), .int (nI (ltr b ln pa)), .int (ft)])) H := hc
            have hWtb := hWtb.kept (hU.2 _ (by omega))
            have hWtn := hWtn.kept (hU.2 _ (by omega))
            clear hc hU
            refine lv_iconst (v := nI 1) hx hb dX1_readWord_73 (by decide) ?_
            exact kx_zretM hx hb hrt hlk (by rw [decide_eq_true h8]; rfl) (by rw [if_pos h8, if_pos h8]; exact ⟨hWto, hWtb, hWtn⟩) hS dX1_readWord_74
          · rw [show (wbN b pa (ltr b ln pa)) = 8 by have := wbN_8 b pa (ltr b ln pa); omega]
            rw [wbV_8]
            refine lv_astore_nN (lv' := [(2, .null), (0, .ref (tq)), (1, .int (nI (pa)))]) hx hb dX1_readWord_57 rfl hl (by decide) rfl (fun ls hl => ?_)
            refine lv_aload_nN hx hb dX1_readWord_58 rfl (lv_at hl 0 rfl) ?_
            refine lv_ifnonnullN hx hb dX1_readWord_59 ?_
            refine lv_aload_n hx hb dX1_readWord_62 rfl (lv_at hl 1 rfl) ?_
            refine lv_iload_n hx hb dX1_readWord_63 rfl (lv_at hl 2 rfl) ?_
            refine kx_retM (va_runV (As := [.int (nI (pa))]) (rest := []) ⟨hx, hb, hml, hown, hts⟩ (k_X1_failAt l D cs tq b nn wd ln (ltr b ln pa) ft (nI (pa)) (by first | assumption | omega) hll.2) (cwV 1 hts gX1_readWord_X1_failAt rfl rfl rfl (by decide +kernel) ⟨Nat.le_of_ble_eq_true rfl, Nat.le_of_ble_eq_true rfl⟩) (kx_preV hK hN hWto rfl ⟨hWto, hWtb, hWtn⟩) rfl rfl hl.1 rfl (lv_room (Nat.le_of_ble_eq_true rfl)) dX1_readWord_64 ⟨Nat.le_of_ble_eq_true rfl, Nat.le_of_ble_eq_true rfl⟩) hS (fun x _ h => h) (fun x h => h) (fun H locs hMN hk hS => ?_)
            obtain ⟨hWto, hWtb, hWtn⟩ := hMN
            clear hk
            exact kx_zretM hx hb hrt hlk (by rw [decide_eq_false (by omega)]) (by rw [if_neg (by omega), if_neg (by omega)]; exact ⟨hWto, hWtb, hWtn⟩) hS dX1_readWord_67
        · refine lv_aload_n hx hb dX1_readWord_35 rfl (lv_at hl 0 rfl) ?_
          refine lv_dup hx hb dX1_readWord_36 rfl ?_
          refine kx_get (v := .int (nI (pa + i))) hx hb hts hinX1 hown hK hWto rfl 4 (by decide) (by decide +kernel) rfl dX1_readWord_37 ?_
          refine lv_iconst (v := nI 1) hx hb dX1_readWord_40 (by decide) ?_
          refine kn_add hx hb dX1_readWord_41 ?_
          refine kx_put hx hb hts hinX1 tyX1_ok nmX1 hown hK hWto rfl hS ⟨by omega, by omega⟩ 4 (by decide) (by decide +kernel) rfl rfl rfl (Nat.le_of_ble_eq_true rfl) dX1_readWord_42 (fun H locs hc hU hS => ?_)
          have hWto : va_at D vwCl (tq, .inr (0, [.ref (tq + 1), .ref (tq + 2), .ref (wd), .int (nI (ln)), .int (nI (pa + i + 1)), .int (ft)])) H := hc
          have hWtb := hWtb.kept (hU.2 _ (by omega))
          have hWtn := hWtn.kept (hU.2 _ (by omega))
          clear hc hU
          have hWto : va_at D vwCl (tq, .inr (0, [.ref (tq + 1), .ref (tq + 2), .ref (wd), .int (nI (ln)), .int (nI (pa + (i + 1))), .int (ft)])) H := by rw [show (pa + (i + 1)) = (pa + i + 1) from rfl]; exact hWto
          refine lv_goto (tgt := 5) hx hb dX1_readWord_45 (by decide) ?_
          exact ih5 (i + 1) _ _ _ (by omega) (by omega) (fun j hj => by rcases Nat.lt_succ_iff_lt_or_eq.mp hj with q | q; exact hsm j q; subst q; rw [bt_lt hlt]; exact hlet) hWtb hWtn hWto hS (lv_sub hl [0, 1] rfl)
  exact J5 _ 0 _ _ _ (Nat.lt_succ_self _) (by omega) (fun j hj => absurd hj (Nat.not_lt_zero j)) hWtb hWtn hWto hS (lv_sub hl [1, 0] rfl)
