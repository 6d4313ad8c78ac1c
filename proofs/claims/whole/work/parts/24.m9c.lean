set_option maxHeartbeats 500000 in
set_option maxRecDepth 100000 in
theorem k_X8_copiedIn (l : Launch) (D : va_G) (cs : Nat → ClassId) (a : Nat) (z : Nat → Int32) (x : Int32) (hZ : InvZ z) : Met l yX8_copiedIn wsX8_copiedIn ({ frames := 6, cells := 0, slots := 0, locals := 140 } : Room) (PcK D cs [.ref (a), .int (x)] (fun H => MdC D (cs 0) a z H)) (QcM (some (.int (if mwN z x = 0 then ciI z (nn x) else nI 0))) (fun H => MdC D (cs 0) a (if mwN z x = 0 then cpZ (psF (kpt z) (ciK z (nn x))) 704 0 else upd z 4403 (nI (mwN z x))) H) (rgM a)) 0 0 ((rgM a)) := by
  refine kx_met (cc := cX8_copiedIn) (maxL := 4) (ret := (some .int)) (by decide) rfl (Nat.le_of_ble_eq_true rfl) ?_
  intro p e s m args below meth c hx hb hml hrt hts hown hlk hK hN hP ls hl
  have hl : lv_has ls 4 [(0, .ref (a)), (1, .int (x))] := hl
  obtain ⟨H, hHe⟩ : ∃ H : Heap, H = s.heap := ⟨_, rfl⟩
  rw [← hHe] at hP ⊢
  have hS : va_S ((rgM a)) s.heap H [] := by rw [← hHe]; exact va_S.rf
  have hinX8 : ∀ w ∈ wsX80, w ∈ wsX8_copiedIn := by decide +kernel
  have hM := hP
  have hI := hZ.1
  refine lv_aload_n hx hb dX8_copiedIn_0 rfl (lv_at hl 0 rfl) ?_
  refine lv_aload_n hx hb dX8_copiedIn_1 rfl (lv_at hl 0 rfl) ?_
  refine lv_iload_n hx hb dX8_copiedIn_2 rfl (lv_at hl 1 rfl) ?_
  refine kx_retP (va_runV (As := [.int (x)]) (rest := [.ref (a)]) ⟨hx, hb, hml, hown, hts⟩ (k_X8_isMove l D cs a z x hI) (cwV 1 hts gX8_copiedIn_X8_isMove rfl rfl rfl (by decide +kernel) ⟨Nat.le_of_ble_eq_true rfl, Nat.le_of_ble_eq_true rfl⟩) (kx_preV hK hN hM.1 rfl hM) rfl rfl hl.1 rfl (lv_room (Nat.le_of_ble_eq_true rfl)) dX8_copiedIn_3 ⟨Nat.le_of_ble_eq_true rfl, Nat.le_of_ble_eq_true rfl⟩) ?_
  refine kb_if_eq (tgt := 13) hx hb dX8_copiedIn_6 (by decide) (fun c_1 => ?_) (fun c_1 => ?_)
  · refine lv_iconst (v := nI 1) hx hb dX8_copiedIn_13 (by decide) ?_
    refine kx_ci (x := nI (1)) (y := nI (mwN z x)) (congrArg nI (by first | (simp [mwN, *]; done) | (exfalso; omega) | (exfalso; simp_all; done))) ?_
    refine kx_put hx hb hts hinX8 tyX8_ok nmX8 hown hK hM.1 rfl hS ⟨by omega, by omega⟩ 0 (by decide) (by decide +kernel) rfl rfl rfl (Nat.le_of_ble_eq_true rfl) dX8_copiedIn_14 (fun H locs hc hU hS => ?_)
    have hM := hM.put_thrown hc hU
    clear hc hU
    refine lv_aload_n hx hb dX8_copiedIn_17 rfl (lv_at hl 0 rfl) ?_
    refine kx_get (v := .int ((upd z 4403 (nI (mwN z x))) 4403)) hx hb hts hinX8 hown hK hM.1 rfl 0 (by decide) (by decide +kernel) rfl dX8_copiedIn_18 ?_
    refine kx_ci (y := nI (mwN z x)) pk_us ?_
    refine kn_if_le (tgt := 26) hx hb dX8_copiedIn_21 (by decide) (lt31 (mwN_2 _ _)) (fun hw0 => ?_) (fun hw0 => ?_)
    · rw [hw0] at hM
      obtain ⟨q, hq, rfl⟩ := mwN_0 hI hw0
      have hnq : nn (nI q) = q := nn_nI (by have := hI.M24; omega)
      have hkI := kpt_inv hI
      have hkM : Mn (kpt z) = Mn z := acc_eq 4 (kpt_lo z (by omega))
      have hq24 : q < 24 := by have := hI.M24; omega
      refine lv_aload_n hx hb dX8_copiedIn_26 rfl (lv_at hl 0 rfl) ?_
      refine kx_get (v := .ref (a + 1)) hx hb hts hinX8 hown hK hM.1 rfl 1 (by decide) (by decide +kernel) rfl dX8_copiedIn_27 ?_
      refine lv_iconst (v := nI 0) hx hb dX8_copiedIn_30 (by decide) ?_
      refine lv_aload_n hx hb dX8_copiedIn_31 rfl (lv_at hl 0 rfl) ?_
      refine kx_get (v := .ref (a + 2)) hx hb hts hinX8 hown hK hM.1 rfl 2 (by decide) (by decide +kernel) rfl dX8_copiedIn_32 ?_
      refine lv_iconst (v := nI 0) hx hb dX8_copiedIn_35 (by decide) ?_
      refine kx_retM (va_runS (As := [.ref (a + 1), .int (nI (0)), .ref (a + 2), .int (nI (0))]) (rest := []) ⟨hx, hb, hml, hown, hts⟩ (k_X8_copy l D cs (a + 1) (a + 2) 704 704 0 0 (fun j => (t0 z) j) (fun j => (t0 z) (704 + j)) (by omega) (by omega) (by omega) (by decide) (by decide)) (cwS 4 hts gX8_copiedIn_X8_copy rfl rfl rfl (by decide +kernel) ⟨Nat.le_of_ble_eq_true rfl, Nat.le_of_ble_eq_true rfl⟩) (kx_preS hK hN ⟨hM.state, hM.kept⟩) rfl rfl hl.1 rfl (lv_room (Nat.le_of_ble_eq_true rfl)) dX8_copiedIn_36 ⟨Nat.le_of_ble_eq_true rfl, Nat.le_of_ble_eq_true rfl⟩) hS (fun q h1 (h : q = a + 2) => by subst h; exact ⟨by omega, by omega⟩) (fun q (h : q = a + 2) => by subst h; exact ⟨by omega, by omega⟩) (fun H locs hc hk hS => ?_)
      have hM := hM.cp_kept (src := 0) (F := (fun j => (t0 z) j)) (fun j hj => congrArg (t0 z) (by omega)) hc (fun q h1 h2 h3 => hk.2 q (hM.lt q h1 h2) h3)
      clear hc hk
      have hM : MdC D (cs 0) a (kpt z) H := hM
      refine lv_iconst (v := nI 0) hx hb dX8_copiedIn_39 (by decide) ?_
      refine lv_istore_n (lv' := [(2, .int (nI (0))), (0, .ref (a)), (1, .int (nI (q)))]) hx hb dX8_copiedIn_40 rfl hl (by decide) rfl (fun ls hl => ?_)
      have J41 : ∀ (fu41 : Nat) (k : Nat) (H : Heap) (locs : List Loc) (ls : Array Slot), (300 - k) < fu41 → (k ≤ 300) → (∀ j, j < k → ciP z q j = false) → (MdC D (cs 0) a (psF (kpt z) k) H) → va_S ((rgM a)) s.heap H locs → lv_has ls 4 [(0, .ref (a)), (1, .int (nI (q))), (2, .int (nI (k)))] → W p l e ({ frames := 6, cells := 0, slots := 0, locals := 140 } : Room) s m args below meth c H locs 0 0 (MQ below (QcM (some (.int (if mwN z (nI q) = 0 then ciI z (nn (nI q)) else nI 0))) (fun H => MdC D (cs 0) a (if mwN z (nI q) = 0 then cpZ (psF (kpt z) (ciK z (nn (nI q)))) 704 0 else upd z 4403 (nI (mwN z (nI q)))) H) (rgM a)) args s 0 0 ((rgM a))) (F0 m 41 ls []) := by
        intro fu41; induction fu41 with
        | zero => intro k H locs ls hmu41 hk hno hM hS hl; exact absurd hmu41 (Nat.not_lt_zero _)
        | succ fu41 ih41 =>
          intro k H locs ls hmu41 hk hno hM hS hl
          have hy := psF_si hkI k
          have hyM := hy.1.M
          have hs3 := hy.2.s3 (m := q) (by omega)
          refine lv_iload_n hx hb dX8_copiedIn_41 rfl (lv_at hl 2 rfl) ?_
          refine lv_sipush (v := nI 300) hx hb dX8_copiedIn_42 (by decide) ?_
          refine kn_icmp_ge (tgt := 69) hx hb dX8_copiedIn_45 (by decide) (by omega) (by decide) (fun c_2 => ?_) (fun c_2 => ?_)
          · have hke : ciK z q = k := ci_is hno (by first | exact Or.inl (by omega) | exact Or.inr (by simp [ciP]; omega)) hk
            refine lv_aload_n hx hb dX8_copiedIn_69 rfl (lv_at hl 0 rfl) ?_
            refine lv_iload_n hx hb dX8_copiedIn_70 rfl (lv_at hl 1 rfl) ?_
            refine lv_iconst (v := nI 5) hx hb dX8_copiedIn_71 (by decide) ?_
            refine kx_retP (va_runV (As := [.int (nI (q)), .int (nI (5))]) (rest := []) ⟨hx, hb, hml, hown, hts⟩ (k_X8_movePart l D cs a (psF (kpt z) k) q 5 (by first | assumption | omega) (by first | assumption | omega)) (cwV 2 hts gX8_copiedIn_X8_movePart rfl rfl rfl (by decide +kernel) ⟨Nat.le_of_ble_eq_true rfl, Nat.le_of_ble_eq_true rfl⟩) (kx_preV hK hN hM.1 rfl hM) rfl rfl hl.1 rfl (lv_room (Nat.le_of_ble_eq_true rfl)) dX8_copiedIn_72 ⟨Nat.le_of_ble_eq_true rfl, Nat.le_of_ble_eq_true rfl⟩) ?_
            refine kx_ci (y := nI (mS (psF (kpt z) k) q)) (Inv.m5 hy.2 (by first | assumption | omega)) ?_
            refine lv_iconst (v := nI 2) hx hb dX8_copiedIn_75 (by decide) ?_
            refine kn_icmp_ge (tgt := 85) hx hb dX8_copiedIn_76 (by decide) (by omega) (by decide) (fun hfin => ?_) (fun hfin => ?_)
            · refine lv_iload_n hx hb dX8_copiedIn_85 rfl (lv_at hl 2 rfl) ?_
              refine kx_ci (x := nI (k)) (y := ciI z q) (by unfold ciI; rw [hke]; first | rw [if_pos (by omega)] | rw [if_neg (by omega)]) ?_
              refine lv_istore_n (lv' := [(3, .int (ciI z q)), (0, .ref (a)), (1, .int (nI (q))), (2, .int (nI (k)))]) hx hb dX8_copiedIn_86 rfl hl (by decide) rfl (fun ls hl => ?_)
              refine lv_aload_n hx hb dX8_copiedIn_87 rfl (lv_at hl 1 rfl) ?_
              refine kx_get (v := .ref (a + 2)) hx hb hts hinX8 hown hK hM.1 rfl 2 (by decide) (by decide +kernel) rfl dX8_copiedIn_88 ?_
              refine lv_iconst (v := nI 0) hx hb dX8_copiedIn_91 (by decide) ?_
              refine lv_aload_n hx hb dX8_copiedIn_92 rfl (lv_at hl 1 rfl) ?_
              refine kx_get (v := .ref (a + 1)) hx hb hts hinX8 hown hK hM.1 rfl 1 (by decide) (by decide +kernel) rfl dX8_copiedIn_93 ?_
              refine lv_iconst (v := nI 0) hx hb dX8_copiedIn_96 (by decide) ?_
              refine kx_retM (va_runS (As := [.ref (a + 2), .int (nI (0)), .ref (a + 1), .int (nI (0))]) (rest := []) ⟨hx, hb, hml, hown, hts⟩ (k_X8_copy l D cs (a + 2) (a + 1) 704 704 0 0 (fun j => (psF (kpt z) k) (704 + j)) (fun j => (psF (kpt z) k) j) (by omega) (by omega) (by omega) (by decide) (by decide)) (cwS 4 hts gX8_copiedIn_X8_copy rfl rfl rfl (by decide +kernel) ⟨Nat.le_of_ble_eq_true rfl, Nat.le_of_ble_eq_true rfl⟩) (kx_preS hK hN ⟨hM.kept, hM.state⟩) rfl rfl hl.1 rfl (lv_room (Nat.le_of_ble_eq_true rfl)) dX8_copiedIn_97 ⟨Nat.le_of_ble_eq_true rfl, Nat.le_of_ble_eq_true rfl⟩) hS (fun q h1 (h : q = a + 1) => by subst h; exact ⟨by omega, by omega⟩) (fun q (h : q = a + 1) => by subst h; exact ⟨by omega, by omega⟩) (fun H locs hc hk hS => ?_)
              have hM := hM.cp_state (sp := 0) (src := 704) (F := (fun j => (psF (kpt z) k) (704 + j))) (fun j hj => congrArg (psF (kpt z) k) (by omega)) hc (fun q h1 h2 h3 => hk.2 q (hM.lt q h1 h2) h3)
              clear hc hk
              refine lv_iload_n hx hb dX8_copiedIn_100 rfl (lv_at hl 0 rfl) ?_
              exact kx_iretM hx hb hrt hlk (by rw [if_pos hw0, hnq]) (by rw [if_pos hw0, hnq, hke]; exact hM) hS dX8_copiedIn_101
            · refine lv_sipush (v := -1000) hx hb dX8_copiedIn_79 (by decide) ?_
              refine lv_goto (tgt := 86) hx hb dX8_copiedIn_82 (by decide) ?_
              refine kx_ci (x := (-1000)) (y := ciI z q) (by unfold ciI; rw [hke]; first | rw [if_pos (by omega)] | rw [if_neg (by omega)]) ?_
              refine lv_istore_n (lv' := [(3, .int (ciI z q)), (0, .ref (a)), (1, .int (nI (q))), (2, .int (nI (k)))]) hx hb dX8_copiedIn_86 rfl hl (by decide) rfl (fun ls hl => ?_)
              refine lv_aload_n hx hb dX8_copiedIn_87 rfl (lv_at hl 1 rfl) ?_
              refine kx_get (v := .ref (a + 2)) hx hb hts hinX8 hown hK hM.1 rfl 2 (by decide) (by decide +kernel) rfl dX8_copiedIn_88 ?_
              refine lv_iconst (v := nI 0) hx hb dX8_copiedIn_91 (by decide) ?_
              refine lv_aload_n hx hb dX8_copiedIn_92 rfl (lv_at hl 1 rfl) ?_
              refine kx_get (v := .ref (a + 1)) hx hb hts hinX8 hown hK hM.1 rfl 1 (by decide) (by decide +kernel) rfl dX8_copiedIn_93 ?_
              refine lv_iconst (v := nI 0) hx hb dX8_copiedIn_96 (by decide) ?_
              refine kx_retM (va_runS (As := [.ref (a + 2), .int (nI (0)), .ref (a + 1), .int (nI (0))]) (rest := []) ⟨hx, hb, hml, hown, hts⟩ (k_X8_copy l D cs (a + 2) (a + 1) 704 704 0 0 (fun j => (psF (kpt z) k) (704 + j)) (fun j => (psF (kpt z) k) j) (by omega) (by omega) (by omega) (by decide) (by decide)) (cwS 4 hts gX8_copiedIn_X8_copy rfl rfl rfl (by decide +kernel) ⟨Nat.le_of_ble_eq_true rfl, Nat.le_of_ble_eq_true rfl⟩) (kx_preS hK hN ⟨hM.kept, hM.state⟩) rfl rfl hl.1 rfl (lv_room (Nat.le_of_ble_eq_true rfl)) dX8_copiedIn_97 ⟨Nat.le_of_ble_eq_true rfl, Nat.le_of_ble_eq_true rfl⟩) hS (fun q h1 (h : q = a + 1) => by subst h; exact ⟨by omega, by omega⟩) (fun q (h : q = a + 1) => by subst h; exact ⟨by omega, by omega⟩) (fun H locs hc hk hS => ?_)
              have hM := hM.cp_state (sp := 0) (src := 704) (F := (fun j => (psF (kpt z) k) (704 + j))) (fun j hj => congrArg (psF (kpt z) k) (by omega)) hc (fun q h1 h2 h3 => hk.2 q (hM.lt q h1 h2) h3)
              clear hc hk
              refine lv_iload_n hx hb dX8_copiedIn_100 rfl (lv_at hl 0 rfl) ?_
              exact kx_iretM hx hb hrt hlk (by rw [if_pos hw0, hnq]) (by rw [if_pos hw0, hnq, hke]; exact hM) hS dX8_copiedIn_101
          · refine lv_aload_n hx hb dX8_copiedIn_48 rfl (lv_at hl 0 rfl) ?_
            refine lv_iload_n hx hb dX8_copiedIn_49 rfl (lv_at hl 1 rfl) ?_
            refine lv_iconst (v := nI 5) hx hb dX8_copiedIn_50 (by decide) ?_
            refine kx_retP (va_runV (As := [.int (nI (q)), .int (nI (5))]) (rest := []) ⟨hx, hb, hml, hown, hts⟩ (k_X8_movePart l D cs a (psF (kpt z) k) q 5 (by first | assumption | omega) (by first | assumption | omega)) (cwV 2 hts gX8_copiedIn_X8_movePart rfl rfl rfl (by decide +kernel) ⟨Nat.le_of_ble_eq_true rfl, Nat.le_of_ble_eq_true rfl⟩) (kx_preV hK hN hM.1 rfl hM) rfl rfl hl.1 rfl (lv_room (Nat.le_of_ble_eq_true rfl)) dX8_copiedIn_51 ⟨Nat.le_of_ble_eq_true rfl, Nat.le_of_ble_eq_true rfl⟩) ?_
            refine kx_ci (y := nI (mS (psF (kpt z) k) q)) (Inv.m5 hy.2 (by first | assumption | omega)) ?_
            refine lv_iconst (v := nI 2) hx hb dX8_copiedIn_54 (by decide) ?_
            refine kn_icmp_ge (tgt := 69) hx hb dX8_copiedIn_55 (by decide) (by omega) (by decide) (fun hph => ?_) (fun hph => ?_)
            · have hke : ciK z q = k := ci_is hno (by first | exact Or.inl (by omega) | exact Or.inr (by simp [ciP]; omega)) hk
              refine lv_aload_n hx hb dX8_copiedIn_69 rfl (lv_at hl 0 rfl) ?_
              refine lv_iload_n hx hb dX8_copiedIn_70 rfl (lv_at hl 1 rfl) ?_
              refine lv_iconst (v := nI 5) hx hb dX8_copiedIn_71 (by decide) ?_
              refine kx_retP (va_runV (As := [.int (nI (q)), .int (nI (5))]) (rest := []) ⟨hx, hb, hml, hown, hts⟩ (k_X8_movePart l D cs a (psF (kpt z) k) q 5 (by first | assumption | omega) (by first | assumption | omega)) (cwV 2 hts gX8_copiedIn_X8_movePart rfl rfl rfl (by decide +kernel) ⟨Nat.le_of_ble_eq_true rfl, Nat.le_of_ble_eq_true rfl⟩) (kx_preV hK hN hM.1 rfl hM) rfl rfl hl.1 rfl (lv_room (Nat.le_of_ble_eq_true rfl)) dX8_copiedIn_72 ⟨Nat.le_of_ble_eq_true rfl, Nat.le_of_ble_eq_true rfl⟩) ?_
              refine kx_ci (y := nI (mS (psF (kpt z) k) q)) (Inv.m5 hy.2 (by first | assumption | omega)) ?_
              refine lv_iconst (v := nI 2) hx hb dX8_copiedIn_75 (by decide) ?_
              refine kn_icmp_ge (tgt := 85) hx hb dX8_copiedIn_76 (by decide) (by omega) (by decide) (fun hfin => ?_) (fun hfin => ?_)
              · refine lv_iload_n hx hb dX8_copiedIn_85 rfl (lv_at hl 2 rfl) ?_
                refine kx_ci (x := nI (k)) (y := ciI z q) (by unfold ciI; rw [hke]; first | rw [if_pos (by omega)] | rw [if_neg (by omega)]) ?_
                refine lv_istore_n (lv' := [(3, .int (ciI z q)), (0, .ref (a)), (1, .int (nI (q))), (2, .int (nI (k)))]) hx hb dX8_copiedIn_86 rfl hl (by decide) rfl (fun ls hl => ?_)
                refine lv_aload_n hx hb dX8_copiedIn_87 rfl (lv_at hl 1 rfl) ?_
                refine kx_get (v := .ref (a + 2)) hx hb hts hinX8 hown hK hM.1 rfl 2 (by decide) (by decide +kernel) rfl dX8_copiedIn_88 ?_
                refine lv_iconst (v := nI 0) hx hb dX8_copiedIn_91 (by decide) ?_
                refine lv_aload_n hx hb dX8_copiedIn_92 rfl (lv_at hl 1 rfl) ?_
                refine kx_get (v := .ref (a + 1)) hx hb hts hinX8 hown hK hM.1 rfl 1 (by decide) (by decide +kernel) rfl dX8_copiedIn_93 ?_
                refine lv_iconst (v := nI 0) hx hb dX8_copiedIn_96 (by decide) ?_
                refine kx_retM (va_runS (As := [.ref (a + 2), .int (nI (0)), .ref (a + 1), .int (nI (0))]) (rest := []) ⟨hx, hb, hml, hown, hts⟩ (k_X8_copy l D cs (a + 2) (a + 1) 704 704 0 0 (fun j => (psF (kpt z) k) (704 + j)) (fun j => (psF (kpt z) k) j) (by omega) (by omega) (by omega) (by decide) (by decide)) (cwS 4 hts gX8_copiedIn_X8_copy rfl rfl rfl (by decide +kernel) ⟨Nat.le_of_ble_eq_true rfl, Nat.le_of_ble_eq_true rfl⟩) (kx_preS hK hN ⟨hM.kept, hM.state⟩) rfl rfl hl.1 rfl (lv_room (Nat.le_of_ble_eq_true rfl)) dX8_copiedIn_97 ⟨Nat.le_of_ble_eq_true rfl, Nat.le_of_ble_eq_true rfl⟩) hS (fun q h1 (h : q = a + 1) => by subst h; exact ⟨by omega, by omega⟩) (fun q (h : q = a + 1) => by subst h; exact ⟨by omega, by omega⟩) (fun H locs hc hk hS => ?_)
                have hM := hM.cp_state (sp := 0) (src := 704) (F := (fun j => (psF (kpt z) k) (704 + j))) (fun j hj => congrArg (psF (kpt z) k) (by omega)) hc (fun q h1 h2 h3 => hk.2 q (hM.lt q h1 h2) h3)
                clear hc hk
                refine lv_iload_n hx hb dX8_copiedIn_100 rfl (lv_at hl 0 rfl) ?_
                exact kx_iretM hx hb hrt hlk (by rw [if_pos hw0, hnq]) (by rw [if_pos hw0, hnq, hke]; exact hM) hS dX8_copiedIn_101
              · refine lv_sipush (v := -1000) hx hb dX8_copiedIn_79 (by decide) ?_
                refine lv_goto (tgt := 86) hx hb dX8_copiedIn_82 (by decide) ?_
                refine kx_ci (x := (-1000)) (y := ciI z q) (by unfold ciI; rw [hke]; first | rw [if_pos (by omega)] | rw [if_neg (by omega)]) ?_
                refine lv_istore_n (lv' := [(3, .int (ciI z q)), (0, .ref (a)), (1, .int (nI (q))), (2, .int (nI (k)))]) hx hb dX8_copiedIn_86 rfl hl (by decide) rfl (fun ls hl => ?_)
                refine lv_aload_n hx hb dX8_copiedIn_87 rfl (lv_at hl 1 rfl) ?_
                refine kx_get (v := .ref (a + 2)) hx hb hts hinX8 hown hK hM.1 rfl 2 (by decide) (by decide +kernel) rfl dX8_copiedIn_88 ?_
                refine lv_iconst (v := nI 0) hx hb dX8_copiedIn_91 (by decide) ?_
                refine lv_aload_n hx hb dX8_copiedIn_92 rfl (lv_at hl 1 rfl) ?_
                refine kx_get (v := .ref (a + 1)) hx hb hts hinX8 hown hK hM.1 rfl 1 (by decide) (by decide +kernel) rfl dX8_copiedIn_93 ?_
                refine lv_iconst (v := nI 0) hx hb dX8_copiedIn_96 (by decide) ?_
                refine kx_retM (va_runS (As := [.ref (a + 2), .int (nI (0)), .ref (a + 1), .int (nI (0))]) (rest := []) ⟨hx, hb, hml, hown, hts⟩ (k_X8_copy l D cs (a + 2) (a + 1) 704 704 0 0 (fun j => (psF (kpt z) k) (704 + j)) (fun j => (psF (kpt z) k) j) (by omega) (by omega) (by omega) (by decide) (by decide)) (cwS 4 hts gX8_copiedIn_X8_copy rfl rfl rfl (by decide +kernel) ⟨Nat.le_of_ble_eq_true rfl, Nat.le_of_ble_eq_true rfl⟩) (kx_preS hK hN ⟨hM.kept, hM.state⟩) rfl rfl hl.1 rfl (lv_room (Nat.le_of_ble_eq_true rfl)) dX8_copiedIn_97 ⟨Nat.le_of_ble_eq_true rfl, Nat.le_of_ble_eq_true rfl⟩) hS (fun q h1 (h : q = a + 1) => by subst h; exact ⟨by omega, by omega⟩) (fun q (h : q = a + 1) => by subst h; exact ⟨by omega, by omega⟩) (fun H locs hc hk hS => ?_)
                have hM := hM.cp_state (sp := 0) (src := 704) (F := (fun j => (psF (kpt z) k) (704 + j))) (fun j hj => congrArg (psF (kpt z) k) (by omega)) hc (fun q h1 h2 h3 => hk.2 q (hM.lt q h1 h2) h3)
                clear hc hk
                refine lv_iload_n hx hb dX8_copiedIn_100 rfl (lv_at hl 0 rfl) ?_
                exact kx_iretM hx hb hrt hlk (by rw [if_pos hw0, hnq]) (by rw [if_pos hw0, hnq, hke]; exact hM) hS dX8_copiedIn_101
            · refine lv_aload_n hx hb dX8_copiedIn_58 rfl (lv_at hl 0 rfl) ?_
              refine kx_retM (va_runV (As := []) (rest := []) ⟨hx, hb, hml, hown, hts⟩ (k_X8_tick l D cs a (psF (kpt z) k) hy.2) (cwV 0 hts gX8_copiedIn_X8_tick rfl rfl rfl (by decide +kernel) ⟨Nat.le_of_ble_eq_true rfl, Nat.le_of_ble_eq_true rfl⟩) (kx_preV hK hN hM.1 rfl hM) rfl rfl hl.1 rfl (lv_room (Nat.le_of_ble_eq_true rfl)) dX8_copiedIn_59 ⟨Nat.le_of_ble_eq_true rfl, Nat.le_of_ble_eq_true rfl⟩) hS (fun q _ h => h) (fun q h => h) (fun H locs hM hk hS => ?_)
              clear hk
              have hM : MdC D (cs 0) a (psF (kpt z) (k + 1)) H := hM
              refine lv_pop hx hb dX8_copiedIn_62 rfl ?_
              refine lv_iinc (v := nI (k + 1)) (lv' := [(2, .int (nI (k + 1))), (0, .ref (a)), (1, .int (nI (q)))]) (k := 2) hx hb dX8_copiedIn_63 hl rfl (nI_add _ _) (by decide) rfl (fun ls hl => ?_)
              refine lv_goto (tgt := 41) hx hb dX8_copiedIn_66 (by decide) ?_
              exact ih41 (k + 1) _ _ _ (by omega) (by omega) (no_s hno (by simp [ciP]; omega)) hM hS (lv_sub hl [1, 2, 0] rfl)
      exact J41 _ 0 _ _ _ (Nat.lt_succ_self _) (by omega) (fun j hj => absurd hj (Nat.not_lt_zero j)) (by rw [psF_0]; exact hM) hS (lv_sub hl [1, 2, 0] rfl)
    · refine lv_iconst (v := nI 0) hx hb dX8_copiedIn_24 (by decide) ?_
      exact kx_iretM hx hb hrt hlk (by rw [if_neg hw0]) (by rw [if_neg hw0]; exact hM) hS dX8_copiedIn_25
  · refine lv_iconst (v := nI 0) hx hb dX8_copiedIn_9 (by decide) ?_
    refine lv_goto (tgt := 14) hx hb dX8_copiedIn_10 (by decide) ?_
    refine kx_ci (x := nI (0)) (y := nI (mwN z x)) (congrArg nI (by first | (simp [mwN, *]; done) | (exfalso; omega) | (exfalso; simp_all; done))) ?_
    refine kx_put hx hb hts hinX8 tyX8_ok nmX8 hown hK hM.1 rfl hS ⟨by omega, by omega⟩ 0 (by decide) (by decide +kernel) rfl rfl rfl (Nat.le_of_ble_eq_true rfl) dX8_copiedIn_14 (fun H locs hc hU hS => ?_)
    have hM := hM.put_thrown hc hU
    clear hc hU
    refine lv_aload_n hx hb dX8_copiedIn_17 rfl (lv_at hl 0 rfl) ?_
    refine kx_get (v := .int ((upd z 4403 (nI (mwN z x))) 4403)) hx hb hts hinX8 hown hK hM.1 rfl 0 (by decide) (by decide +kernel) rfl dX8_copiedIn_18 ?_
    refine kx_ci (y := nI (mwN z x)) pk_us ?_
    refine kn_if_le (tgt := 26) hx hb dX8_copiedIn_21 (by decide) (lt31 (mwN_2 _ _)) (fun hw0 => ?_) (fun hw0 => ?_)
    · rw [hw0] at hM
      obtain ⟨q, hq, rfl⟩ := mwN_0 hI hw0
      have hnq : nn (nI q) = q := nn_nI (by have := hI.M24; omega)
      have hkI := kpt_inv hI
      have hkM : Mn (kpt z) = Mn z := acc_eq 4 (kpt_lo z (by omega))
      have hq24 : q < 24 := by have := hI.M24; omega
      refine lv_aload_n hx hb dX8_copiedIn_26 rfl (lv_at hl 0 rfl) ?_
      refine kx_get (v := .ref (a + 1)) hx hb hts hinX8 hown hK hM.1 rfl 1 (by decide) (by decide +kernel) rfl dX8_copiedIn_27 ?_
      refine lv_iconst (v := nI 0) hx hb dX8_copiedIn_30 (by decide) ?_
      refine lv_aload_n hx hb dX8_copiedIn_31 rfl (lv_at hl 0 rfl) ?_
      refine kx_get (v := .ref (a + 2)) hx hb hts hinX8 hown hK hM.1 rfl 2 (by decide) (by decide +kernel) rfl dX8_copiedIn_32 ?_
      refine lv_iconst (v := nI 0) hx hb dX8_copiedIn_35 (by decide) ?_
      refine kx_retM (va_runS (As := [.ref (a + 1), .int (nI (0)), .ref (a + 2), .int (nI (0))]) (rest := []) ⟨hx, hb, hml, hown, hts⟩ (k_X8_copy l D cs (a + 1) (a + 2) 704 704 0 0 (fun j => (t0 z) j) (fun j => (t0 z) (704 + j)) (by omega) (by omega) (by omega) (by decide) (by decide)) (cwS 4 hts gX8_copiedIn_X8_copy rfl rfl rfl (by decide +kernel) ⟨Nat.le_of_ble_eq_true rfl, Nat.le_of_ble_eq_true rfl⟩) (kx_preS hK hN ⟨hM.state, hM.kept⟩) rfl rfl hl.1 rfl (lv_room (Nat.le_of_ble_eq_true rfl)) dX8_copiedIn_36 ⟨Nat.le_of_ble_eq_true rfl, Nat.le_of_ble_eq_true rfl⟩) hS (fun q h1 (h : q = a + 2) => by subst h; exact ⟨by omega, by omega⟩) (fun q (h : q = a + 2) => by subst h; exact ⟨by omega, by omega⟩) (fun H locs hc hk hS => ?_)
      have hM := hM.cp_kept (src := 0) (F := (fun j => (t0 z) j)) (fun j hj => congrArg (t0 z) (by omega)) hc (fun q h1 h2 h3 => hk.2 q (hM.lt q h1 h2) h3)
      clear hc hk
      have hM : MdC D (cs 0) a (kpt z) H := hM
      refine lv_iconst (v := nI 0) hx hb dX8_copiedIn_39 (by decide) ?_
      refine lv_istore_n (lv' := [(2, .int (nI (0))), (0, .ref (a)), (1, .int (nI (q)))]) hx hb dX8_copiedIn_40 rfl hl (by decide) rfl (fun ls hl => ?_)
      have J41 : ∀ (fu41 : Nat) (k : Nat) (H : Heap) (locs : List Loc) (ls : Array Slot), (300 - k) < fu41 → (k ≤ 300) → (∀ j, j < k → ciP z q j = false) → (MdC D (cs 0) a (psF (kpt z) k) H) → va_S ((rgM a)) s.heap H locs → lv_has ls 4 [(0, .ref (a)), (1, .int (nI (q))), (2, .int (nI (k)))] → W p l e ({ frames := 6, cells := 0, slots := 0, locals := 140 } : Room) s m args below meth c H locs 0 0 (MQ below (QcM (some (.int (if mwN z (nI q) = 0 then ciI z (nn (nI q)) else nI 0))) (fun H => MdC D (cs 0) a (if mwN z (nI q) = 0 then cpZ (psF (kpt z) (ciK z (nn (nI q)))) 704 0 else upd z 4403 (nI (mwN z (nI q)))) H) (rgM a)) args s 0 0 ((rgM a))) (F0 m 41 ls []) := by
        intro fu41; induction fu41 with
        | zero => intro k H locs ls hmu41 hk hno hM hS hl; exact absurd hmu41 (Nat.not_lt_zero _)
        | succ fu41 ih41 =>
          intro k H locs ls hmu41 hk hno hM hS hl
          have hy := psF_si hkI k
          have hyM := hy.1.M
          have hs3 := hy.2.s3 (m := q) (by omega)
          refine lv_iload_n hx hb dX8_copiedIn_41 rfl (lv_at hl 2 rfl) ?_
          refine lv_sipush (v := nI 300) hx hb dX8_copiedIn_42 (by decide) ?_
          refine kn_icmp_ge (tgt := 69) hx hb dX8_copiedIn_45 (by decide) (by omega) (by decide) (fun c_3 => ?_) (fun c_3 => ?_)
          · have hke : ciK z q = k := ci_is hno (by first | exact Or.inl (by omega) | exact Or.inr (by simp [ciP]; omega)) hk
            refine lv_aload_n hx hb dX8_copiedIn_69 rfl (lv_at hl 0 rfl) ?_
            refine lv_iload_n hx hb dX8_copiedIn_70 rfl (lv_at hl 1 rfl) ?_
            refine lv_iconst (v := nI 5) hx hb dX8_copiedIn_71 (by decide) ?_
            refine kx_retP (va_runV (As := [.int (nI (q)), .int (nI (5))]) (rest := []) ⟨hx, hb, hml, hown, hts⟩ (k_X8_movePart l D cs a (psF (kpt z) k) q 5 (by first | assumption | omega) (by first | assumption | omega)) (cwV 2 hts gX8_copiedIn_X8_movePart rfl rfl rfl (by decide +kernel) ⟨Nat.le_of_ble_eq_true rfl, Nat.le_of_ble_eq_true rfl⟩) (kx_preV hK hN hM.1 rfl hM) rfl rfl hl.1 rfl (lv_room (Nat.le_of_ble_eq_true rfl)) dX8_copiedIn_72 ⟨Nat.le_of_ble_eq_true rfl, Nat.le_of_ble_eq_true rfl⟩) ?_
            refine kx_ci (y := nI (mS (psF (kpt z) k) q)) (Inv.m5 hy.2 (by first | assumption | omega)) ?_
            refine lv_iconst (v := nI 2) hx hb dX8_copiedIn_75 (by decide) ?_
            refine kn_icmp_ge (tgt := 85) hx hb dX8_copiedIn_76 (by decide) (by omega) (by decide) (fun hfin => ?_) (fun hfin => ?_)
            · refine lv_iload_n hx hb dX8_copiedIn_85 rfl (lv_at hl 2 rfl) ?_
              refine kx_ci (x := nI (k)) (y := ciI z q) (by unfold ciI; rw [hke]; first | rw [if_pos (by omega)] | rw [if_neg (by omega)]) ?_
              refine lv_istore_n (lv' := [(3, .int (ciI z q)), (0, .ref (a)), (1, .int (nI (q))), (2, .int (nI (k)))]) hx hb dX8_copiedIn_86 rfl hl (by decide) rfl (fun ls hl => ?_)
              refine lv_aload_n hx hb dX8_copiedIn_87 rfl (lv_at hl 1 rfl) ?_
              refine kx_get (v := .ref (a + 2)) hx hb hts hinX8 hown hK hM.1 rfl 2 (by decide) (by decide +kernel) rfl dX8_copiedIn_88 ?_
              refine lv_iconst (v := nI 0) hx hb dX8_copiedIn_91 (by decide) ?_
              refine lv_aload_n hx hb dX8_copiedIn_92 rfl (lv_at hl 1 rfl) ?_
              refine kx_get (v := .ref (a + 1)) hx hb hts hinX8 hown hK hM.1 rfl 1 (by decide) (by decide +kernel) rfl dX8_copiedIn_93 ?_
              refine lv_iconst (v := nI 0) hx hb dX8_copiedIn_96 (by decide) ?_
              refine kx_retM (va_runS (As := [.ref (a + 2), .int (nI (0)), .ref (a + 1), .int (nI (0))]) (rest := []) ⟨hx, hb, hml, hown, hts⟩ (k_X8_copy l D cs (a + 2) (a + 1) 704 704 0 0 (fun j => (psF (kpt z) k) (704 + j)) (fun j => (psF (kpt z) k) j) (by omega) (by omega) (by omega) (by decide) (by decide)) (cwS 4 hts gX8_copiedIn_X8_copy rfl rfl rfl (by decide +kernel) ⟨Nat.le_of_ble_eq_true rfl, Nat.le_of_ble_eq_true rfl⟩) (kx_preS hK hN ⟨hM.kept, hM.state⟩) rfl rfl hl.1 rfl (lv_room (Nat.le_of_ble_eq_true rfl)) dX8_copiedIn_97 ⟨Nat.le_of_ble_eq_true rfl, Nat.le_of_ble_eq_true rfl⟩) hS (fun q h1 (h : q = a + 1) => by subst h; exact ⟨by omega, by omega⟩) (fun q (h : q = a + 1) => by subst h; exact ⟨by omega, by omega⟩) (fun H locs hc hk hS => ?_)
              have hM := hM.cp_state (sp := 0) (src := 704) (F := (fun j => (psF (kpt z) k) (704 + j))) (fun j hj => congrArg (psF (kpt z) k) (by omega)) hc (fun q h1 h2 h3 => hk.2 q (hM.lt q h1 h2) h3)
              clear hc hk
              refine lv_iload_n hx hb dX8_copiedIn_100 rfl (lv_at hl 0 rfl) ?_
              exact kx_iretM hx hb hrt hlk (by rw [if_pos hw0, hnq]) (by rw [if_pos hw0, hnq, hke]; exact hM) hS dX8_copiedIn_101
            · refine lv_sipush (v := -1000) hx hb dX8_copiedIn_79 (by decide) ?_
              refine lv_goto (tgt := 86) hx hb dX8_copiedIn_82 (by decide) ?_
              refine kx_ci (x := (-1000)) (y := ciI z q) (by unfold ciI; rw [hke]; first | rw [if_pos (by omega)] | rw [if_neg (by omega)]) ?_
              refine lv_istore_n (lv' := [(3, .int (ciI z q)), (0, .ref (a)), (1, .int (nI (q))), (2, .int (nI (k)))]) hx hb dX8_copiedIn_86 rfl hl (by decide) rfl (fun ls hl => ?_)
              refine lv_aload_n hx hb dX8_copiedIn_87 rfl (lv_at hl 1 rfl) ?_
              refine kx_get (v := .ref (a + 2)) hx hb hts hinX8 hown hK hM.1 rfl 2 (by decide) (by decide +kernel) rfl dX8_copiedIn_88 ?_
              refine lv_iconst (v := nI 0) hx hb dX8_copiedIn_91 (by decide) ?_
              refine lv_aload_n hx hb dX8_copiedIn_92 rfl (lv_at hl 1 rfl) ?_
              refine kx_get (v := .ref (a + 1)) hx hb hts hinX8 hown hK hM.1 rfl 1 (by decide) (by decide +kernel) rfl dX8_copiedIn_93 ?_
              refine lv_iconst (v := nI 0) hx hb dX8_copiedIn_96 (by decide) ?_
              refine kx_retM (va_runS (As := [.ref (a + 2), .int (nI (0)), .ref (a + 1), .int (nI (0))]) (rest := []) ⟨hx, hb, hml, hown, hts⟩ (k_X8_copy l D cs (a + 2) (a + 1) 704 704 0 0 (fun j => (psF (kpt z) k) (704 + j)) (fun j => (psF (kpt z) k) j) (by omega) (by omega) (by omega) (by decide) (by decide)) (cwS 4 hts gX8_copiedIn_X8_copy rfl rfl rfl (by decide +kernel) ⟨Nat.le_of_ble_eq_true rfl, Nat.le_of_ble_eq_true rfl⟩) (kx_preS hK hN ⟨hM.kept, hM.state⟩) rfl rfl hl.1 rfl (lv_room (Nat.le_of_ble_eq_true rfl)) dX8_copiedIn_97 ⟨Nat.le_of_ble_eq_true rfl, Nat.le_of_ble_eq_true rfl⟩) hS (fun q h1 (h : q = a + 1) => by subst h; exact ⟨by omega, by omega⟩) (fun q (h : q = a + 1) => by subst h; exact ⟨by omega, by omega⟩) (fun H locs hc hk hS => ?_)
              have hM := hM.cp_state (sp := 0) (src := 704) (F := (fun j => (psF (kpt z) k) (704 + j))) (fun j hj => congrArg (psF (kpt z) k) (by omega)) hc (fun q h1 h2 h3 => hk.2 q (hM.lt q h1 h2) h3)
              clear hc hk
              refine lv_iload_n hx hb dX8_copiedIn_100 rfl (lv_at hl 0 rfl) ?_
              exact kx_iretM hx hb hrt hlk (by rw [if_pos hw0, hnq]) (by rw [if_pos hw0, hnq, hke]; exact hM) hS dX8_copiedIn_101
          · refine lv_aload_n hx hb dX8_copiedIn_48 rfl (lv_at hl 0 rfl) ?_
            refine lv_iload_n hx hb dX8_copiedIn_49 rfl (lv_at hl 1 rfl) ?_
            refine lv_iconst (v := nI 5) hx hb dX8_copiedIn_50 (by decide) ?_
            refine kx_retP (va_runV (As := [.int (nI (q)), .int (nI (5))]) (rest := []) ⟨hx, hb, hml, hown, hts⟩ (k_X8_movePart l D cs a (psF (kpt z) k) q 5 (by first | assumption | omega) (by first | assumption | omega)) (cwV 2 hts gX8_copiedIn_X8_movePart rfl rfl rfl (by decide +kernel) ⟨Nat.le_of_ble_eq_true rfl, Nat.le_of_ble_eq_true rfl⟩) (kx_preV hK hN hM.1 rfl hM) rfl rfl hl.1 rfl (lv_room (Nat.le_of_ble_eq_true rfl)) dX8_copiedIn_51 ⟨Nat.le_of_ble_eq_true rfl, Nat.le_of_ble_eq_true rfl⟩) ?_
            refine kx_ci (y := nI (mS (psF (kpt z) k) q)) (Inv.m5 hy.2 (by first | assumption | omega)) ?_
            refine lv_iconst (v := nI 2) hx hb dX8_copiedIn_54 (by decide) ?_
            refine kn_icmp_ge (tgt := 69) hx hb dX8_copiedIn_55 (by decide) (by omega) (by decide) (fun hph => ?_) (fun hph => ?_)
            · have hke : ciK z q = k := ci_is hno (by first | exact Or.inl (by omega) | exact Or.inr (by simp [ciP]; omega)) hk
              refine lv_aload_n hx hb dX8_copiedIn_69 rfl (lv_at hl 0 rfl) ?_
              refine lv_iload_n hx hb dX8_copiedIn_70 rfl (lv_at hl 1 rfl) ?_
              refine lv_iconst (v := nI 5) hx hb dX8_copiedIn_71 (by decide) ?_
              refine kx_retP (va_runV (As := [.int (nI (q)), .int (nI (5))]) (rest := []) ⟨hx, hb, hml, hown, hts⟩ (k_X8_movePart l D cs a (psF (kpt z) k) q 5 (by first | assumption | omega) (by first | assumption | omega)) (cwV 2 hts gX8_copiedIn_X8_movePart rfl rfl rfl (by decide +kernel) ⟨Nat.le_of_ble_eq_true rfl, Nat.le_of_ble_eq_true rfl⟩) (kx_preV hK hN hM.1 rfl hM) rfl rfl hl.1 rfl (lv_room (Nat.le_of_ble_eq_true rfl)) dX8_copiedIn_72 ⟨Nat.le_of_ble_eq_true rfl, Nat.le_of_ble_eq_true rfl⟩) ?_
              refine kx_ci (y := nI (mS (psF (kpt z) k) q)) (Inv.m5 hy.2 (by first | assumption | omega)) ?_
              refine lv_iconst (v := nI 2) hx hb dX8_copiedIn_75 (by decide) ?_
              refine kn_icmp_ge (tgt := 85) hx hb dX8_copiedIn_76 (by decide) (by omega) (by decide) (fun hfin => ?_) (fun hfin => ?_)
              · refine lv_iload_n hx hb dX8_copiedIn_85 rfl (lv_at hl 2 rfl) ?_
                refine kx_ci (x := nI (k)) (y := ciI z q) (by unfold ciI; rw [hke]; first | rw [if_pos (by omega)] | rw [if_neg (by omega)]) ?_
                refine lv_istore_n (lv' := [(3, .int (ciI z q)), (0, .ref (a)), (1, .int (nI (q))), (2, .int (nI (k)))]) hx hb dX8_copiedIn_86 rfl hl (by decide) rfl (fun ls hl => ?_)
                refine lv_aload_n hx hb dX8_copiedIn_87 rfl (lv_at hl 1 rfl) ?_
                refine kx_get (v := .ref (a + 2)) hx hb hts hinX8 hown hK hM.1 rfl 2 (by decide) (by decide +kernel) rfl dX8_copiedIn_88 ?_
                refine lv_iconst (v := nI 0) hx hb dX8_copiedIn_91 (by decide) ?_
                refine lv_aload_n hx hb dX8_copiedIn_92 rfl (lv_at hl 1 rfl) ?_
                refine kx_get (v := .ref (a + 1)) hx hb hts hinX8 hown hK hM.1 rfl 1 (by decide) (by decide +kernel) rfl dX8_copiedIn_93 ?_
                refine lv_iconst (v := nI 0) hx hb dX8_copiedIn_96 (by decide) ?_
                refine kx_retM (va_runS (As := [.ref (a + 2), .int (nI (0)), .ref (a + 1), .int (nI (0))]) (rest := []) ⟨hx, hb, hml, hown, hts⟩ (k_X8_copy l D cs (a + 2) (a + 1) 704 704 0 0 (fun j => (psF (kpt z) k) (704 + j)) (fun j => (psF (kpt z) k) j) (by omega) (by omega) (by omega) (by decide) (by decide)) (cwS 4 hts gX8_copiedIn_X8_copy rfl rfl rfl (by decide +kernel) ⟨Nat.le_of_ble_eq_true rfl, Nat.le_of_ble_eq_true rfl⟩) (kx_preS hK hN ⟨hM.kept, hM.state⟩) rfl rfl hl.1 rfl (lv_room (Nat.le_of_ble_eq_true rfl)) dX8_copiedIn_97 ⟨Nat.le_of_ble_eq_true rfl, Nat.le_of_ble_eq_true rfl⟩) hS (fun q h1 (h : q = a + 1) => by subst h; exact ⟨by omega, by omega⟩) (fun q (h : q = a + 1) => by subst h; exact ⟨by omega, by omega⟩) (fun H locs hc hk hS => ?_)
                have hM := hM.cp_state (sp := 0) (src := 704) (F := (fun j => (psF (kpt z) k) (704 + j))) (fun j hj => congrArg (psF (kpt z) k) (by omega)) hc (fun q h1 h2 h3 => hk.2 q (hM.lt q h1 h2) h3)
                clear hc hk
                refine lv_iload_n hx hb dX8_copiedIn_100 rfl (lv_at hl 0 rfl) ?_
                exact kx_iretM hx hb hrt hlk (by rw [if_pos hw0, hnq]) (by rw [if_pos hw0, hnq, hke]; exact hM) hS dX8_copiedIn_101
              · refine lv_sipush (v := -1000) hx hb dX8_copiedIn_79 (by decide) ?_
                refine lv_goto (tgt := 86) hx hb dX8_copiedIn_82 (by decide) ?_
                refine kx_ci (x := (-1000)) (y := ciI z q) (by unfold ciI; rw [hke]; first | rw [if_pos (by omega)] | rw [if_neg (by omega)]) ?_
                refine lv_istore_n (lv' := [(3, .int (ciI z q)), (0, .ref (a)), (1, .int (nI (q))), (2, .int (nI (k)))]) hx hb dX8_copiedIn_86 rfl hl (by decide) rfl (fun ls hl => ?_)
                refine lv_aload_n hx hb dX8_copiedIn_87 rfl (lv_at hl 1 rfl) ?_
                refine kx_get (v := .ref (a + 2)) hx hb hts hinX8 hown hK hM.1 rfl 2 (by decide) (by decide +kernel) rfl dX8_copiedIn_88 ?_
                refine lv_iconst (v := nI 0) hx hb dX8_copiedIn_91 (by decide) ?_
                refine lv_aload_n hx hb dX8_copiedIn_92 rfl (lv_at hl 1 rfl) ?_
                refine kx_get (v := .ref (a + 1)) hx hb hts hinX8 hown hK hM.1 rfl 1 (by decide) (by decide +kernel) rfl dX8_copiedIn_93 ?_
                refine lv_iconst (v := nI 0) hx hb dX8_copiedIn_96 (by decide) ?_
                refine kx_retM (va_runS (As := [.ref (a + 2), .int (nI (0)), .ref (a + 1), .int (nI (0))]) (rest := []) ⟨hx, hb, hml, hown, hts⟩ (k_X8_copy l D cs (a + 2) (a + 1) 704 704 0 0 (fun j => (psF (kpt z) k) (704 + j)) (fun j => (psF (kpt z) k) j) (by omega) (by omega) (by omega) (by decide) (by decide)) (cwS 4 hts gX8_copiedIn_X8_copy rfl rfl rfl (by decide +kernel) ⟨Nat.le_of_ble_eq_true rfl, Nat.le_of_ble_eq_true rfl⟩) (kx_preS hK hN ⟨hM.kept, hM.state⟩) rfl rfl hl.1 rfl (lv_room (Nat.le_of_ble_eq_true rfl)) dX8_copiedIn_97 ⟨Nat.le_of_ble_eq_true rfl, Nat.le_of_ble_eq_true rfl⟩) hS (fun q h1 (h : q = a + 1) => by subst h; exact ⟨by omega, by omega⟩) (fun q (h : q = a + 1) => by subst h; exact ⟨by omega, by omega⟩) (fun H locs hc hk hS => ?_)
                have hM := hM.cp_state (sp := 0) (src := 704) (F := (fun j => (psF (kpt z) k) (704 + j))) (fun j hj => congrArg (psF (kpt z) k) (by omega)) hc (fun q h1 h2 h3 => hk.2 q (hM.lt q h1 h2) h3)
                clear hc hk
                refine lv_iload_n hx hb dX8_copiedIn_100 rfl (lv_at hl 0 rfl) ?_
                exact kx_iretM hx hb hrt hlk (by rw [if_pos hw0, hnq]) (by rw [if_pos hw0, hnq, hke]; exact hM) hS dX8_copiedIn_101
            · refine lv_aload_n hx hb dX8_copiedIn_58 rfl (lv_at hl 0 rfl) ?_
              refine kx_retM (va_runV (As := []) (rest := []) ⟨hx, hb, hml, hown, hts⟩ (k_X8_tick l D cs a (psF (kpt z) k) hy.2) (cwV 0 hts gX8_copiedIn_X8_tick rfl rfl rfl (by decide +kernel) ⟨Nat.le_of_ble_eq_true rfl, Nat.le_of_ble_eq_true rfl⟩) (kx_preV hK hN hM.1 rfl hM) rfl rfl hl.1 rfl (lv_room (Nat.le_of_ble_eq_true rfl)) dX8_copiedIn_59 ⟨Nat.le_of_ble_eq_true rfl, Nat.le_of_ble_eq_true rfl⟩) hS (fun q _ h => h) (fun q h => h) (fun H locs hM hk hS => ?_)
              clear hk
              have hM : MdC D (cs 0) a (psF (kpt z) (k + 1)) H := hM
              refine lv_pop hx hb dX8_copiedIn_62 rfl ?_
              refine lv_iinc (v := nI (k + 1)) (lv' := [(2, .int (nI (k + 1))), (0, .ref (a)), (1, .int (nI (q)))]) (k := 2) hx hb dX8_copiedIn_63 hl rfl (nI_add _ _) (by decide) rfl (fun ls hl => ?_)
              refine lv_goto (tgt := 41) hx hb dX8_copiedIn_66 (by decide) ?_
              exact ih41 (k + 1) _ _ _ (by omega) (by omega) (no_s hno (by simp [ciP]; omega)) hM hS (lv_sub hl [1, 2, 0] rfl)
      exact J41 _ 0 _ _ _ (Nat.lt_succ_self _) (by omega) (fun j hj => absurd hj (Nat.not_lt_zero j)) (by rw [psF_0]; exact hM) hS (lv_sub hl [1, 2, 0] rfl)
    · refine lv_iconst (v := nI 0) hx hb dX8_copiedIn_24 (by decide) ?_
      exact kx_iretM hx hb hrt hlk (by rw [if_neg hw0]) (by rw [if_neg hw0]; exact hM) hS dX8_copiedIn_25
set_option maxHeartbeats 500000 in
set_option maxRecDepth 100000 in
theorem k_X8_setPatience (l : Launch) (D : va_G) (cs : Nat → ClassId) (a : Nat) (z : Nat → Int32) (x y : Int32) (hZ : InvZ z) : Met l yX8_setPatience wsX8_setPatience ({ frames := 2, cells := 0, slots := 0, locals := 45 } : Room) (PcK D cs [.ref (a), .int (x), .int (y)] (fun H => MdC D (cs 0) a z H)) (QcM (some (.int (if wpt z x y = 0 then z (56 + 4 * nn x + 2) else nI 0))) (fun H => MdC D (cs 0) a (if wpt z x y = 0 then upd (svT z) (56 + 4 * nn x + 2) y else upd z 4403 (nI (wpt z x y))) H) (rgM a)) 0 0 ((rgM a)) := by
  refine kx_met (cc := cX8_setPatience) (maxL := 4) (ret := (some .int)) (by decide) rfl (Nat.le_of_ble_eq_true rfl) ?_
  intro p e s m args below meth c hx hb hml hrt hts hown hlk hK hN hP ls hl
  have hl : lv_has ls 4 [(0, .ref (a)), (1, .int (x)), (2, .int (y))] := hl
  obtain ⟨H, hHe⟩ : ∃ H : Heap, H = s.heap := ⟨_, rfl⟩
  rw [← hHe] at hP ⊢
  have hS : va_S ((rgM a)) s.heap H [] := by rw [← hHe]; exact va_S.rf
  have hinX8 : ∀ w ∈ wsX80, w ∈ wsX8_setPatience := by decide +kernel
  have hM := hP
  have hI := hZ.1
  refine lv_aload_n hx hb dX8_setPatience_0 rfl (lv_at hl 0 rfl) ?_
  refine lv_aload_n hx hb dX8_setPatience_1 rfl (lv_at hl 0 rfl) ?_
  refine lv_iload_n hx hb dX8_setPatience_2 rfl (lv_at hl 1 rfl) ?_
  refine kx_retP (va_runV (As := [.int (x)]) (rest := [.ref (a)]) ⟨hx, hb, hml, hown, hts⟩ (k_X8_isRing l D cs a z x hI) (cwV 1 hts gX8_setPatience_X8_isRing rfl rfl rfl (by decide +kernel) ⟨Nat.le_of_ble_eq_true rfl, Nat.le_of_ble_eq_true rfl⟩) (kx_preV hK hN hM.1 rfl hM) rfl rfl hl.1 rfl (lv_room (Nat.le_of_ble_eq_true rfl)) dX8_setPatience_3 ⟨Nat.le_of_ble_eq_true rfl, Nat.le_of_ble_eq_true rfl⟩) ?_
  refine kb_if_ne (tgt := 13) hx hb dX8_setPatience_6 (by decide) (fun c_1 => ?_) (fun c_1 => ?_)
  · refine lv_iload_n hx hb dX8_setPatience_13 rfl (lv_at hl 2 rfl) ?_
    refine lv_iconst (v := nI 0) hx hb dX8_setPatience_14 (by decide) ?_
    refine lv_bipush (v := nI 50) hx hb dX8_setPatience_15 (by decide) ?_
    refine kx_retP (va_runS (As := [.int (y), .int (nI (0)), .int (nI (50))]) (rest := [.ref (a)]) ⟨hx, hb, hml, hown, hts⟩ (k_X8_within l D cs y (nI (0)) (nI (50))) (cwS 3 hts gX8_setPatience_X8_within rfl rfl rfl (by decide +kernel) ⟨Nat.le_of_ble_eq_true rfl, Nat.le_of_ble_eq_true rfl⟩) (kx_preS hK hN trivial) rfl rfl hl.1 rfl (lv_room (Nat.le_of_ble_eq_true rfl)) dX8_setPatience_17 ⟨Nat.le_of_ble_eq_true rfl, Nat.le_of_ble_eq_true rfl⟩) ?_
    refine kb_if_eq (tgt := 27) hx hb dX8_setPatience_20 (by decide) (fun c_2 => ?_) (fun c_2 => ?_)
    · refine lv_iconst (v := nI 2) hx hb dX8_setPatience_27 (by decide) ?_
      refine kx_ci (x := nI (2)) (y := nI (wpt z x y)) (congrArg nI (by first | (simp [wpt, *]; done) | (exfalso; omega) | (exfalso; simp_all; done))) ?_
      refine kx_put hx hb hts hinX8 tyX8_ok nmX8 hown hK hM.1 rfl hS ⟨by omega, by omega⟩ 0 (by decide) (by decide +kernel) rfl rfl rfl (Nat.le_of_ble_eq_true rfl) dX8_setPatience_28 (fun H locs hc hU hS => ?_)
      have hM := hM.put_thrown hc hU
      clear hc hU
      refine lv_aload_n hx hb dX8_setPatience_31 rfl (lv_at hl 0 rfl) ?_
      refine kx_get (v := .int ((upd z 4403 (nI (wpt z x y))) 4403)) hx hb hts hinX8 hown hK hM.1 rfl 0 (by decide) (by decide +kernel) rfl dX8_setPatience_32 ?_
      refine kx_ci (y := nI (wpt z x y)) pk_us ?_
      refine kn_if_le (tgt := 40) hx hb dX8_setPatience_35 (by decide) (lt31 (wpt_2 _ _ _)) (fun hw0 => ?_) (fun hw0 => ?_)
      · rw [hw0] at hM
        obtain ⟨r, hr, rfl⟩ := wpt_0 hI hw0
        have hnq : nn (nI r) = r := nn_nI (by have := hI.R6; omega)
        have h6 := hI.R6
        refine lv_aload_n hx hb dX8_setPatience_40 rfl (lv_at hl 0 rfl) ?_
        refine kx_retM (va_runV (As := []) (rest := []) ⟨hx, hb, hml, hown, hts⟩ (k_X8_save l D cs a (upd z 4403 (nI 0)) (Sv z) (th_v hZ _) hZ.2.1.2) (cwV 0 hts gX8_setPatience_X8_save rfl rfl rfl (by decide +kernel) ⟨Nat.le_of_ble_eq_true rfl, Nat.le_of_ble_eq_true rfl⟩) (kx_preV hK hN hM.1 rfl hM) rfl rfl hl.1 rfl (lv_room (Nat.le_of_ble_eq_true rfl)) dX8_setPatience_41 ⟨Nat.le_of_ble_eq_true rfl, Nat.le_of_ble_eq_true rfl⟩) hS (fun q _ h => h) (fun q h => h) (fun H locs hM hk hS => ?_)
        clear hk
        have hM : MdC D (cs 0) a (svT z) H := hM
        refine lv_aload_n hx hb dX8_setPatience_44 rfl (lv_at hl 0 rfl) ?_
        refine lv_iload_n hx hb dX8_setPatience_45 rfl (lv_at hl 1 rfl) ?_
        refine lv_iconst (v := nI 2) hx hb dX8_setPatience_46 (by decide) ?_
        refine kx_retP (va_runV (As := [.int (nI (r)), .int (nI (2))]) (rest := []) ⟨hx, hb, hml, hown, hts⟩ (k_X8_ringPart l D cs a (svT z) r 2 (by first | assumption | omega) (by first | assumption | omega)) (cwV 2 hts gX8_setPatience_X8_ringPart rfl rfl rfl (by decide +kernel) ⟨Nat.le_of_ble_eq_true rfl, Nat.le_of_ble_eq_true rfl⟩) (kx_preV hK hN hM.1 rfl hM) rfl rfl hl.1 rfl (lv_room (Nat.le_of_ble_eq_true rfl)) dX8_setPatience_47 ⟨Nat.le_of_ble_eq_true rfl, Nat.le_of_ble_eq_true rfl⟩) ?_
        refine kx_ci (y := z (56 + 4 * r + 2)) (svT_lo z (by omega)) ?_
        refine lv_istore_n (lv' := [(3, .int (z (56 + 4 * r + 2))), (0, .ref (a)), (1, .int (nI (r))), (2, .int (y))]) hx hb dX8_setPatience_50 rfl hl (by decide) rfl (fun ls hl => ?_)
        refine lv_aload_n hx hb dX8_setPatience_51 rfl (lv_at hl 1 rfl) ?_
        refine kx_get (v := .ref (a + 1)) hx hb hts hinX8 hown hK hM.1 rfl 1 (by decide) (by decide +kernel) rfl dX8_setPatience_52 ?_
        refine lv_bipush (v := nI 56) hx hb dX8_setPatience_55 (by decide) ?_
        refine lv_iconst (v := nI 4) hx hb dX8_setPatience_57 (by decide) ?_
        refine lv_iload_n hx hb dX8_setPatience_58 rfl (lv_at hl 2 rfl) ?_
        refine kn_mul hx hb dX8_setPatience_59 ?_
        refine kn_add hx hb dX8_setPatience_60 ?_
        refine lv_iconst (v := nI 2) hx hb dX8_setPatience_61 (by decide) ?_
        refine kn_add hx hb dX8_setPatience_62 ?_
        refine lv_iload_n hx hb dX8_setPatience_63 rfl (lv_at hl 3 rfl) ?_
        refine kx_iast (i := 56 + (4 * r) + 2) hx hb hK hM.state hS ⟨by omega, by omega⟩ 0 rfl (by omega) (by decide) dX8_setPatience_64 (fun H locs hc hU hS => ?_)
        have hM := hM.put_state (by omega) hc hU
        clear hc hU
        refine lv_iload_n hx hb dX8_setPatience_65 rfl (lv_at hl 0 rfl) ?_
        exact kx_iretM hx hb hrt hlk (by rw [if_pos hw0, hnq]) (by rw [if_pos hw0, hnq]; exact hM) hS dX8_setPatience_66
      · refine lv_iconst (v := nI 0) hx hb dX8_setPatience_38 (by decide) ?_
        exact kx_iretM hx hb hrt hlk (by rw [if_neg hw0]) (by rw [if_neg hw0]; exact hM) hS dX8_setPatience_39
    · refine lv_iconst (v := nI 0) hx hb dX8_setPatience_23 (by decide) ?_
      refine lv_goto (tgt := 28) hx hb dX8_setPatience_24 (by decide) ?_
      refine kx_ci (x := nI (0)) (y := nI (wpt z x y)) (congrArg nI (by first | (simp [wpt, *]; done) | (exfalso; omega) | (exfalso; simp_all; done))) ?_
      refine kx_put hx hb hts hinX8 tyX8_ok nmX8 hown hK hM.1 rfl hS ⟨by omega, by omega⟩ 0 (by decide) (by decide +kernel) rfl rfl rfl (Nat.le_of_ble_eq_true rfl) dX8_setPatience_28 (fun H locs hc hU hS => ?_)
      have hM := hM.put_thrown hc hU
      clear hc hU
      refine lv_aload_n hx hb dX8_setPatience_31 rfl (lv_at hl 0 rfl) ?_
      refine kx_get (v := .int ((upd z 4403 (nI (wpt z x y))) 4403)) hx hb hts hinX8 hown hK hM.1 rfl 0 (by decide) (by decide +kernel) rfl dX8_setPatience_32 ?_
      refine kx_ci (y := nI (wpt z x y)) pk_us ?_
      refine kn_if_le (tgt := 40) hx hb dX8_setPatience_35 (by decide) (lt31 (wpt_2 _ _ _)) (fun hw0 => ?_) (fun hw0 => ?_)
      · rw [hw0] at hM
        obtain ⟨r, hr, rfl⟩ := wpt_0 hI hw0
        have hnq : nn (nI r) = r := nn_nI (by have := hI.R6; omega)
        have h6 := hI.R6
        refine lv_aload_n hx hb dX8_setPatience_40 rfl (lv_at hl 0 rfl) ?_
        refine kx_retM (va_runV (As := []) (rest := []) ⟨hx, hb, hml, hown, hts⟩ (k_X8_save l D cs a (upd z 4403 (nI 0)) (Sv z) (th_v hZ _) hZ.2.1.2) (cwV 0 hts gX8_setPatience_X8_save rfl rfl rfl (by decide +kernel) ⟨Nat.le_of_ble_eq_true rfl, Nat.le_of_ble_eq_true rfl⟩) (kx_preV hK hN hM.1 rfl hM) rfl rfl hl.1 rfl (lv_room (Nat.le_of_ble_eq_true rfl)) dX8_setPatience_41 ⟨Nat.le_of_ble_eq_true rfl, Nat.le_of_ble_eq_true rfl⟩) hS (fun q _ h => h) (fun q h => h) (fun H locs hM hk hS => ?_)
        clear hk
        have hM : MdC D (cs 0) a (svT z) H := hM
        refine lv_aload_n hx hb dX8_setPatience_44 rfl (lv_at hl 0 rfl) ?_
        refine lv_iload_n hx hb dX8_setPatience_45 rfl (lv_at hl 1 rfl) ?_
        refine lv_iconst (v := nI 2) hx hb dX8_setPatience_46 (by decide) ?_
        refine kx_retP (va_runV (As := [.int (nI (r)), .int (nI (2))]) (rest := []) ⟨hx, hb, hml, hown, hts⟩ (k_X8_ringPart l D cs a (svT z) r 2 (by first | assumption | omega) (by first | assumption | omega)) (cwV 2 hts gX8_setPatience_X8_ringPart rfl rfl rfl (by decide +kernel) ⟨Nat.le_of_ble_eq_true rfl, Nat.le_of_ble_eq_true rfl⟩) (kx_preV hK hN hM.1 rfl hM) rfl rfl hl.1 rfl (lv_room (Nat.le_of_ble_eq_true rfl)) dX8_setPatience_47 ⟨Nat.le_of_ble_eq_true rfl, Nat.le_of_ble_eq_true rfl⟩) ?_
        refine kx_ci (y := z (56 + 4 * r + 2)) (svT_lo z (by omega)) ?_
        refine lv_istore_n (lv' := [(3, .int (z (56 + 4 * r + 2))), (0, .ref (a)), (1, .int (nI (r))), (2, .int (y))]) hx hb dX8_setPatience_50 rfl hl (by decide) rfl (fun ls hl => ?_)
        refine lv_aload_n hx hb dX8_setPatience_51 rfl (lv_at hl 1 rfl) ?_
        refine kx_get (v := .ref (a + 1)) hx hb hts hinX8 hown hK hM.1 rfl 1 (by decide) (by decide +kernel) rfl dX8_setPatience_52 ?_
        refine lv_bipush (v := nI 56) hx hb dX8_setPatience_55 (by decide) ?_
        refine lv_iconst (v := nI 4) hx hb dX8_setPatience_57 (by decide) ?_
        refine lv_iload_n hx hb dX8_setPatience_58 rfl (lv_at hl 2 rfl) ?_
        refine kn_mul hx hb dX8_setPatience_59 ?_
        refine kn_add hx hb dX8_setPatience_60 ?_
        refine lv_iconst (v := nI 2) hx hb dX8_setPatience_61 (by decide) ?_
        refine kn_add hx hb dX8_setPatience_62 ?_
        refine lv_iload_n hx hb dX8_setPatience_63 rfl (lv_at hl 3 rfl) ?_
        refine kx_iast (i := 56 + (4 * r) + 2) hx hb hK hM.state hS ⟨by omega, by omega⟩ 0 rfl (by omega) (by decide) dX8_setPatience_64 (fun H locs hc hU hS => ?_)
        have hM := hM.put_state (by omega) hc hU
        clear hc hU
        refine lv_iload_n hx hb dX8_setPatience_65 rfl (lv_at hl 0 rfl) ?_
        exact kx_iretM hx hb hrt hlk (by rw [if_pos hw0, hnq]) (by rw [if_pos hw0, hnq]; exact hM) hS dX8_setPatience_66
      · refine lv_iconst (v := nI 0) hx hb dX8_setPatience_38 (by decide) ?_
        exact kx_iretM hx hb hrt hlk (by rw [if_neg hw0]) (by rw [if_neg hw0]; exact hM) hS dX8_setPatience_39
  · refine lv_iconst (v := nI 1) hx hb dX8_setPatience_9 (by decide) ?_
    refine lv_goto (tgt := 28) hx hb dX8_setPatience_10 (by decide) ?_
    refine kx_ci (x := nI (1)) (y := nI (wpt z x y)) (congrArg nI (by first | (simp [wpt, *]; done) | (exfalso; omega) | (exfalso; simp_all; done))) ?_
    refine kx_put hx hb hts hinX8 tyX8_ok nmX8 hown hK hM.1 rfl hS ⟨by omega, by omega⟩ 0 (by decide) (by decide +kernel) rfl rfl rfl (Nat.le_of_ble_eq_true rfl) dX8_setPatience_28 (fun H locs hc hU hS => ?_)
    have hM := hM.put_thrown hc hU
    clear hc hU
    refine lv_aload_n hx hb dX8_setPatience_31 rfl (lv_at hl 0 rfl) ?_
    refine kx_get (v := .int ((upd z 4403 (nI (wpt z x y))) 4403)) hx hb hts hinX8 hown hK hM.1 rfl 0 (by decide) (by decide +kernel) rfl dX8_setPatience_32 ?_
    refine kx_ci (y := nI (wpt z x y)) pk_us ?_
    refine kn_if_le (tgt := 40) hx hb dX8_setPatience_35 (by decide) (lt31 (wpt_2 _ _ _)) (fun hw0 => ?_) (fun hw0 => ?_)
    · rw [hw0] at hM
      obtain ⟨r, hr, rfl⟩ := wpt_0 hI hw0
      have hnq : nn (nI r) = r := nn_nI (by have := hI.R6; omega)
      have h6 := hI.R6
      refine lv_aload_n hx hb dX8_setPatience_40 rfl (lv_at hl 0 rfl) ?_
      refine kx_retM (va_runV (As := []) (rest := []) ⟨hx, hb, hml, hown, hts⟩ (k_X8_save l D cs a (upd z 4403 (nI 0)) (Sv z) (th_v hZ _) hZ.2.1.2) (cwV 0 hts gX8_setPatience_X8_save rfl rfl rfl (by decide +kernel) ⟨Nat.le_of_ble_eq_true rfl, Nat.le_of_ble_eq_true rfl⟩) (kx_preV hK hN hM.1 rfl hM) rfl rfl hl.1 rfl (lv_room (Nat.le_of_ble_eq_true rfl)) dX8_setPatience_41 ⟨Nat.le_of_ble_eq_true rfl, Nat.le_of_ble_eq_true rfl⟩) hS (fun q _ h => h) (fun q h => h) (fun H locs hM hk hS => ?_)
      clear hk
      have hM : MdC D (cs 0) a (svT z) H := hM
      refine lv_aload_n hx hb dX8_setPatience_44 rfl (lv_at hl 0 rfl) ?_
      refine lv_iload_n hx hb dX8_setPatience_45 rfl (lv_at hl 1 rfl) ?_
      refine lv_iconst (v := nI 2) hx hb dX8_setPatience_46 (by decide) ?_
      refine kx_retP (va_runV (As := [.int (nI (r)), .int (nI (2))]) (rest := []) ⟨hx, hb, hml, hown, hts⟩ (k_X8_ringPart l D cs a (svT z) r 2 (by first | assumption | omega) (by first | assumption | omega)) (cwV 2 hts gX8_setPatience_X8_ringPart rfl rfl rfl (by decide +kernel) ⟨Nat.le_of_ble_eq_true rfl, Nat.le_of_ble_eq_true rfl⟩) (kx_preV hK hN hM.1 rfl hM) rfl rfl hl.1 rfl (lv_room (Nat.le_of_ble_eq_true rfl)) dX8_setPatience_47 ⟨Nat.le_of_ble_eq_true rfl, Nat.le_of_ble_eq_true rfl⟩) ?_
      refine kx_ci (y := z (56 + 4 * r + 2)) (svT_lo z (by omega)) ?_
      refine lv_istore_n (lv' := [(3, .int (z (56 + 4 * r + 2))), (0, .ref (a)), (1, .int (nI (r))), (2, .int (y))]) hx hb dX8_setPatience_50 rfl hl (by decide) rfl (fun ls hl => ?_)
      refine lv_aload_n hx hb dX8_setPatience_51 rfl (lv_at hl 1 rfl) ?_
      refine kx_get (v := .ref (a + 1)) hx hb hts hinX8 hown hK hM.1 rfl 1 (by decide) (by decide +kernel) rfl dX8_setPatience_52 ?_
      refine lv_bipush (v := nI 56) hx hb dX8_setPatience_55 (by decide) ?_
      refine lv_iconst (v := nI 4) hx hb dX8_setPatience_57 (by decide) ?_
      refine lv_iload_n hx hb dX8_setPatience_58 rfl (lv_at hl 2 rfl) ?_
      refine kn_mul hx hb dX8_setPatience_59 ?_
      refine kn_add hx hb dX8_setPatience_60 ?_
      refine lv_iconst (v := nI 2) hx hb dX8_setPatience_61 (by decide) ?_
      refine kn_add hx hb dX8_setPatience_62 ?_
      refine lv_iload_n hx hb dX8_setPatience_63 rfl (lv_at hl 3 rfl) ?_
      refine kx_iast (i := 56 + (4 * r) + 2) hx hb hK hM.state hS ⟨by omega, by omega⟩ 0 rfl (by omega) (by decide) dX8_setPatience_64 (fun H locs hc hU hS => ?_)
      have hM := hM.put_state (by omega) hc hU
      clear hc hU
      refine lv_iload_n hx hb dX8_setPatience_65 rfl (lv_at hl 0 rfl) ?_
      exact kx_iretM hx hb hrt hlk (by rw [if_pos hw0, hnq]) (by rw [if_pos hw0, hnq]; exact hM) hS dX8_setPatience_66
    · refine lv_iconst (v := nI 0) hx hb dX8_setPatience_38 (by decide) ?_
      exact kx_iretM hx hb hrt hlk (by rw [if_neg hw0]) (by rw [if_neg hw0]; exact hM) hS dX8_setPatience_39
