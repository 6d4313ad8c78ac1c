set_option maxHeartbeats 1500000 in
set_option maxRecDepth 100000 in
theorem k_X8_tick (l : Launch) (D : va_G) (cs : Nat → ClassId) (a : Nat) (z : Nat → Int32) (hI : Inv z) : Met l yX8_tick wsX8_tick ({ frames := 5, cells := 0, slots := 0, locals := 118 } : Room) (PcK D cs [.ref (a)] (fun H => MdC D (cs 0) a z H)) (QcM (some (.int (nI (tickN z)))) (fun H => MdC D (cs 0) a (tickF z) H) (rgM a)) 0 0 ((rgM a)) := by
  refine kx_met (cc := cX8_tick) (maxL := 3) (ret := (some .int)) (by decide) rfl (Nat.le_of_ble_eq_true rfl) ?_
  intro p e s m args below meth c hx hb hml hrt hts hown hlk hK hN hP ls hl
  have hl : lv_has ls 3 [(0, .ref (a))] := hl
  obtain ⟨H, hHe⟩ : ∃ H : Heap, H = s.heap := ⟨_, rfl⟩
  rw [← hHe] at hP ⊢
  have hS : va_S ((rgM a)) s.heap H [] := by rw [← hHe]; exact va_S.rf
  have hinX8 : ∀ w ∈ wsX80, w ∈ wsX8_tick := by decide +kernel
  have hM := hP
  have h24 := hI.M24
  have h6 := hI.R6
  have hsg := sgF_si hI
  refine lv_aload_n hx hb dX8_tick_0 rfl (lv_at hl 0 rfl) ?_
  refine kx_retM (va_runV (As := []) (rest := []) ⟨hx, hb, hml, hown, hts⟩ (k_X8_signsByThemselves l D cs a z hI) (cwV 0 hts gX8_tick_X8_signsByThemselves rfl rfl rfl (by decide +kernel) ⟨Nat.le_of_ble_eq_true rfl, Nat.le_of_ble_eq_true rfl⟩) (kx_preV hK hN hM.1 rfl hM) rfl rfl hl.1 rfl (lv_room (Nat.le_of_ble_eq_true rfl)) dX8_tick_1 ⟨Nat.le_of_ble_eq_true rfl, Nat.le_of_ble_eq_true rfl⟩) hS (fun q _ h => h) (fun q h => h) (fun H locs hM hk hS => ?_)
  clear hk
  have hM : MdC D (cs 0) a (sgF z) H := hM
  refine lv_iconst (v := nI 0) hx hb dX8_tick_4 (by decide) ?_
  refine lv_istore_n (lv' := [(1, .int (nI (0))), (0, .ref (a))]) hx hb dX8_tick_5 rfl hl (by decide) rfl (fun ls hl => ?_)
  have J6 : ∀ (n6 : Nat) (k : Nat) (H : Heap) (locs : List Loc) (ls : Array Slot), (Mn z - k) < n6 → (k ≤ Mn z) → (MdC D (cs 0) a (stK (sgF z) k) H) → va_S ((rgM a)) s.heap H locs → lv_has ls 3 [(0, .ref (a)), (1, .int (nI (k)))] → W p l e ({ frames := 5, cells := 0, slots := 0, locals := 118 } : Room) s m args below meth c H locs 0 0 (MQ below (QcM (some (.int (nI (tickN z)))) (fun H => MdC D (cs 0) a (tickF z) H) (rgM a)) args s 0 0 ((rgM a))) (F0 m 6 ls []) := by
    intro n6; induction n6 with
    | zero => intro k H locs ls hmu6 hk hM hS hl; exact absurd hmu6 (Nat.not_lt_zero _)
    | succ n6 ih6 =>
      intro k H locs ls hmu6 hk hM hS hl
      obtain ⟨y, hyd⟩ : ∃ y, stK (sgF z) k = y := ⟨_, rfl⟩
      have hy : SI z y := hyd ▸ hsg.tr (stK_si hsg.2 k)
      rw [hyd] at hM
      have hMy := hy.1.M
      refine lv_iload_n hx hb dX8_tick_6 rfl (lv_at hl 1 rfl) ?_
      refine lv_aload_n hx hb dX8_tick_7 rfl (lv_at hl 0 rfl) ?_
      refine kx_get (v := .ref (a + 1)) hx hb hts hinX8 hown hK hM.1 rfl 1 (by decide) (by decide +kernel) rfl dX8_tick_8 ?_
      refine lv_iconst (v := nI 4) hx hb dX8_tick_11 (by decide) ?_
      refine kx_iald (i := 4) hx hb hK hM.state 0 rfl (by decide) (by decide) dX8_tick_12 ?_
      refine kx_ci (y := nI (Mn y)) (hy.2).z4 ?_
      refine kn_icmp_ge (tgt := 58) hx hb dX8_tick_13 (by decide) (by omega) (by omega) (fun c_1 => ?_) (fun c_1 => ?_)
      · rw [← hyd, show k = Mn z by omega] at hM
        have hM : MdC D (cs 0) a (tkA z) H := hM
        refine lv_iconst (v := nI 0) hx hb dX8_tick_58 (by decide) ?_
        refine lv_istore_n (lv' := [(1, .int (nI (0))), (0, .ref (a))]) hx hb dX8_tick_59 rfl hl (by decide) rfl (fun ls hl => ?_)
        refine lv_iconst (v := nI 0) hx hb dX8_tick_60 (by decide) ?_
        refine lv_istore_n (lv' := [(2, .int (nI (0))), (1, .int (nI (0))), (0, .ref (a))]) hx hb dX8_tick_61 rfl hl (by decide) rfl (fun ls hl => ?_)
        have J62 : ∀ (n62 : Nat) (k : Nat) (H : Heap) (locs : List Loc) (ls : Array Slot), (Mn z - k) < n62 → (k ≤ Mn z) → (MdC D (cs 0) a (cyK (tkA z) k) H) → va_S ((rgM a)) s.heap H locs → lv_has ls 3 [(0, .ref (a)), (1, .int (nI (cyN (tkA z) k))), (2, .int (nI (k)))] → W p l e ({ frames := 5, cells := 0, slots := 0, locals := 118 } : Room) s m args below meth c H locs 0 0 (MQ below (QcM (some (.int (nI (tickN z)))) (fun H => MdC D (cs 0) a (tickF z) H) (rgM a)) args s 0 0 ((rgM a))) (F0 m 62 ls []) := by
          intro n62; induction n62 with
          | zero => intro k H locs ls hmu62 hk hM hS hl; exact absurd hmu62 (Nat.not_lt_zero _)
          | succ n62 ih62 =>
            intro k H locs ls hmu62 hk hM hS hl
            obtain ⟨x, hxd⟩ : ∃ x, cyK (tkA z) k = x := ⟨_, rfl⟩
            have hx' : SI z x := hxd ▸ (tkA_si hI).tr (cyK_si (tkA_si hI).2 k (by rw [(tkA_si hI).1.M]; exact hk))
            rw [hxd] at hM
            have hMx := hx'.1.M
            have hS8 := hx'.2.S8
            refine lv_iload_n hx hb dX8_tick_62 rfl (lv_at hl 2 rfl) ?_
            refine lv_aload_n hx hb dX8_tick_63 rfl (lv_at hl 0 rfl) ?_
            refine kx_get (v := .ref (a + 1)) hx hb hts hinX8 hown hK hM.1 rfl 1 (by decide) (by decide +kernel) rfl dX8_tick_64 ?_
            refine lv_iconst (v := nI 4) hx hb dX8_tick_67 (by decide) ?_
            refine kx_iald (i := 4) hx hb hK hM.state 0 rfl (by decide) (by decide) dX8_tick_68 ?_
            refine kx_ci (y := nI (Mn x)) (hx'.2).z4 ?_
            refine kn_icmp_ge (tgt := 125) hx hb dX8_tick_69 (by decide) (by omega) (by omega) (fun c_2 => ?_) (fun c_2 => ?_)
            · have hkk : k = Mn z := by omega
              subst hkk
              have hl : lv_has ls 3 [(0, .ref (a)), (1, .int (nI (tickN z))), (2, .int (nI (Mn z)))] := hl
              rw [← hxd] at hM
              have hM : MdC D (cs 0) a (tkB z) H := hM
              refine lv_aload_n hx hb dX8_tick_125 rfl (lv_at hl 0 rfl) ?_
              refine kx_get (v := .ref (a + 1)) hx hb hts hinX8 hown hK hM.1 rfl 1 (by decide) (by decide +kernel) rfl dX8_tick_126 ?_
              refine lv_iconst (v := nI 5) hx hb dX8_tick_129 (by decide) ?_
              refine lv_dup2_11 hx hb dX8_tick_130 rfl rfl ?_
              refine kx_iald (i := 5) hx hb hK hM.state 0 rfl (by decide) (by decide) dX8_tick_131 ?_
              refine lv_iload_n hx hb dX8_tick_132 rfl (lv_at hl 1 rfl) ?_
              refine lv_iadd hx hb dX8_tick_133 ?_
              refine kx_iast (i := 5) hx hb hK hM.state hS ⟨by omega, by omega⟩ 0 rfl (by decide) (by decide) dX8_tick_134 (fun H locs hc hU hS => ?_)
              have hM := hM.put_state (by decide) hc hU
              clear hc hU
              refine lv_aload_n hx hb dX8_tick_135 rfl (lv_at hl 0 rfl) ?_
              refine kx_get (v := .ref (a + 1)) hx hb hts hinX8 hown hK hM.1 rfl 1 (by decide) (by decide +kernel) rfl dX8_tick_136 ?_
              refine lv_iconst (v := nI 0) hx hb dX8_tick_139 (by decide) ?_
              refine lv_dup2_11 hx hb dX8_tick_140 rfl rfl ?_
              refine kx_iald (i := 0) hx hb hK hM.state 0 rfl (by decide) (by decide) dX8_tick_141 ?_
              refine kx_ci (y := tkB z 0) (by simp only [upd_at]; repeat rw [if_neg (by omega)]) ?_
              refine lv_iconst (v := nI 1) hx hb dX8_tick_142 (by decide) ?_
              refine lv_iadd hx hb dX8_tick_143 ?_
              refine kx_iast (i := 0) hx hb hK hM.state hS ⟨by omega, by omega⟩ 0 rfl (by decide) (by decide) dX8_tick_144 (fun H locs hc hU hS => ?_)
              have hM := hM.put_state (by decide) hc hU
              clear hc hU
              refine lv_iload_n hx hb dX8_tick_145 rfl (lv_at hl 1 rfl) ?_
              exact kx_iretM hx hb hrt hlk rfl hM hS dX8_tick_146
            · have hkM : k < Mn x := by omega
              have hs3 := hx'.2.s3 hkM
              refine lv_aload_n hx hb dX8_tick_72 rfl (lv_at hl 0 rfl) ?_
              refine lv_iload_n hx hb dX8_tick_73 rfl (lv_at hl 2 rfl) ?_
              refine lv_iconst (v := nI 5) hx hb dX8_tick_74 (by decide) ?_
              refine kx_retP (va_runV (As := [.int (nI (k)), .int (nI (5))]) (rest := []) ⟨hx, hb, hml, hown, hts⟩ (k_X8_movePart l D cs a x k 5 (by first | assumption | omega) (by first | assumption | omega)) (cwV 2 hts gX8_tick_X8_movePart rfl rfl rfl (by decide +kernel) ⟨Nat.le_of_ble_eq_true rfl, Nat.le_of_ble_eq_true rfl⟩) (kx_preV hK hN hM.1 rfl hM) rfl rfl hl.1 rfl (lv_room (Nat.le_of_ble_eq_true rfl)) dX8_tick_75 ⟨Nat.le_of_ble_eq_true rfl, Nat.le_of_ble_eq_true rfl⟩) ?_
              refine kx_ci (y := nI (mS x k)) (Inv.m5 hx'.2 (by first | assumption | omega)) ?_
              refine lv_iconst (v := nI 1) hx hb dX8_tick_78 (by decide) ?_
              refine kn_icmp_ne (tgt := 119) hx hb dX8_tick_79 (by decide) (by omega) (by decide) (fun c_3 => ?_) (fun c_3 => ?_)
              · have e9 : cyK (tkA z) (k + 1) = x := by
                  show cyS k (cyK (tkA z) k) = _
                  rw [hxd]; simp [cyS, *]
                have hM : MdC D (cs 0) a (cyK (tkA z) (k + 1)) H := by rw [e9]; exact hM
                have e8 : cyN (tkA z) (k + 1) = cyN (tkA z) k := by rw [cyN_s, hxd]; simp [cyD, *]
                refine lv_iinc (v := nI (k + 1)) (lv' := [(2, .int (nI (k + 1))), (0, .ref (a)), (1, .int (nI (cyN (tkA z) k)))]) (k := 2) hx hb dX8_tick_119 hl rfl (nI_add _ _) (by decide) rfl (fun ls hl => ?_)
                refine lv_goto (tgt := 62) hx hb dX8_tick_122 (by decide) ?_
                exact ih62 (k + 1) _ _ _ (by omega) (by omega) hM hS (by rw [e8]; exact lv_sub hl [1, 2, 0] rfl)
              · refine lv_aload_n hx hb dX8_tick_82 rfl (lv_at hl 0 rfl) ?_
                refine lv_iload_n hx hb dX8_tick_83 rfl (lv_at hl 2 rfl) ?_
                refine lv_aload_n hx hb dX8_tick_84 rfl (lv_at hl 0 rfl) ?_
                refine kx_get (v := .ref (a + 1)) hx hb hts hinX8 hown hK hM.1 rfl 1 (by decide) (by decide +kernel) rfl dX8_tick_85 ?_
                refine lv_iconst (v := nI 1) hx hb dX8_tick_88 (by decide) ?_
                refine kx_iald (i := 1) hx hb hK hM.state 0 rfl (by decide) (by decide) dX8_tick_89 ?_
                refine kx_ci (y := nI (Sp x)) (hx'.2).z1 ?_
                refine kx_retM (va_runV (As := [.int (nI (k)), .int (nI (Sp x))]) (rest := []) ⟨hx, hb, hml, hown, hts⟩ (k_X8_writesOn l D cs a x k (Sp x) hx'.2 (by first | assumption | omega) (by first | assumption | omega)) (cwV 2 hts gX8_tick_X8_writesOn rfl rfl rfl (by decide +kernel) ⟨Nat.le_of_ble_eq_true rfl, Nat.le_of_ble_eq_true rfl⟩) (kx_preV hK hN hM.1 rfl hM) rfl rfl hl.1 rfl (lv_room (Nat.le_of_ble_eq_true rfl)) dX8_tick_90 ⟨Nat.le_of_ble_eq_true rfl, Nat.le_of_ble_eq_true rfl⟩) hS (fun q _ h => h) (fun q h => h) (fun H locs hM hk hS => ?_)
                clear hk
                refine kb_if_eq (tgt := 119) hx hb dX8_tick_93 (by decide) (fun hdn => ?_) (fun hdn => ?_)
                · have hdn := of_decide_eq_false hdn
                  have e9 : cyK (tkA z) (k + 1) = writesF x k (Sp x) := by
                    show cyS k (cyK (tkA z) k) = _
                    rw [hxd]; simp [cyS, *]
                  have hM : MdC D (cs 0) a (cyK (tkA z) (k + 1)) H := by rw [e9]; exact hM
                  have e8 : cyN (tkA z) (k + 1) = cyN (tkA z) k := by rw [cyN_s, hxd]; simp [cyD, *]
                  refine lv_iinc (v := nI (k + 1)) (lv' := [(2, .int (nI (k + 1))), (0, .ref (a)), (1, .int (nI (cyN (tkA z) k)))]) (k := 2) hx hb dX8_tick_119 hl rfl (nI_add _ _) (by decide) rfl (fun ls hl => ?_)
                  refine lv_goto (tgt := 62) hx hb dX8_tick_122 (by decide) ?_
                  exact ih62 (k + 1) _ _ _ (by omega) (by omega) hM hS (by rw [e8]; exact lv_sub hl [1, 2, 0] rfl)
                · have hdn := of_decide_eq_true hdn
                  refine lv_aload_n hx hb dX8_tick_96 rfl (lv_at hl 0 rfl) ?_
                  refine lv_iload_n hx hb dX8_tick_97 rfl (lv_at hl 2 rfl) ?_
                  refine lv_iconst (v := nI 5) hx hb dX8_tick_98 (by decide) ?_
                  refine lv_iconst (v := nI 2) hx hb dX8_tick_99 (by decide) ?_
                  refine kx_retM (va_runV (As := [.int (nI (k)), .int (nI (5)), .int (nI (2))]) (rest := []) ⟨hx, hb, hml, hown, hts⟩ (k_X8_setMovePart l D cs a (writesF x k (Sp x)) k 5 (nI (2)) (by first | assumption | omega) (by first | assumption | omega)) (cwV 3 hts gX8_tick_X8_setMovePart rfl rfl rfl (by decide +kernel) ⟨Nat.le_of_ble_eq_true rfl, Nat.le_of_ble_eq_true rfl⟩) (kx_preV hK hN hM.1 rfl hM) rfl rfl hl.1 rfl (lv_room (Nat.le_of_ble_eq_true rfl)) dX8_tick_100 ⟨Nat.le_of_ble_eq_true rfl, Nat.le_of_ble_eq_true rfl⟩) hS (fun q _ h => h) (fun q h => h) (fun H locs hM hk hS => ?_)
                  clear hk
                  refine lv_aload_n hx hb dX8_tick_103 rfl (lv_at hl 0 rfl) ?_
                  refine lv_iload_n hx hb dX8_tick_104 rfl (lv_at hl 2 rfl) ?_
                  refine lv_bipush (v := nI 8) hx hb dX8_tick_105 (by decide) ?_
                  refine lv_aload_n hx hb dX8_tick_107 rfl (lv_at hl 0 rfl) ?_
                  refine kx_get (v := .ref (a + 1)) hx hb hts hinX8 hown hK hM.1 rfl 1 (by decide) (by decide +kernel) rfl dX8_tick_108 ?_
                  refine lv_iconst (v := nI 0) hx hb dX8_tick_111 (by decide) ?_
                  refine kx_iald (i := 0) hx hb hK hM.state 0 rfl (by decide) (by decide) dX8_tick_112 ?_
                  refine kx_ci (y := x 0) (by rw [upd_at, if_neg (by omega)]; exact writesF_out hx'.2 hkM _ (by omega) (by omega)) ?_
                  refine kx_retM (va_runV (As := [.int (nI (k)), .int (nI (8)), .int (x 0)]) (rest := []) ⟨hx, hb, hml, hown, hts⟩ (k_X8_setMovePart l D cs a (upd (writesF x k (Sp x)) (80 + 10 * k + 5) (nI (2))) k 8 (x 0) (by first | assumption | omega) (by first | assumption | omega)) (cwV 3 hts gX8_tick_X8_setMovePart rfl rfl rfl (by decide +kernel) ⟨Nat.le_of_ble_eq_true rfl, Nat.le_of_ble_eq_true rfl⟩) (kx_preV hK hN hM.1 rfl hM) rfl rfl hl.1 rfl (lv_room (Nat.le_of_ble_eq_true rfl)) dX8_tick_113 ⟨Nat.le_of_ble_eq_true rfl, Nat.le_of_ble_eq_true rfl⟩) hS (fun q _ h => h) (fun q h => h) (fun H locs hM hk hS => ?_)
                  clear hk
                  refine lv_iinc (v := nI (cyN (tkA z) k + 1)) (lv' := [(1, .int (nI (cyN (tkA z) k + 1))), (0, .ref (a)), (2, .int (nI (k)))]) (k := 1) hx hb dX8_tick_116 hl rfl (nI_add _ _) (by decide) rfl (fun ls hl => ?_)
                  have e9 : cyK (tkA z) (k + 1) = upd (upd (writesF x k (Sp x)) (80 + 10 * k + 5) (nI (2))) (80 + 10 * k + 8) (x 0) := by
                    show cyS k (cyK (tkA z) k) = _
                    rw [hxd]; simp [cyS, *]
                  have hM : MdC D (cs 0) a (cyK (tkA z) (k + 1)) H := by rw [e9]; exact hM
                  have e8 : cyN (tkA z) (k + 1) = cyN (tkA z) k + 1 := by rw [cyN_s, hxd]; simp [cyD, *]
                  refine lv_iinc (v := nI (k + 1)) (lv' := [(2, .int (nI (k + 1))), (1, .int (nI (cyN (tkA z) k + 1))), (0, .ref (a))]) (k := 2) hx hb dX8_tick_119 hl rfl (nI_add _ _) (by decide) rfl (fun ls hl => ?_)
                  refine lv_goto (tgt := 62) hx hb dX8_tick_122 (by decide) ?_
                  exact ih62 (k + 1) _ _ _ (by omega) (by omega) hM hS (by rw [e8]; exact lv_sub hl [2, 1, 0] rfl)
        exact J62 _ 0 _ _ _ (Nat.lt_succ_self _) (by omega) (by rw [cyK_0]; exact hM) hS (lv_sub hl [2, 1, 0] rfl)
      · have hkM : k < Mn y := by omega
        have hs3 := hy.2.s3 hkM
        have hwo := woN_lt y (l := k) (by omega)
        refine lv_aload_n hx hb dX8_tick_16 rfl (lv_at hl 0 rfl) ?_
        refine lv_iload_n hx hb dX8_tick_17 rfl (lv_at hl 1 rfl) ?_
        refine lv_iconst (v := nI 5) hx hb dX8_tick_18 (by decide) ?_
        refine kx_retP (va_runV (As := [.int (nI (k)), .int (nI (5))]) (rest := []) ⟨hx, hb, hml, hown, hts⟩ (k_X8_movePart l D cs a y k 5 (by first | assumption | omega) (by first | assumption | omega)) (cwV 2 hts gX8_tick_X8_movePart rfl rfl rfl (by decide +kernel) ⟨Nat.le_of_ble_eq_true rfl, Nat.le_of_ble_eq_true rfl⟩) (kx_preV hK hN hM.1 rfl hM) rfl rfl hl.1 rfl (lv_room (Nat.le_of_ble_eq_true rfl)) dX8_tick_19 ⟨Nat.le_of_ble_eq_true rfl, Nat.le_of_ble_eq_true rfl⟩) ?_
        refine kx_ci (y := nI (mS y k)) (Inv.m5 hy.2 (by first | assumption | omega)) ?_
        refine kn_if_ne (tgt := 52) hx hb dX8_tick_22 (by decide) (by omega) (fun c_4 => ?_) (fun c_4 => ?_)
        · have e9 : stK (sgF z) (k + 1) = y := by
            show stS k (stK (sgF z) k) = _
            rw [hyd]; simp [stS, *]
          have hM : MdC D (cs 0) a (stK (sgF z) (k + 1)) H := by rw [e9]; exact hM
          refine lv_iinc (v := nI (k + 1)) (lv' := [(1, .int (nI (k + 1))), (0, .ref (a))]) (k := 1) hx hb dX8_tick_52 hl rfl (nI_add _ _) (by decide) rfl (fun ls hl => ?_)
          refine lv_goto (tgt := 6) hx hb dX8_tick_55 (by decide) ?_
          exact ih6 (k + 1) _ _ _ (by omega) (by omega) hM hS (lv_sub hl [1, 0] rfl)
        · refine lv_aload_n hx hb dX8_tick_25 rfl (lv_at hl 0 rfl) ?_
          refine lv_iload_n hx hb dX8_tick_26 rfl (lv_at hl 1 rfl) ?_
          refine kx_retP (va_runV (As := [.int (nI (k))]) (rest := []) ⟨hx, hb, hml, hown, hts⟩ (k_X8_waitsOf l D cs a y k hy.2 (by first | assumption | omega)) (cwV 1 hts gX8_tick_X8_waitsOf rfl rfl rfl (by decide +kernel) ⟨Nat.le_of_ble_eq_true rfl, Nat.le_of_ble_eq_true rfl⟩) (kx_preV hK hN hM.1 rfl hM) rfl rfl hl.1 rfl (lv_room (Nat.le_of_ble_eq_true rfl)) dX8_tick_27 ⟨Nat.le_of_ble_eq_true rfl, Nat.le_of_ble_eq_true rfl⟩) ?_
          refine kn_if_ne (tgt := 52) hx hb dX8_tick_30 (by decide) (by omega) (fun c_5 => ?_) (fun c_5 => ?_)
          · have e9 : stK (sgF z) (k + 1) = y := by
              show stS k (stK (sgF z) k) = _
              rw [hyd]; simp [stS, *]
            have hM : MdC D (cs 0) a (stK (sgF z) (k + 1)) H := by rw [e9]; exact hM
            refine lv_iinc (v := nI (k + 1)) (lv' := [(1, .int (nI (k + 1))), (0, .ref (a))]) (k := 1) hx hb dX8_tick_52 hl rfl (nI_add _ _) (by decide) rfl (fun ls hl => ?_)
            refine lv_goto (tgt := 6) hx hb dX8_tick_55 (by decide) ?_
            exact ih6 (k + 1) _ _ _ (by omega) (by omega) hM hS (lv_sub hl [1, 0] rfl)
          · refine lv_aload_n hx hb dX8_tick_33 rfl (lv_at hl 0 rfl) ?_
            refine lv_iconst (v := nI 1) hx hb dX8_tick_34 (by decide) ?_
            refine kx_retP (va_runV (As := [.int (nI (1))]) (rest := []) ⟨hx, hb, hml, hown, hts⟩ (k_X8_movesIn l D cs a y 1 hy.2 (by first | assumption | omega)) (cwV 1 hts gX8_tick_X8_movesIn rfl rfl rfl (by decide +kernel) ⟨Nat.le_of_ble_eq_true rfl, Nat.le_of_ble_eq_true rfl⟩) (kx_preV hK hN hM.1 rfl hM) rfl rfl hl.1 rfl (lv_room (Nat.le_of_ble_eq_true rfl)) dX8_tick_35 ⟨Nat.le_of_ble_eq_true rfl, Nat.le_of_ble_eq_true rfl⟩) ?_
            refine lv_aload_n hx hb dX8_tick_38 rfl (lv_at hl 0 rfl) ?_
            refine kx_get (v := .ref (a + 1)) hx hb hts hinX8 hown hK hM.1 rfl 1 (by decide) (by decide +kernel) rfl dX8_tick_39 ?_
            refine lv_iconst (v := nI 2) hx hb dX8_tick_42 (by decide) ?_
            refine kx_iald (i := 2) hx hb hK hM.state 0 rfl (by decide) (by decide) dX8_tick_43 ?_
            refine lv_icmp_ge (tgt := 52) hx hb dX8_tick_44 (by decide) (fun c_6 => ?_) (fun c_6 => ?_)
            · have e9 : stK (sgF z) (k + 1) = y := by
                show stS k (stK (sgF z) k) = _
                rw [hyd]; simp [stS, *]
              have hM : MdC D (cs 0) a (stK (sgF z) (k + 1)) H := by rw [e9]; exact hM
              refine lv_iinc (v := nI (k + 1)) (lv' := [(1, .int (nI (k + 1))), (0, .ref (a))]) (k := 1) hx hb dX8_tick_52 hl rfl (nI_add _ _) (by decide) rfl (fun ls hl => ?_)
              refine lv_goto (tgt := 6) hx hb dX8_tick_55 (by decide) ?_
              exact ih6 (k + 1) _ _ _ (by omega) (by omega) hM hS (lv_sub hl [1, 0] rfl)
            · refine lv_aload_n hx hb dX8_tick_47 rfl (lv_at hl 0 rfl) ?_
              refine lv_iload_n hx hb dX8_tick_48 rfl (lv_at hl 1 rfl) ?_
              refine kx_retM (va_runV (As := [.int (nI (k))]) (rest := []) ⟨hx, hb, hml, hown, hts⟩ (k_X8_startMove l D cs a y k hy.2 (by first | assumption | omega)) (cwV 1 hts gX8_tick_X8_startMove rfl rfl rfl (by decide +kernel) ⟨Nat.le_of_ble_eq_true rfl, Nat.le_of_ble_eq_true rfl⟩) (kx_preV hK hN hM.1 rfl hM) rfl rfl hl.1 rfl (lv_room (Nat.le_of_ble_eq_true rfl)) dX8_tick_49 ⟨Nat.le_of_ble_eq_true rfl, Nat.le_of_ble_eq_true rfl⟩) hS (fun q _ h => h) (fun q h => h) (fun H locs hM hk hS => ?_)
              clear hk
              have e9 : stK (sgF z) (k + 1) = startF y k := by
                show stS k (stK (sgF z) k) = _
                rw [hyd]; simp [stS, *]
              have hM : MdC D (cs 0) a (stK (sgF z) (k + 1)) H := by rw [e9]; exact hM
              refine lv_iinc (v := nI (k + 1)) (lv' := [(1, .int (nI (k + 1))), (0, .ref (a))]) (k := 1) hx hb dX8_tick_52 hl rfl (nI_add _ _) (by decide) rfl (fun ls hl => ?_)
              refine lv_goto (tgt := 6) hx hb dX8_tick_55 (by decide) ?_
              exact ih6 (k + 1) _ _ _ (by omega) (by omega) hM hS (lv_sub hl [1, 0] rfl)
  exact J6 _ 0 _ _ _ (Nat.lt_succ_self _) (by omega) (by rw [stK_0]; exact hM) hS (lv_sub hl [1, 0] rfl)
set_option maxHeartbeats 1500000 in
set_option maxRecDepth 100000 in
theorem k_X8_passTicks (l : Launch) (D : va_G) (cs : Nat → ClassId) (a : Nat) (z : Nat → Int32) (t : Nat) (hI : Inv z) (ht : t ≤ 50) : Met l yX8_passTicks wsX8_passTicks ({ frames := 6, cells := 0, slots := 0, locals := 140 } : Room) (PcK D cs [.ref (a), .int (nI (t))] (fun H => MdC D (cs 0) a z H)) (QcM (some (.int (nI (psN z t)))) (fun H => MdC D (cs 0) a (psF z t) H) (rgM a)) 0 0 ((rgM a)) := by
  refine kx_met (cc := cX8_passTicks) (maxL := 4) (ret := (some .int)) (by decide) rfl (Nat.le_of_ble_eq_true rfl) ?_
  intro p e s m args below meth c hx hb hml hrt hts hown hlk hK hN hP ls hl
  have hl : lv_has ls 4 [(0, .ref (a)), (1, .int (nI (t)))] := hl
  obtain ⟨H, hHe⟩ : ∃ H : Heap, H = s.heap := ⟨_, rfl⟩
  rw [← hHe] at hP ⊢
  have hS : va_S ((rgM a)) s.heap H [] := by rw [← hHe]; exact va_S.rf
  have hM := hP
  refine lv_iconst (v := nI 0) hx hb dX8_passTicks_0 (by decide) ?_
  refine lv_istore_n (lv' := [(2, .int (nI (0))), (0, .ref (a)), (1, .int (nI (t)))]) hx hb dX8_passTicks_1 rfl hl (by decide) rfl (fun ls hl => ?_)
  refine lv_iconst (v := nI 0) hx hb dX8_passTicks_2 (by decide) ?_
  refine lv_istore_n (lv' := [(3, .int (nI (0))), (2, .int (nI (0))), (0, .ref (a)), (1, .int (nI (t)))]) hx hb dX8_passTicks_3 rfl hl (by decide) rfl (fun ls hl => ?_)
  have J4 : ∀ (n4 : Nat) (k : Nat) (H : Heap) (locs : List Loc) (ls : Array Slot), (t - k) < n4 → (k ≤ t) → (MdC D (cs 0) a (psF z k) H) → va_S ((rgM a)) s.heap H locs → lv_has ls 4 [(0, .ref (a)), (1, .int (nI (t))), (2, .int (nI (psN z k))), (3, .int (nI (k)))] → W p l e ({ frames := 6, cells := 0, slots := 0, locals := 140 } : Room) s m args below meth c H locs 0 0 (MQ below (QcM (some (.int (nI (psN z t)))) (fun H => MdC D (cs 0) a (psF z t) H) (rgM a)) args s 0 0 ((rgM a))) (F0 m 4 ls []) := by
    intro n4; induction n4 with
    | zero => intro k H locs ls hmu4 hk hM hS hl; exact absurd hmu4 (Nat.not_lt_zero _)
    | succ n4 ih4 =>
      intro k H locs ls hmu4 hk hM hS hl
      refine lv_iload_n hx hb dX8_passTicks_4 rfl (lv_at hl 3 rfl) ?_
      refine lv_iload_n hx hb dX8_passTicks_5 rfl (lv_at hl 1 rfl) ?_
      refine kn_icmp_ge (tgt := 22) hx hb dX8_passTicks_6 (by decide) (by omega) (by omega) (fun c_1 => ?_) (fun c_1 => ?_)
      · refine lv_iload_n hx hb dX8_passTicks_22 rfl (lv_at hl 2 rfl) ?_
        exact kx_iretM hx hb hrt hlk (by rw [show k = t by omega]) (by rw [show k = t by omega] at hM; exact hM) hS dX8_passTicks_23
      · refine lv_iload_n hx hb dX8_passTicks_9 rfl (lv_at hl 2 rfl) ?_
        refine lv_aload_n hx hb dX8_passTicks_10 rfl (lv_at hl 0 rfl) ?_
        refine kx_retM (va_runV (As := []) (rest := [.int (nI (psN z k))]) ⟨hx, hb, hml, hown, hts⟩ (k_X8_tick l D cs a (psF z k) (psF_si hI k).2) (cwV 0 hts gX8_passTicks_X8_tick rfl rfl rfl (by decide +kernel) ⟨Nat.le_of_ble_eq_true rfl, Nat.le_of_ble_eq_true rfl⟩) (kx_preV hK hN hM.1 rfl hM) rfl rfl hl.1 rfl (lv_room (Nat.le_of_ble_eq_true rfl)) dX8_passTicks_11 ⟨Nat.le_of_ble_eq_true rfl, Nat.le_of_ble_eq_true rfl⟩) hS (fun q _ h => h) (fun q h => h) (fun H locs hM hk hS => ?_)
        clear hk
        have hM : MdC D (cs 0) a (psF z (k + 1)) H := hM
        refine kn_add hx hb dX8_passTicks_14 ?_
        refine kx_ci (x := nI (psN z k + (tickN (psF z k)))) (y := nI (psN z (k + 1))) rfl ?_
        refine lv_istore_n (lv' := [(2, .int (nI (psN z (k + 1)))), (0, .ref (a)), (1, .int (nI (t))), (3, .int (nI (k)))]) hx hb dX8_passTicks_15 rfl hl (by decide) rfl (fun ls hl => ?_)
        refine lv_iinc (v := nI (k + 1)) (lv' := [(3, .int (nI (k + 1))), (2, .int (nI (psN z (k + 1)))), (0, .ref (a)), (1, .int (nI (t)))]) (k := 3) hx hb dX8_passTicks_16 hl rfl (nI_add _ _) (by decide) rfl (fun ls hl => ?_)
        refine lv_goto (tgt := 4) hx hb dX8_passTicks_19 (by decide) ?_
        exact ih4 (k + 1) _ _ _ (by omega) (by omega) hM hS (lv_sub hl [2, 3, 1, 0] rfl)
  exact J4 _ 0 _ _ _ (Nat.lt_succ_self _) (by omega) hM hS (lv_sub hl [2, 3, 1, 0] rfl)
