theorem ifL (p : Prop) [Decidable p] {a b n : Nat} (ha : a < n) (hb : b < n) : (if p then a else b) < n := by
  by_cases h : p
  · rw [if_pos h]; exact ha
  · rw [if_neg h]; exact hb

set_option maxHeartbeats 2500000 in
set_option maxRecDepth 100000 in
theorem k_X8_stuck (l : Launch) (D : va_G) (cs : Nat → ClassId) (a : Nat) (z : Nat → Int32) (hZ : InvZ z) : Met l yX8_stuck wsX8_stuck ({ frames := 6, cells := 0, slots := 0, locals := 140 } : Room) (PcK D cs [.ref (a)] (fun H => MdC D (cs 0) a z H)) (QcM (some (.int (nI (skI z)))) (fun H => MdC D (cs 0) a (if skB z = true then cpZ (psF (kpt z) 60) 704 0 else t0 z) H) (rgM a)) 0 0 ((rgM a)) := by
  refine kx_met (cc := cX8_stuck) (maxL := 3) (ret := (some .int)) (by decide) rfl (Nat.le_of_ble_eq_true rfl) ?_
  intro p e s m args below meth c hx hb hml hrt hts hown hlk hK hN hP ls hl
  have hl : lv_has ls 3 [(0, .ref (a))] := hl
  obtain ⟨H, hHe⟩ : ∃ H : Heap, H = s.heap := ⟨_, rfl⟩
  rw [← hHe] at hP ⊢
  have hS : va_S ((rgM a)) s.heap H [] := by rw [← hHe]; exact va_S.rf
  have hinX8 : ∀ w ∈ wsX80, w ∈ wsX8_stuck := by decide +kernel
  have hM := hP
  have hI := hZ.1
  have hkI := kpt_inv hI
  have hit : Inv (t0 z) := th_inv hI (nI 0)
  have hmx : ∀ s, msN (t0 z) s ≤ 24 := fun s => Nat.le_trans (msK_le _ _ _) hit.M24
  refine lv_aload_n hx hb dX8_stuck_0 rfl (lv_at hl 0 rfl) ?_
  refine lv_iconst (v := nI 0) hx hb dX8_stuck_1 (by decide) ?_
  refine kx_put hx hb hts hinX8 tyX8_ok nmX8 hown hK hM.1 rfl hS ⟨by omega, by omega⟩ 0 (by decide) (by decide +kernel) rfl rfl rfl (Nat.le_of_ble_eq_true rfl) dX8_stuck_2 (fun H locs hc hU hS => ?_)
  have hM := hM.put_thrown hc hU
  clear hc hU
  have hM : MdC D (cs 0) a (t0 z) H := hM
  refine lv_aload_n hx hb dX8_stuck_5 rfl (lv_at hl 0 rfl) ?_
  refine lv_iconst (v := nI 0) hx hb dX8_stuck_6 (by decide) ?_
  refine kx_retP (va_runV (As := [.int (nI (0))]) (rest := []) ⟨hx, hb, hml, hown, hts⟩ (k_X8_movesIn l D cs a (t0 z) 0 hit (by first | assumption | omega)) (cwV 1 hts gX8_stuck_X8_movesIn rfl rfl rfl (by decide +kernel) ⟨Nat.le_of_ble_eq_true rfl, Nat.le_of_ble_eq_true rfl⟩) (kx_preV hK hN hM.1 rfl hM) rfl rfl hl.1 rfl (lv_room (Nat.le_of_ble_eq_true rfl)) dX8_stuck_7 ⟨Nat.le_of_ble_eq_true rfl, Nat.le_of_ble_eq_true rfl⟩) ?_
  refine lv_istore_n (lv' := [(1, .int (nI (msN (t0 z) 0))), (0, .ref (a))]) hx hb dX8_stuck_10 rfl hl (by decide) rfl (fun ls hl => ?_)
  refine lv_iload_n hx hb dX8_stuck_11 rfl (lv_at hl 0 rfl) ?_
  refine kn_if_eq (tgt := 23) hx hb dX8_stuck_12 (by decide) (by have := hmx 0; omega) (fun c_1 => ?_) (fun c_1 => ?_)
  · refine lv_iconst (v := nI 0) hx hb dX8_stuck_23 (by decide) ?_
    exact kx_iretM hx hb hrt hlk (by unfold skI; rw [if_neg (by simp [skB, *])]) (by rw [if_neg (by simp [skB, *])]; exact hM) hS dX8_stuck_24
  · refine lv_aload_n hx hb dX8_stuck_15 rfl (lv_at hl 1 rfl) ?_
    refine lv_iconst (v := nI 1) hx hb dX8_stuck_16 (by decide) ?_
    refine kx_retP (va_runV (As := [.int (nI (1))]) (rest := []) ⟨hx, hb, hml, hown, hts⟩ (k_X8_movesIn l D cs a (t0 z) 1 hit (by first | assumption | omega)) (cwV 1 hts gX8_stuck_X8_movesIn rfl rfl rfl (by decide +kernel) ⟨Nat.le_of_ble_eq_true rfl, Nat.le_of_ble_eq_true rfl⟩) (kx_preV hK hN hM.1 rfl hM) rfl rfl hl.1 rfl (lv_room (Nat.le_of_ble_eq_true rfl)) dX8_stuck_17 ⟨Nat.le_of_ble_eq_true rfl, Nat.le_of_ble_eq_true rfl⟩) ?_
    refine kn_if_le (tgt := 25) hx hb dX8_stuck_20 (by decide) (by have := hmx 1; omega) (fun c_2 => ?_) (fun c_2 => ?_)
    · refine lv_aload_n hx hb dX8_stuck_25 rfl (lv_at hl 1 rfl) ?_
      refine kx_get (v := .ref (a + 1)) hx hb hts hinX8 hown hK hM.1 rfl 1 (by decide) (by decide +kernel) rfl dX8_stuck_26 ?_
      refine lv_iconst (v := nI 0) hx hb dX8_stuck_29 (by decide) ?_
      refine lv_aload_n hx hb dX8_stuck_30 rfl (lv_at hl 1 rfl) ?_
      refine kx_get (v := .ref (a + 2)) hx hb hts hinX8 hown hK hM.1 rfl 2 (by decide) (by decide +kernel) rfl dX8_stuck_31 ?_
      refine lv_iconst (v := nI 0) hx hb dX8_stuck_34 (by decide) ?_
      refine kx_retM (va_runS (As := [.ref (a + 1), .int (nI (0)), .ref (a + 2), .int (nI (0))]) (rest := []) ⟨hx, hb, hml, hown, hts⟩ (k_X8_copy l D cs (a + 1) (a + 2) 704 704 0 0 (fun j => (t0 z) j) (fun j => (t0 z) (704 + j)) (by omega) (by omega) (by omega) (by decide) (by decide)) (cwS 4 hts gX8_stuck_X8_copy rfl rfl rfl (by decide +kernel) ⟨Nat.le_of_ble_eq_true rfl, Nat.le_of_ble_eq_true rfl⟩) (kx_preS hK hN ⟨hM.state, hM.kept⟩) rfl rfl hl.1 rfl (lv_room (Nat.le_of_ble_eq_true rfl)) dX8_stuck_35 ⟨Nat.le_of_ble_eq_true rfl, Nat.le_of_ble_eq_true rfl⟩) hS (fun q h1 (h : q = a + 2) => by subst h; exact ⟨by omega, by omega⟩) (fun q (h : q = a + 2) => by subst h; exact ⟨by omega, by omega⟩) (fun H locs hc hk hS => ?_)
      have hM := hM.cp_kept (src := 0) (F := (fun j => (t0 z) j)) (fun j hj => congrArg (t0 z) (by omega)) hc (fun q h1 h2 h3 => hk.2 q (hM.lt q h1 h2) h3)
      clear hc hk
      have hM : MdC D (cs 0) a (kpt z) H := hM
      refine lv_iconst (v := nI 0) hx hb dX8_stuck_38 (by decide) ?_
      refine lv_istore_n (lv' := [(2, .int (nI (0))), (1, .int (nI (msN (t0 z) 0))), (0, .ref (a))]) hx hb dX8_stuck_39 rfl hl (by decide) rfl (fun ls hl => ?_)
      have J40 : ∀ (fu40 : Nat) (k : Nat) (H : Heap) (locs : List Loc) (ls : Array Slot), (60 - k) < fu40 → (k ≤ 60) → (MdC D (cs 0) a (psF (kpt z) k) H) → va_S ((rgM a)) s.heap H locs → lv_has ls 3 [(0, .ref (a)), (1, .int (nI (msN (t0 z) 0))), (2, .int (nI (k)))] → W p l e ({ frames := 6, cells := 0, slots := 0, locals := 140 } : Room) s m args below meth c H locs 0 0 (MQ below (QcM (some (.int (nI (skI z)))) (fun H => MdC D (cs 0) a (if skB z = true then cpZ (psF (kpt z) 60) 704 0 else t0 z) H) (rgM a)) args s 0 0 ((rgM a))) (F0 m 40 ls []) := by
        intro fu40; induction fu40 with
        | zero => intro k H locs ls hmu40 hk hM hS hl; exact absurd hmu40 (Nat.not_lt_zero _)
        | succ fu40 ih40 =>
          intro k H locs ls hmu40 hk hM hS hl
          have hy := psF_si hkI k
          refine lv_iload_n hx hb dX8_stuck_40 rfl (lv_at hl 2 rfl) ?_
          refine lv_bipush (v := nI 60) hx hb dX8_stuck_41 (by decide) ?_
          refine kn_icmp_ge (tgt := 57) hx hb dX8_stuck_43 (by decide) (by omega) (by decide) (fun c_3 => ?_) (fun c_3 => ?_)
          · have hkk : k = 60 := by omega
            have hmx2 : msN (psF (kpt z) k) 0 ≤ 24 := Nat.le_trans (msK_le _ _ _) hy.2.M24
            refine lv_aload_n hx hb dX8_stuck_57 rfl (lv_at hl 0 rfl) ?_
            refine lv_iconst (v := nI 0) hx hb dX8_stuck_58 (by decide) ?_
            refine kx_retP (va_runV (As := [.int (nI (0))]) (rest := []) ⟨hx, hb, hml, hown, hts⟩ (k_X8_movesIn l D cs a (psF (kpt z) k) 0 hy.2 (by first | assumption | omega)) (cwV 1 hts gX8_stuck_X8_movesIn rfl rfl rfl (by decide +kernel) ⟨Nat.le_of_ble_eq_true rfl, Nat.le_of_ble_eq_true rfl⟩) (kx_preV hK hN hM.1 rfl hM) rfl rfl hl.1 rfl (lv_room (Nat.le_of_ble_eq_true rfl)) dX8_stuck_59 ⟨Nat.le_of_ble_eq_true rfl, Nat.le_of_ble_eq_true rfl⟩) ?_
            refine lv_iload_n hx hb dX8_stuck_62 rfl (lv_at hl 1 rfl) ?_
            refine kn_icmp_ne (tgt := 70) hx hb dX8_stuck_63 (by decide) (by omega) (by have := hmx 0; omega) (fun c_4 => ?_) (fun c_4 => ?_)
            · refine lv_iconst (v := nI 0) hx hb dX8_stuck_70 (by decide) ?_
              refine kx_ci (x := nI (0)) (y := nI (skI z)) (by unfold skI; rw [if_pos (by simp [skB, *]), ← hkk]; first | rw [if_pos (by assumption)] | rw [if_neg (by assumption)]) ?_
              refine lv_istore_n (lv' := [(2, .int (nI (skI z))), (0, .ref (a)), (1, .int (nI (msN (t0 z) 0)))]) hx hb dX8_stuck_71 rfl hl (by decide) rfl (fun ls hl => ?_)
              refine lv_aload_n hx hb dX8_stuck_72 rfl (lv_at hl 1 rfl) ?_
              refine kx_get (v := .ref (a + 2)) hx hb hts hinX8 hown hK hM.1 rfl 2 (by decide) (by decide +kernel) rfl dX8_stuck_73 ?_
              refine lv_iconst (v := nI 0) hx hb dX8_stuck_76 (by decide) ?_
              refine lv_aload_n hx hb dX8_stuck_77 rfl (lv_at hl 1 rfl) ?_
              refine kx_get (v := .ref (a + 1)) hx hb hts hinX8 hown hK hM.1 rfl 1 (by decide) (by decide +kernel) rfl dX8_stuck_78 ?_
              refine lv_iconst (v := nI 0) hx hb dX8_stuck_81 (by decide) ?_
              refine kx_retM (va_runS (As := [.ref (a + 2), .int (nI (0)), .ref (a + 1), .int (nI (0))]) (rest := []) ⟨hx, hb, hml, hown, hts⟩ (k_X8_copy l D cs (a + 2) (a + 1) 704 704 0 0 (fun j => (psF (kpt z) k) (704 + j)) (fun j => (psF (kpt z) k) j) (by omega) (by omega) (by omega) (by decide) (by decide)) (cwS 4 hts gX8_stuck_X8_copy rfl rfl rfl (by decide +kernel) ⟨Nat.le_of_ble_eq_true rfl, Nat.le_of_ble_eq_true rfl⟩) (kx_preS hK hN ⟨hM.kept, hM.state⟩) rfl rfl hl.1 rfl (lv_room (Nat.le_of_ble_eq_true rfl)) dX8_stuck_82 ⟨Nat.le_of_ble_eq_true rfl, Nat.le_of_ble_eq_true rfl⟩) hS (fun q h1 (h : q = a + 1) => by subst h; exact ⟨by omega, by omega⟩) (fun q (h : q = a + 1) => by subst h; exact ⟨by omega, by omega⟩) (fun H locs hc hk hS => ?_)
              have hM := hM.cp_state (sp := 0) (src := 704) (F := (fun j => (psF (kpt z) k) (704 + j))) (fun j hj => congrArg (psF (kpt z) k) (by omega)) hc (fun q h1 h2 h3 => hk.2 q (hM.lt q h1 h2) h3)
              clear hc hk
              refine lv_iload_n hx hb dX8_stuck_85 rfl (lv_at hl 0 rfl) ?_
              exact kx_iretM hx hb hrt hlk rfl (by rw [if_pos (by simp [skB, *]), ← hkk]; exact hM) hS dX8_stuck_86
            · refine lv_iconst (v := nI 1) hx hb dX8_stuck_66 (by decide) ?_
              refine lv_goto (tgt := 71) hx hb dX8_stuck_67 (by decide) ?_
              refine kx_ci (x := nI (1)) (y := nI (skI z)) (by unfold skI; rw [if_pos (by simp [skB, *]), ← hkk]; first | rw [if_pos (by assumption)] | rw [if_neg (by assumption)]) ?_
              refine lv_istore_n (lv' := [(2, .int (nI (skI z))), (0, .ref (a)), (1, .int (nI (msN (t0 z) 0)))]) hx hb dX8_stuck_71 rfl hl (by decide) rfl (fun ls hl => ?_)
              refine lv_aload_n hx hb dX8_stuck_72 rfl (lv_at hl 1 rfl) ?_
              refine kx_get (v := .ref (a + 2)) hx hb hts hinX8 hown hK hM.1 rfl 2 (by decide) (by decide +kernel) rfl dX8_stuck_73 ?_
              refine lv_iconst (v := nI 0) hx hb dX8_stuck_76 (by decide) ?_
              refine lv_aload_n hx hb dX8_stuck_77 rfl (lv_at hl 1 rfl) ?_
              refine kx_get (v := .ref (a + 1)) hx hb hts hinX8 hown hK hM.1 rfl 1 (by decide) (by decide +kernel) rfl dX8_stuck_78 ?_
              refine lv_iconst (v := nI 0) hx hb dX8_stuck_81 (by decide) ?_
              refine kx_retM (va_runS (As := [.ref (a + 2), .int (nI (0)), .ref (a + 1), .int (nI (0))]) (rest := []) ⟨hx, hb, hml, hown, hts⟩ (k_X8_copy l D cs (a + 2) (a + 1) 704 704 0 0 (fun j => (psF (kpt z) k) (704 + j)) (fun j => (psF (kpt z) k) j) (by omega) (by omega) (by omega) (by decide) (by decide)) (cwS 4 hts gX8_stuck_X8_copy rfl rfl rfl (by decide +kernel) ⟨Nat.le_of_ble_eq_true rfl, Nat.le_of_ble_eq_true rfl⟩) (kx_preS hK hN ⟨hM.kept, hM.state⟩) rfl rfl hl.1 rfl (lv_room (Nat.le_of_ble_eq_true rfl)) dX8_stuck_82 ⟨Nat.le_of_ble_eq_true rfl, Nat.le_of_ble_eq_true rfl⟩) hS (fun q h1 (h : q = a + 1) => by subst h; exact ⟨by omega, by omega⟩) (fun q (h : q = a + 1) => by subst h; exact ⟨by omega, by omega⟩) (fun H locs hc hk hS => ?_)
              have hM := hM.cp_state (sp := 0) (src := 704) (F := (fun j => (psF (kpt z) k) (704 + j))) (fun j hj => congrArg (psF (kpt z) k) (by omega)) hc (fun q h1 h2 h3 => hk.2 q (hM.lt q h1 h2) h3)
              clear hc hk
              refine lv_iload_n hx hb dX8_stuck_85 rfl (lv_at hl 0 rfl) ?_
              exact kx_iretM hx hb hrt hlk rfl (by rw [if_pos (by simp [skB, *]), ← hkk]; exact hM) hS dX8_stuck_86
          · refine lv_aload_n hx hb dX8_stuck_46 rfl (lv_at hl 0 rfl) ?_
            refine kx_retM (va_runV (As := []) (rest := []) ⟨hx, hb, hml, hown, hts⟩ (k_X8_tick l D cs a (psF (kpt z) k) hy.2) (cwV 0 hts gX8_stuck_X8_tick rfl rfl rfl (by decide +kernel) ⟨Nat.le_of_ble_eq_true rfl, Nat.le_of_ble_eq_true rfl⟩) (kx_preV hK hN hM.1 rfl hM) rfl rfl hl.1 rfl (lv_room (Nat.le_of_ble_eq_true rfl)) dX8_stuck_47 ⟨Nat.le_of_ble_eq_true rfl, Nat.le_of_ble_eq_true rfl⟩) hS (fun q _ h => h) (fun q h => h) (fun H locs hM hk hS => ?_)
            clear hk
            have hM : MdC D (cs 0) a (psF (kpt z) (k + 1)) H := hM
            refine lv_pop hx hb dX8_stuck_50 rfl ?_
            refine lv_iinc (v := nI (k + 1)) (lv' := [(2, .int (nI (k + 1))), (0, .ref (a)), (1, .int (nI (msN (t0 z) 0)))]) (k := 2) hx hb dX8_stuck_51 hl rfl (nI_add _ _) (by decide) rfl (fun ls hl => ?_)
            refine lv_goto (tgt := 40) hx hb dX8_stuck_54 (by decide) ?_
            exact ih40 (k + 1) _ _ _ (by omega) (by omega) hM hS (lv_sub hl [1, 2, 0] rfl)
      exact J40 _ 0 _ _ _ (Nat.lt_succ_self _) (by omega) (by rw [psF_0]; exact hM) hS (lv_sub hl [2, 1, 0] rfl)
    · refine lv_iconst (v := nI 0) hx hb dX8_stuck_23 (by decide) ?_
      exact kx_iretM hx hb hrt hlk (by unfold skI; rw [if_neg (by simp [skB, *])]) (by rw [if_neg (by simp [skB, *])]; exact hM) hS dX8_stuck_24
set_option maxHeartbeats 2500000 in
set_option maxRecDepth 100000 in
theorem k_X8_cellSet (l : Launch) (D : va_G) (cs : Nat → ClassId) (a : Nat) (z : Nat → Int32) (x : Int32) (y : Bool) (hZ : InvZ z) : Met l yX8_cellSet wsX8_cellSet ({ frames := 2, cells := 0, slots := 0, locals := 45 } : Room) (PcK D cs [.ref (a), .int (x), .int (bI (y))] (fun H => MdC D (cs 0) a z H)) (QcM (some (.long (if mwN z x = 0 then lN (csN (t0 z) y (nn x)) else lN 0))) (fun H => MdC D (cs 0) a (upd z 4403 (nI (mwN z x))) H) (rgM a)) 0 0 ((rgM a)) := by
  refine kx_met (cc := cX8_cellSet) (maxL := 6) (ret := (some .long)) (by decide) rfl (Nat.le_of_ble_eq_true rfl) ?_
  intro p e s m args below meth c hx hb hml hrt hts hown hlk hK hN hP ls hl
  have hl : lv_has ls 6 [(0, .ref (a)), (1, .int (x)), (2, .int (bI (y)))] := hl
  obtain ⟨H, hHe⟩ : ∃ H : Heap, H = s.heap := ⟨_, rfl⟩
  rw [← hHe] at hP ⊢
  have hS : va_S ((rgM a)) s.heap H [] := by rw [← hHe]; exact va_S.rf
  have hinX8 : ∀ w ∈ wsX80, w ∈ wsX8_cellSet := by decide +kernel
  have hM := hP
  have hI := hZ.1
  refine lv_aload_n hx hb dX8_cellSet_0 rfl (lv_at hl 0 rfl) ?_
  refine lv_aload_n hx hb dX8_cellSet_1 rfl (lv_at hl 0 rfl) ?_
  refine lv_iload_n hx hb dX8_cellSet_2 rfl (lv_at hl 1 rfl) ?_
  refine kx_retP (va_runV (As := [.int (x)]) (rest := [.ref (a)]) ⟨hx, hb, hml, hown, hts⟩ (k_X8_isMove l D cs a z x hI) (cwV 1 hts gX8_cellSet_X8_isMove rfl rfl rfl (by decide +kernel) ⟨Nat.le_of_ble_eq_true rfl, Nat.le_of_ble_eq_true rfl⟩) (kx_preV hK hN hM.1 rfl hM) rfl rfl hl.1 rfl (lv_room (Nat.le_of_ble_eq_true rfl)) dX8_cellSet_3 ⟨Nat.le_of_ble_eq_true rfl, Nat.le_of_ble_eq_true rfl⟩) ?_
  refine kb_if_eq (tgt := 13) hx hb dX8_cellSet_6 (by decide) (fun c_1 => ?_) (fun c_1 => ?_)
  · refine lv_iconst (v := nI 1) hx hb dX8_cellSet_13 (by decide) ?_
    refine kx_ci (x := nI (1)) (y := nI (mwN z x)) (congrArg nI (by first | (simp [mwN, *]; done) | (exfalso; omega) | (exfalso; simp_all; done))) ?_
    refine kx_put hx hb hts hinX8 tyX8_ok nmX8 hown hK hM.1 rfl hS ⟨by omega, by omega⟩ 0 (by decide) (by decide +kernel) rfl rfl rfl (Nat.le_of_ble_eq_true rfl) dX8_cellSet_14 (fun H locs hc hU hS => ?_)
    have hM := hM.put_thrown hc hU
    clear hc hU
    refine lv_aload_n hx hb dX8_cellSet_17 rfl (lv_at hl 0 rfl) ?_
    refine kx_get (v := .int ((upd z 4403 (nI (mwN z x))) 4403)) hx hb hts hinX8 hown hK hM.1 rfl 0 (by decide) (by decide +kernel) rfl dX8_cellSet_18 ?_
    refine kx_ci (y := nI (mwN z x)) pk_us ?_
    refine kn_if_le (tgt := 26) hx hb dX8_cellSet_21 (by decide) (lt31 (mwN_2 _ _)) (fun hw0 => ?_) (fun hw0 => ?_)
    · rw [hw0] at hM
      obtain ⟨q, hq, rfl⟩ := mwN_0 hI hw0
      have hnq : nn (nI q) = q := nn_nI (by have := hI.M24; omega)
      have hit : Inv (t0 z) := th_inv hI (nI 0)
      have hc16 := hit.c16 hq
      have hq24 : q < 24 := by have := hI.M24; omega
      refine lv_lconst (v := lN 0) hx hb dX8_cellSet_26 rfl ?_
      refine lv_lstore_n (lv' := [(3, .long (lN (0))), (0, .ref (a)), (1, .int (nI (q))), (2, .int (bI (y)))]) hx hb dX8_cellSet_27 rfl hl (by decide) rfl (fun ls hl => ?_)
      refine lv_iconst (v := nI 0) hx hb dX8_cellSet_28 (by decide) ?_
      refine lv_istore (lv' := [(5, .int (nI (0))), (3, .long (lN (0))), (0, .ref (a)), (1, .int (nI (q))), (2, .int (bI (y)))]) hx hb dX8_cellSet_29 hl (by decide) rfl (fun ls hl => ?_)
      have J31 : ∀ (fu31 : Nat) (k : Nat) (H : Heap) (locs : List Loc) (ls : Array Slot), (mC (t0 z) q - k) < fu31 → (k ≤ mC (t0 z) q) → (MdC D (cs 0) a (t0 z) H) → va_S ((rgM a)) s.heap H locs → lv_has ls 6 [(0, .ref (a)), (1, .int (nI (q))), (2, .int (bI (y))), (3, .long (lN (csK (t0 z) y q k))), (5, .int (nI (k)))] → W p l e ({ frames := 2, cells := 0, slots := 0, locals := 45 } : Room) s m args below meth c H locs 0 0 (MQ below (QcM (some (.long (if mwN z (nI q) = 0 then lN (csN (t0 z) y (nn (nI q))) else lN 0))) (fun H => MdC D (cs 0) a (upd z 4403 (nI (mwN z (nI q)))) H) (rgM a)) args s 0 0 ((rgM a))) (F0 m 31 ls []) := by
        intro fu31; induction fu31 with
        | zero => intro k H locs ls hmu31 hk hM hS hl; exact absurd hmu31 (Nat.not_lt_zero _)
        | succ fu31 ih31 =>
          intro k H locs ls hmu31 hk hM hS hl
          refine lv_iload hx hb dX8_cellSet_31 (lv_at hl 4 rfl) ?_
          refine lv_aload_n hx hb dX8_cellSet_33 rfl (lv_at hl 0 rfl) ?_
          refine lv_iload_n hx hb dX8_cellSet_34 rfl (lv_at hl 1 rfl) ?_
          refine lv_iconst (v := nI 4) hx hb dX8_cellSet_35 (by decide) ?_
          refine kx_retP (va_runV (As := [.int (nI (q)), .int (nI (4))]) (rest := [.int (nI (k))]) ⟨hx, hb, hml, hown, hts⟩ (k_X8_movePart l D cs a (t0 z) q 4 (by first | assumption | omega) (by first | assumption | omega)) (cwV 2 hts gX8_cellSet_X8_movePart rfl rfl rfl (by decide +kernel) ⟨Nat.le_of_ble_eq_true rfl, Nat.le_of_ble_eq_true rfl⟩) (kx_preV hK hN hM.1 rfl hM) rfl rfl hl.1 rfl (lv_room (Nat.le_of_ble_eq_true rfl)) dX8_cellSet_36 ⟨Nat.le_of_ble_eq_true rfl, Nat.le_of_ble_eq_true rfl⟩) ?_
          refine kx_ci (y := nI (mC (t0 z) q)) (Inv.m4 (th_inv hI _) (by first | assumption | omega)) ?_
          refine kn_icmp_ge (tgt := 74) hx hb dX8_cellSet_39 (by decide) (by omega) (by omega) (fun c_2 => ?_) (fun c_2 => ?_)
          · refine lv_lload_n hx hb dX8_cellSet_74 rfl (lv_at hl 3 rfl) ?_
            exact kx_lretM hx hb hrt hlk (by rw [if_pos hw0, hnq, show k = mC (t0 z) q by omega]; rfl) (by rw [hw0]; exact hM) hS dX8_cellSet_75
          · refine lv_lload_n hx hb dX8_cellSet_42 rfl (lv_at hl 3 rfl) ?_
            refine lv_lconst (v := lN 1) hx hb dX8_cellSet_43 rfl ?_
            refine lv_iload_n hx hb dX8_cellSet_44 rfl (lv_at hl 2 rfl) ?_
            refine kb_if_eq (tgt := 58) hx hb dX8_cellSet_45 (by decide) (fun c_3 => ?_) (fun c_3 => ?_)
            · refine lv_aload_n hx hb dX8_cellSet_58 rfl (lv_at hl 0 rfl) ?_
              refine lv_iload_n hx hb dX8_cellSet_59 rfl (lv_at hl 1 rfl) ?_
              refine lv_iload hx hb dX8_cellSet_60 (lv_at hl 4 rfl) ?_
              refine kx_retP (va_runV (As := [.int (nI (q)), .int (nI (k))]) (rest := [.long (lN (1)), .long (lN (csK (t0 z) y q k))]) ⟨hx, hb, hml, hown, hts⟩ (k_X8_sourceCell l D cs a (t0 z) q k (th_inv hI _) (by first | assumption | omega) (by first | assumption | omega)) (cwV 2 hts gX8_cellSet_X8_sourceCell rfl rfl rfl (by decide +kernel) ⟨Nat.le_of_ble_eq_true rfl, Nat.le_of_ble_eq_true rfl⟩) (kx_preV hK hN hM.1 rfl hM) rfl rfl hl.1 rfl (lv_room (Nat.le_of_ble_eq_true rfl)) dX8_cellSet_62 ⟨Nat.le_of_ble_eq_true rfl, Nat.le_of_ble_eq_true rfl⟩) ?_
              have hs48 := hit.src48 hq k
              have ht48 := hit.tgt48 hq k
              have hX : (if y = true then tgtC (t0 z) q k else srcC (t0 z) q k) < 48 := ifL (y = true) ht48 hs48
              refine kx_ci (x := nI (srcC (t0 z) q k)) (y := nI (if y = true then tgtC (t0 z) q k else srcC (t0 z) q k)) (congrArg nI (by simp [*])) ?_
              refine kl_bit hx hb (by omega) dX8_cellSet_65 ?_
              refine kl_or hx hb dX8_cellSet_66 ?_
              refine kx_cl (x := lN ((csK (t0 z) y q k) ||| (2 ^ (if y = true then tgtC (t0 z) q k else srcC (t0 z) q k)))) (y := lN (csK (t0 z) y q (k + 1))) rfl ?_
              refine lv_lstore_n (lv' := [(3, .long (lN (csK (t0 z) y q (k + 1)))), (0, .ref (a)), (1, .int (nI (q))), (2, .int (bI (y))), (5, .int (nI (k)))]) hx hb dX8_cellSet_67 rfl hl (by decide) rfl (fun ls hl => ?_)
              refine lv_iinc (v := nI (k + 1)) (lv' := [(5, .int (nI (k + 1))), (3, .long (lN (csK (t0 z) y q (k + 1)))), (0, .ref (a)), (1, .int (nI (q))), (2, .int (bI (y)))]) (k := 4) hx hb dX8_cellSet_68 hl rfl (nI_add _ _) (by decide) rfl (fun ls hl => ?_)
              refine lv_goto (tgt := 31) hx hb dX8_cellSet_71 (by decide) ?_
              exact ih31 (k + 1) _ _ _ (by omega) (by omega) hM hS (lv_sub hl [2, 3, 4, 1, 0] rfl)
            · refine lv_aload_n hx hb dX8_cellSet_48 rfl (lv_at hl 0 rfl) ?_
              refine lv_iload_n hx hb dX8_cellSet_49 rfl (lv_at hl 1 rfl) ?_
              refine lv_iload hx hb dX8_cellSet_50 (lv_at hl 4 rfl) ?_
              refine kx_retP (va_runV (As := [.int (nI (q)), .int (nI (k))]) (rest := [.long (lN (1)), .long (lN (csK (t0 z) y q k))]) ⟨hx, hb, hml, hown, hts⟩ (k_X8_targetCell l D cs a (t0 z) q k (th_inv hI _) (by first | assumption | omega) (by first | assumption | omega)) (cwV 2 hts gX8_cellSet_X8_targetCell rfl rfl rfl (by decide +kernel) ⟨Nat.le_of_ble_eq_true rfl, Nat.le_of_ble_eq_true rfl⟩) (kx_preV hK hN hM.1 rfl hM) rfl rfl hl.1 rfl (lv_room (Nat.le_of_ble_eq_true rfl)) dX8_cellSet_52 ⟨Nat.le_of_ble_eq_true rfl, Nat.le_of_ble_eq_true rfl⟩) ?_
              refine lv_goto (tgt := 65) hx hb dX8_cellSet_55 (by decide) ?_
              have hs48 := hit.src48 hq k
              have ht48 := hit.tgt48 hq k
              have hX : (if y = true then tgtC (t0 z) q k else srcC (t0 z) q k) < 48 := ifL (y = true) ht48 hs48
              refine kx_ci (x := nI (tgtC (t0 z) q k)) (y := nI (if y = true then tgtC (t0 z) q k else srcC (t0 z) q k)) (congrArg nI (by simp [*])) ?_
              refine kl_bit hx hb (by omega) dX8_cellSet_65 ?_
              refine kl_or hx hb dX8_cellSet_66 ?_
              refine kx_cl (x := lN ((csK (t0 z) y q k) ||| (2 ^ (if y = true then tgtC (t0 z) q k else srcC (t0 z) q k)))) (y := lN (csK (t0 z) y q (k + 1))) rfl ?_
              refine lv_lstore_n (lv' := [(3, .long (lN (csK (t0 z) y q (k + 1)))), (0, .ref (a)), (1, .int (nI (q))), (2, .int (bI (y))), (5, .int (nI (k)))]) hx hb dX8_cellSet_67 rfl hl (by decide) rfl (fun ls hl => ?_)
              refine lv_iinc (v := nI (k + 1)) (lv' := [(5, .int (nI (k + 1))), (3, .long (lN (csK (t0 z) y q (k + 1)))), (0, .ref (a)), (1, .int (nI (q))), (2, .int (bI (y)))]) (k := 4) hx hb dX8_cellSet_68 hl rfl (nI_add _ _) (by decide) rfl (fun ls hl => ?_)
              refine lv_goto (tgt := 31) hx hb dX8_cellSet_71 (by decide) ?_
              exact ih31 (k + 1) _ _ _ (by omega) (by omega) hM hS (lv_sub hl [2, 3, 4, 1, 0] rfl)
      exact J31 _ 0 _ _ _ (Nat.lt_succ_self _) (by omega) hM hS (lv_sub hl [2, 3, 4, 1, 0] rfl)
    · refine lv_lconst (v := lN 0) hx hb dX8_cellSet_24 rfl ?_
      exact kx_lretM hx hb hrt hlk (by rw [if_neg hw0]) hM hS dX8_cellSet_25
  · refine lv_iconst (v := nI 0) hx hb dX8_cellSet_9 (by decide) ?_
    refine lv_goto (tgt := 14) hx hb dX8_cellSet_10 (by decide) ?_
    refine kx_ci (x := nI (0)) (y := nI (mwN z x)) (congrArg nI (by first | (simp [mwN, *]; done) | (exfalso; omega) | (exfalso; simp_all; done))) ?_
    refine kx_put hx hb hts hinX8 tyX8_ok nmX8 hown hK hM.1 rfl hS ⟨by omega, by omega⟩ 0 (by decide) (by decide +kernel) rfl rfl rfl (Nat.le_of_ble_eq_true rfl) dX8_cellSet_14 (fun H locs hc hU hS => ?_)
    have hM := hM.put_thrown hc hU
    clear hc hU
    refine lv_aload_n hx hb dX8_cellSet_17 rfl (lv_at hl 0 rfl) ?_
    refine kx_get (v := .int ((upd z 4403 (nI (mwN z x))) 4403)) hx hb hts hinX8 hown hK hM.1 rfl 0 (by decide) (by decide +kernel) rfl dX8_cellSet_18 ?_
    refine kx_ci (y := nI (mwN z x)) pk_us ?_
    refine kn_if_le (tgt := 26) hx hb dX8_cellSet_21 (by decide) (lt31 (mwN_2 _ _)) (fun hw0 => ?_) (fun hw0 => ?_)
    · rw [hw0] at hM
      obtain ⟨q, hq, rfl⟩ := mwN_0 hI hw0
      have hnq : nn (nI q) = q := nn_nI (by have := hI.M24; omega)
      have hit : Inv (t0 z) := th_inv hI (nI 0)
      have hc16 := hit.c16 hq
      have hq24 : q < 24 := by have := hI.M24; omega
      refine lv_lconst (v := lN 0) hx hb dX8_cellSet_26 rfl ?_
      refine lv_lstore_n (lv' := [(3, .long (lN (0))), (0, .ref (a)), (1, .int (nI (q))), (2, .int (bI (y)))]) hx hb dX8_cellSet_27 rfl hl (by decide) rfl (fun ls hl => ?_)
      refine lv_iconst (v := nI 0) hx hb dX8_cellSet_28 (by decide) ?_
      refine lv_istore (lv' := [(5, .int (nI (0))), (3, .long (lN (0))), (0, .ref (a)), (1, .int (nI (q))), (2, .int (bI (y)))]) hx hb dX8_cellSet_29 hl (by decide) rfl (fun ls hl => ?_)
      have J31 : ∀ (fu31 : Nat) (k : Nat) (H : Heap) (locs : List Loc) (ls : Array Slot), (mC (t0 z) q - k) < fu31 → (k ≤ mC (t0 z) q) → (MdC D (cs 0) a (t0 z) H) → va_S ((rgM a)) s.heap H locs → lv_has ls 6 [(0, .ref (a)), (1, .int (nI (q))), (2, .int (bI (y))), (3, .long (lN (csK (t0 z) y q k))), (5, .int (nI (k)))] → W p l e ({ frames := 2, cells := 0, slots := 0, locals := 45 } : Room) s m args below meth c H locs 0 0 (MQ below (QcM (some (.long (if mwN z (nI q) = 0 then lN (csN (t0 z) y (nn (nI q))) else lN 0))) (fun H => MdC D (cs 0) a (upd z 4403 (nI (mwN z (nI q)))) H) (rgM a)) args s 0 0 ((rgM a))) (F0 m 31 ls []) := by
        intro fu31; induction fu31 with
        | zero => intro k H locs ls hmu31 hk hM hS hl; exact absurd hmu31 (Nat.not_lt_zero _)
        | succ fu31 ih31 =>
          intro k H locs ls hmu31 hk hM hS hl
          refine lv_iload hx hb dX8_cellSet_31 (lv_at hl 4 rfl) ?_
          refine lv_aload_n hx hb dX8_cellSet_33 rfl (lv_at hl 0 rfl) ?_
          refine lv_iload_n hx hb dX8_cellSet_34 rfl (lv_at hl 1 rfl) ?_
          refine lv_iconst (v := nI 4) hx hb dX8_cellSet_35 (by decide) ?_
          refine kx_retP (va_runV (As := [.int (nI (q)), .int (nI (4))]) (rest := [.int (nI (k))]) ⟨hx, hb, hml, hown, hts⟩ (k_X8_movePart l D cs a (t0 z) q 4 (by first | assumption | omega) (by first | assumption | omega)) (cwV 2 hts gX8_cellSet_X8_movePart rfl rfl rfl (by decide +kernel) ⟨Nat.le_of_ble_eq_true rfl, Nat.le_of_ble_eq_true rfl⟩) (kx_preV hK hN hM.1 rfl hM) rfl rfl hl.1 rfl (lv_room (Nat.le_of_ble_eq_true rfl)) dX8_cellSet_36 ⟨Nat.le_of_ble_eq_true rfl, Nat.le_of_ble_eq_true rfl⟩) ?_
          refine kx_ci (y := nI (mC (t0 z) q)) (Inv.m4 (th_inv hI _) (by first | assumption | omega)) ?_
          refine kn_icmp_ge (tgt := 74) hx hb dX8_cellSet_39 (by decide) (by omega) (by omega) (fun c_4 => ?_) (fun c_4 => ?_)
          · refine lv_lload_n hx hb dX8_cellSet_74 rfl (lv_at hl 3 rfl) ?_
            exact kx_lretM hx hb hrt hlk (by rw [if_pos hw0, hnq, show k = mC (t0 z) q by omega]; rfl) (by rw [hw0]; exact hM) hS dX8_cellSet_75
          · refine lv_lload_n hx hb dX8_cellSet_42 rfl (lv_at hl 3 rfl) ?_
            refine lv_lconst (v := lN 1) hx hb dX8_cellSet_43 rfl ?_
            refine lv_iload_n hx hb dX8_cellSet_44 rfl (lv_at hl 2 rfl) ?_
            refine kb_if_eq (tgt := 58) hx hb dX8_cellSet_45 (by decide) (fun c_5 => ?_) (fun c_5 => ?_)
            · refine lv_aload_n hx hb dX8_cellSet_58 rfl (lv_at hl 0 rfl) ?_
              refine lv_iload_n hx hb dX8_cellSet_59 rfl (lv_at hl 1 rfl) ?_
              refine lv_iload hx hb dX8_cellSet_60 (lv_at hl 4 rfl) ?_
              refine kx_retP (va_runV (As := [.int (nI (q)), .int (nI (k))]) (rest := [.long (lN (1)), .long (lN (csK (t0 z) y q k))]) ⟨hx, hb, hml, hown, hts⟩ (k_X8_sourceCell l D cs a (t0 z) q k (th_inv hI _) (by first | assumption | omega) (by first | assumption | omega)) (cwV 2 hts gX8_cellSet_X8_sourceCell rfl rfl rfl (by decide +kernel) ⟨Nat.le_of_ble_eq_true rfl, Nat.le_of_ble_eq_true rfl⟩) (kx_preV hK hN hM.1 rfl hM) rfl rfl hl.1 rfl (lv_room (Nat.le_of_ble_eq_true rfl)) dX8_cellSet_62 ⟨Nat.le_of_ble_eq_true rfl, Nat.le_of_ble_eq_true rfl⟩) ?_
              have hs48 := hit.src48 hq k
              have ht48 := hit.tgt48 hq k
              have hX : (if y = true then tgtC (t0 z) q k else srcC (t0 z) q k) < 48 := ifL (y = true) ht48 hs48
              refine kx_ci (x := nI (srcC (t0 z) q k)) (y := nI (if y = true then tgtC (t0 z) q k else srcC (t0 z) q k)) (congrArg nI (by simp [*])) ?_
              refine kl_bit hx hb (by omega) dX8_cellSet_65 ?_
              refine kl_or hx hb dX8_cellSet_66 ?_
              refine kx_cl (x := lN ((csK (t0 z) y q k) ||| (2 ^ (if y = true then tgtC (t0 z) q k else srcC (t0 z) q k)))) (y := lN (csK (t0 z) y q (k + 1))) rfl ?_
              refine lv_lstore_n (lv' := [(3, .long (lN (csK (t0 z) y q (k + 1)))), (0, .ref (a)), (1, .int (nI (q))), (2, .int (bI (y))), (5, .int (nI (k)))]) hx hb dX8_cellSet_67 rfl hl (by decide) rfl (fun ls hl => ?_)
              refine lv_iinc (v := nI (k + 1)) (lv' := [(5, .int (nI (k + 1))), (3, .long (lN (csK (t0 z) y q (k + 1)))), (0, .ref (a)), (1, .int (nI (q))), (2, .int (bI (y)))]) (k := 4) hx hb dX8_cellSet_68 hl rfl (nI_add _ _) (by decide) rfl (fun ls hl => ?_)
              refine lv_goto (tgt := 31) hx hb dX8_cellSet_71 (by decide) ?_
              exact ih31 (k + 1) _ _ _ (by omega) (by omega) hM hS (lv_sub hl [2, 3, 4, 1, 0] rfl)
            · refine lv_aload_n hx hb dX8_cellSet_48 rfl (lv_at hl 0 rfl) ?_
              refine lv_iload_n hx hb dX8_cellSet_49 rfl (lv_at hl 1 rfl) ?_
              refine lv_iload hx hb dX8_cellSet_50 (lv_at hl 4 rfl) ?_
              refine kx_retP (va_runV (As := [.int (nI (q)), .int (nI (k))]) (rest := [.long (lN (1)), .long (lN (csK (t0 z) y q k))]) ⟨hx, hb, hml, hown, hts⟩ (k_X8_targetCell l D cs a (t0 z) q k (th_inv hI _) (by first | assumption | omega) (by first | assumption | omega)) (cwV 2 hts gX8_cellSet_X8_targetCell rfl rfl rfl (by decide +kernel) ⟨Nat.le_of_ble_eq_true rfl, Nat.le_of_ble_eq_true rfl⟩) (kx_preV hK hN hM.1 rfl hM) rfl rfl hl.1 rfl (lv_room (Nat.le_of_ble_eq_true rfl)) dX8_cellSet_52 ⟨Nat.le_of_ble_eq_true rfl, Nat.le_of_ble_eq_true rfl⟩) ?_
              refine lv_goto (tgt := 65) hx hb dX8_cellSet_55 (by decide) ?_
              have hs48 := hit.src48 hq k
              have ht48 := hit.tgt48 hq k
              have hX : (if y = true then tgtC (t0 z) q k else srcC (t0 z) q k) < 48 := ifL (y = true) ht48 hs48
              refine kx_ci (x := nI (tgtC (t0 z) q k)) (y := nI (if y = true then tgtC (t0 z) q k else srcC (t0 z) q k)) (congrArg nI (by simp [*])) ?_
              refine kl_bit hx hb (by omega) dX8_cellSet_65 ?_
              refine kl_or hx hb dX8_cellSet_66 ?_
              refine kx_cl (x := lN ((csK (t0 z) y q k) ||| (2 ^ (if y = true then tgtC (t0 z) q k else srcC (t0 z) q k)))) (y := lN (csK (t0 z) y q (k + 1))) rfl ?_
              refine lv_lstore_n (lv' := [(3, .long (lN (csK (t0 z) y q (k + 1)))), (0, .ref (a)), (1, .int (nI (q))), (2, .int (bI (y))), (5, .int (nI (k)))]) hx hb dX8_cellSet_67 rfl hl (by decide) rfl (fun ls hl => ?_)
              refine lv_iinc (v := nI (k + 1)) (lv' := [(5, .int (nI (k + 1))), (3, .long (lN (csK (t0 z) y q (k + 1)))), (0, .ref (a)), (1, .int (nI (q))), (2, .int (bI (y)))]) (k := 4) hx hb dX8_cellSet_68 hl rfl (nI_add _ _) (by decide) rfl (fun ls hl => ?_)
              refine lv_goto (tgt := 31) hx hb dX8_cellSet_71 (by decide) ?_
              exact ih31 (k + 1) _ _ _ (by omega) (by omega) hM hS (lv_sub hl [2, 3, 4, 1, 0] rfl)
      exact J31 _ 0 _ _ _ (Nat.lt_succ_self _) (by omega) hM hS (lv_sub hl [2, 3, 4, 1, 0] rfl)
    · refine lv_lconst (v := lN 0) hx hb dX8_cellSet_24 rfl ?_
      exact kx_lretM hx hb hrt hlk (by rw [if_neg hw0]) hM hS dX8_cellSet_25
set_option maxHeartbeats 2500000 in
set_option maxRecDepth 100000 in
theorem k_X8_sweep (l : Launch) (D : va_G) (cs : Nat → ClassId) (a : Nat) (z : Nat → Int32) (hZ : InvZ z) : Met l yX8_sweep wsX8_sweep ({ frames := 2, cells := 0, slots := 0, locals := 45 } : Room) (PcK D cs [.ref (a)] (fun H => MdC D (cs 0) a z H)) (QcM (some (.int (nI (swN (svT z))))) (fun H => MdC D (cs 0) a (swF (svT z)) H) (rgM a)) 0 0 ((rgM a)) := by
  refine kx_met (cc := cX8_sweep) (maxL := 4) (ret := (some .int)) (by decide) rfl (Nat.le_of_ble_eq_true rfl) ?_
  intro p e s m args below meth c hx hb hml hrt hts hown hlk hK hN hP ls hl
  have hl : lv_has ls 4 [(0, .ref (a))] := hl
  obtain ⟨H, hHe⟩ : ∃ H : Heap, H = s.heap := ⟨_, rfl⟩
  rw [← hHe] at hP ⊢
  have hS : va_S ((rgM a)) s.heap H [] := by rw [← hHe]; exact va_S.rf
  have hinX8 : ∀ w ∈ wsX80, w ∈ wsX8_sweep := by decide +kernel
  have hM := hP
  have hI := hZ.1
  have hsI := svT_inv hI
  have h24 := hsI.M24
  refine lv_aload_n hx hb dX8_sweep_0 rfl (lv_at hl 0 rfl) ?_
  refine lv_iconst (v := nI 0) hx hb dX8_sweep_1 (by decide) ?_
  refine kx_put hx hb hts hinX8 tyX8_ok nmX8 hown hK hM.1 rfl hS ⟨by omega, by omega⟩ 0 (by decide) (by decide +kernel) rfl rfl rfl (Nat.le_of_ble_eq_true rfl) dX8_sweep_2 (fun H locs hc hU hS => ?_)
  have hM := hM.put_thrown hc hU
  clear hc hU
  have hM : MdC D (cs 0) a (t0 z) H := hM
  refine lv_aload_n hx hb dX8_sweep_5 rfl (lv_at hl 0 rfl) ?_
  refine kx_retM (va_runV (As := []) (rest := []) ⟨hx, hb, hml, hown, hts⟩ (k_X8_save l D cs a (t0 z) (Sv z) (th_v hZ _) hZ.2.1.2) (cwV 0 hts gX8_sweep_X8_save rfl rfl rfl (by decide +kernel) ⟨Nat.le_of_ble_eq_true rfl, Nat.le_of_ble_eq_true rfl⟩) (kx_preV hK hN hM.1 rfl hM) rfl rfl hl.1 rfl (lv_room (Nat.le_of_ble_eq_true rfl)) dX8_sweep_6 ⟨Nat.le_of_ble_eq_true rfl, Nat.le_of_ble_eq_true rfl⟩) hS (fun q _ h => h) (fun q h => h) (fun H locs hM hk hS => ?_)
  clear hk
  have hM : MdC D (cs 0) a (svT z) H := hM
  refine lv_iconst (v := nI 0) hx hb dX8_sweep_9 (by decide) ?_
  refine lv_istore_n (lv' := [(1, .int (nI (0))), (0, .ref (a))]) hx hb dX8_sweep_10 rfl hl (by decide) rfl (fun ls hl => ?_)
  have J11 : ∀ (fu11 : Nat) (g : Nat) (H : Heap) (locs : List Loc) (ls : Array Slot), (Mn (svT z) - g) < fu11 → (g ≤ Mn (svT z)) → (∀ j, j < g → mS (svT z) j = 3) → (MdC D (cs 0) a (svT z) H) → va_S ((rgM a)) s.heap H locs → lv_has ls 4 [(0, .ref (a)), (1, .int (nI (g)))] → W p l e ({ frames := 2, cells := 0, slots := 0, locals := 45 } : Room) s m args below meth c H locs 0 0 (MQ below (QcM (some (.int (nI (swN (svT z))))) (fun H => MdC D (cs 0) a (swF (svT z)) H) (rgM a)) args s 0 0 ((rgM a))) (F0 m 11 ls []) := by
    intro fu11; induction fu11 with
    | zero => intro g H locs ls hmu11 hg hsg hM hS hl; exact absurd hmu11 (Nat.not_lt_zero _)
    | succ fu11 ih11 =>
      intro g H locs ls hmu11 hg hsg hM hS hl
      refine lv_iload_n hx hb dX8_sweep_11 rfl (lv_at hl 1 rfl) ?_
      refine lv_aload_n hx hb dX8_sweep_12 rfl (lv_at hl 0 rfl) ?_
      refine kx_get (v := .ref (a + 1)) hx hb hts hinX8 hown hK hM.1 rfl 1 (by decide) (by decide +kernel) rfl dX8_sweep_13 ?_
      refine lv_iconst (v := nI 4) hx hb dX8_sweep_16 (by decide) ?_
      refine kx_iald (i := 4) hx hb hK hM.state 0 rfl (by decide) (by decide) dX8_sweep_17 ?_
      refine kx_ci (y := nI (Mn (svT z))) (hsI).z4 ?_
      refine kn_icmp_ge (tgt := 37) hx hb dX8_sweep_18 (by decide) (by omega) (by omega) (fun c_1 => ?_) (fun c_1 => ?_)
      · have hge : swN (svT z) = g := sw_is hsg (by first | exact Or.inl (by omega) | exact Or.inr (by assumption)) hg
        refine lv_iload_n hx hb dX8_sweep_37 rfl (lv_at hl 1 rfl) ?_
        refine lv_istore_n (lv' := [(2, .int (nI (g))), (0, .ref (a)), (1, .int (nI (g)))]) hx hb dX8_sweep_38 rfl hl (by decide) rfl (fun ls hl => ?_)
        have J39 : ∀ (fu39 : Nat) (k : Nat) (H : Heap) (locs : List Loc) (ls : Array Slot), (Mn (svT z) - k) < fu39 → (g ≤ k) → (k ≤ Mn (svT z)) → (MdC D (cs 0) a (swK (svT z) g k) H) → va_S ((rgM a)) s.heap H locs → lv_has ls 4 [(0, .ref (a)), (1, .int (nI (g))), (2, .int (nI (k)))] → W p l e ({ frames := 2, cells := 0, slots := 0, locals := 45 } : Room) s m args below meth c H locs 0 0 (MQ below (QcM (some (.int (nI (swN (svT z))))) (fun H => MdC D (cs 0) a (swF (svT z)) H) (rgM a)) args s 0 0 ((rgM a))) (F0 m 39 ls []) := by
          intro fu39; induction fu39 with
          | zero => intro k H locs ls hmu39 hgk hk hM hS hl; exact absurd hmu39 (Nat.not_lt_zero _)
          | succ fu39 ih39 =>
            intro k H locs ls hmu39 hgk hk hM hS hl
            refine lv_iload_n hx hb dX8_sweep_39 rfl (lv_at hl 2 rfl) ?_
            refine lv_aload_n hx hb dX8_sweep_40 rfl (lv_at hl 0 rfl) ?_
            refine kx_get (v := .ref (a + 1)) hx hb hts hinX8 hown hK hM.1 rfl 1 (by decide) (by decide +kernel) rfl dX8_sweep_41 ?_
            refine lv_iconst (v := nI 4) hx hb dX8_sweep_44 (by decide) ?_
            refine kx_iald (i := 4) hx hb hK hM.state 0 rfl (by decide) (by decide) dX8_sweep_45 ?_
            refine kx_ci (y := nI (Mn (svT z))) ((swK_lo (svT z) g k (by omega)).trans hsI.z4) ?_
            refine kn_icmp_ge (tgt := 129) hx hb dX8_sweep_46 (by decide) (by omega) (by omega) (fun c_2 => ?_) (fun c_2 => ?_)
            · have hkk : k = Mn (svT z) := by omega
              subst hkk
              refine lv_aload_n hx hb dX8_sweep_129 rfl (lv_at hl 0 rfl) ?_
              refine kx_get (v := .ref (a + 1)) hx hb hts hinX8 hown hK hM.1 rfl 1 (by decide) (by decide +kernel) rfl dX8_sweep_130 ?_
              refine lv_iconst (v := nI 4) hx hb dX8_sweep_133 (by decide) ?_
              refine lv_dup2_11 hx hb dX8_sweep_134 rfl rfl ?_
              refine kx_iald (i := 4) hx hb hK hM.state 0 rfl (by decide) (by decide) dX8_sweep_135 ?_
              refine kx_ci (y := nI (Mn (svT z))) ((swK_lo (svT z) g _ (by omega)).trans hsI.z4) ?_
              refine lv_iload_n hx hb dX8_sweep_136 rfl (lv_at hl 1 rfl) ?_
              refine kn_sub hx hb (by omega) dX8_sweep_137 ?_
              refine kx_iast (i := 4) hx hb hK hM.state hS ⟨by omega, by omega⟩ 0 rfl (by decide) (by decide) dX8_sweep_138 (fun H locs hc hU hS => ?_)
              have hM := hM.put_state (by decide) hc hU
              clear hc hU
              refine lv_aload_n hx hb dX8_sweep_139 rfl (lv_at hl 0 rfl) ?_
              refine kx_get (v := .ref (a + 1)) hx hb hts hinX8 hown hK hM.1 rfl 1 (by decide) (by decide +kernel) rfl dX8_sweep_140 ?_
              refine lv_bipush (v := nI 7) hx hb dX8_sweep_143 (by decide) ?_
              refine lv_dup2_11 hx hb dX8_sweep_145 rfl rfl ?_
              refine kx_iald (i := 7) hx hb hK hM.state 0 rfl (by decide) (by decide) dX8_sweep_146 ?_
              refine kx_ci (y := svT z 7) (by rw [upd_at, if_neg (by omega)]; exact swK_lo (svT z) g _ (by omega)) ?_
              refine lv_iload_n hx hb dX8_sweep_147 rfl (lv_at hl 1 rfl) ?_
              refine lv_iadd hx hb dX8_sweep_148 ?_
              refine kx_iast (i := 7) hx hb hK hM.state hS ⟨by omega, by omega⟩ 0 rfl (by decide) (by decide) dX8_sweep_149 (fun H locs hc hU hS => ?_)
              have hM := hM.put_state (by decide) hc hU
              clear hc hU
              refine lv_iload_n hx hb dX8_sweep_150 rfl (lv_at hl 1 rfl) ?_
              exact kx_iretM hx hb hrt hlk (by rw [hge]) (by unfold swF; rw [hge]; exact hM) hS dX8_sweep_151
            · refine lv_iconst (v := nI 0) hx hb dX8_sweep_49 (by decide) ?_
              refine lv_istore_n (lv' := [(3, .int (nI (0))), (0, .ref (a)), (1, .int (nI (g))), (2, .int (nI (k)))]) hx hb dX8_sweep_50 rfl hl (by decide) rfl (fun ls hl => ?_)
              have J51 : ∀ (fu51 : Nat) (p1 : Nat) (H : Heap) (locs : List Loc) (ls : Array Slot), (10 - p1) < fu51 → (p1 ≤ 10) → (MdC D (cs 0) a (swP (svT z) g k p1 0) H) → va_S ((rgM a)) s.heap H locs → lv_has ls 4 [(0, .ref (a)), (1, .int (nI (g))), (2, .int (nI (k))), (3, .int (nI (p1)))] → W p l e ({ frames := 2, cells := 0, slots := 0, locals := 45 } : Room) s m args below meth c H locs 0 0 (MQ below (QcM (some (.int (nI (swN (svT z))))) (fun H => MdC D (cs 0) a (swF (svT z)) H) (rgM a)) args s 0 0 ((rgM a))) (F0 m 51 ls []) := by
                intro fu51; induction fu51 with
                | zero => intro p1 H locs ls hmu51 hp1 hM hS hl; exact absurd hmu51 (Nat.not_lt_zero _)
                | succ fu51 ih51 =>
                  intro p1 H locs ls hmu51 hp1 hM hS hl
                  refine lv_iload_n hx hb dX8_sweep_51 rfl (lv_at hl 3 rfl) ?_
                  refine lv_bipush (v := nI 10) hx hb dX8_sweep_52 (by decide) ?_
                  refine kn_icmp_ge (tgt := 77) hx hb dX8_sweep_54 (by decide) (by omega) (by decide) (fun c_3 => ?_) (fun c_3 => ?_)
                  · have hpp : p1 = 10 := by omega
                    subst hpp
                    refine lv_iconst (v := nI 0) hx hb dX8_sweep_77 (by decide) ?_
                    refine lv_istore_n (lv' := [(3, .int (nI (0))), (0, .ref (a)), (1, .int (nI (g))), (2, .int (nI (k)))]) hx hb dX8_sweep_78 rfl hl (by decide) rfl (fun ls hl => ?_)
                    have J79 : ∀ (fu79 : Nat) (t : Nat) (H : Heap) (locs : List Loc) (ls : Array Slot), (16 - t) < fu79 → (t ≤ 16) → (MdC D (cs 0) a (swP (svT z) g k 10 t) H) → va_S ((rgM a)) s.heap H locs → lv_has ls 4 [(0, .ref (a)), (1, .int (nI (g))), (2, .int (nI (k))), (3, .int (nI (t)))] → W p l e ({ frames := 2, cells := 0, slots := 0, locals := 45 } : Room) s m args below meth c H locs 0 0 (MQ below (QcM (some (.int (nI (swN (svT z))))) (fun H => MdC D (cs 0) a (swF (svT z)) H) (rgM a)) args s 0 0 ((rgM a))) (F0 m 79 ls []) := by
                      intro fu79; induction fu79 with
                      | zero => intro t H locs ls hmu79 ht hM hS hl; exact absurd hmu79 (Nat.not_lt_zero _)
                      | succ fu79 ih79 =>
                        intro t H locs ls hmu79 ht hM hS hl
                        refine lv_iload_n hx hb dX8_sweep_79 rfl (lv_at hl 3 rfl) ?_
                        refine lv_bipush (v := nI 16) hx hb dX8_sweep_80 (by decide) ?_
                        refine kn_icmp_ge (tgt := 123) hx hb dX8_sweep_82 (by decide) (by omega) (by decide) (fun c_4 => ?_) (fun c_4 => ?_)
                        · have htt : t = 16 := by omega
                          subst htt
                          have hM : MdC D (cs 0) a (swK (svT z) g (k + 1)) H := by rw [← swP_e (svT z) hgk]; exact hM
                          refine lv_iinc (v := nI (k + 1)) (lv' := [(2, .int (nI (k + 1))), (0, .ref (a)), (1, .int (nI (g))), (3, .int (nI (16)))]) (k := 2) hx hb dX8_sweep_123 hl rfl (nI_add _ _) (by decide) rfl (fun ls hl => ?_)
                          refine lv_goto (tgt := 39) hx hb dX8_sweep_126 (by decide) ?_
                          exact ih39 (k + 1) _ _ _ (by omega) (by omega) (by omega) hM hS (lv_sub hl [1, 2, 0] rfl)
                        · refine lv_aload_n hx hb dX8_sweep_85 rfl (lv_at hl 0 rfl) ?_
                          refine kx_get (v := .ref (a + 1)) hx hb hts hinX8 hown hK hM.1 rfl 1 (by decide) (by decide +kernel) rfl dX8_sweep_86 ?_
                          refine lv_sipush (v := nI 320) hx hb dX8_sweep_89 (by decide) ?_
                          refine lv_bipush (v := nI 16) hx hb dX8_sweep_92 (by decide) ?_
                          refine lv_iload_n hx hb dX8_sweep_94 rfl (lv_at hl 2 rfl) ?_
                          refine lv_iload_n hx hb dX8_sweep_95 rfl (lv_at hl 1 rfl) ?_
                          refine kn_sub hx hb (by omega) dX8_sweep_96 ?_
                          refine kn_mul hx hb dX8_sweep_97 ?_
                          refine kn_add hx hb dX8_sweep_98 ?_
                          refine lv_iload_n hx hb dX8_sweep_99 rfl (lv_at hl 3 rfl) ?_
                          refine kn_add hx hb dX8_sweep_100 ?_
                          refine lv_aload_n hx hb dX8_sweep_101 rfl (lv_at hl 0 rfl) ?_
                          refine kx_get (v := .ref (a + 1)) hx hb hts hinX8 hown hK hM.1 rfl 1 (by decide) (by decide +kernel) rfl dX8_sweep_102 ?_
                          refine lv_sipush (v := nI 320) hx hb dX8_sweep_105 (by decide) ?_
                          refine lv_bipush (v := nI 16) hx hb dX8_sweep_108 (by decide) ?_
                          refine lv_iload_n hx hb dX8_sweep_110 rfl (lv_at hl 2 rfl) ?_
                          refine kn_mul hx hb dX8_sweep_111 ?_
                          refine kn_add hx hb dX8_sweep_112 ?_
                          refine lv_iload_n hx hb dX8_sweep_113 rfl (lv_at hl 3 rfl) ?_
                          refine kn_add hx hb dX8_sweep_114 ?_
                          refine kx_iald (i := 320 + (16 * k) + t) hx hb hK hM.state 0 rfl (by omega) (by decide) dX8_sweep_115 ?_
                          refine kx_ci (y := svT z (320 + 16 * k + t)) (swP_srct (svT z) hgk (by omega) (Nat.le_refl t) (by omega)) ?_
                          refine kx_iast (i := 320 + (16 * (k - g)) + t) hx hb hK hM.state hS ⟨by omega, by omega⟩ 0 rfl (by omega) (by decide) dX8_sweep_116 (fun H locs hc hU hS => ?_)
                          have hM := hM.put_state (by omega) hc hU
                          clear hc hU
                          have hM : MdC D (cs 0) a (swP (svT z) g k 10 (t + 1)) H := (by rw [← swP_t (svT z) hgk (by omega) (by omega)]; exact hM)
                          refine lv_iinc (v := nI (t + 1)) (lv' := [(3, .int (nI (t + 1))), (0, .ref (a)), (1, .int (nI (g))), (2, .int (nI (k)))]) (k := 3) hx hb dX8_sweep_117 hl rfl (nI_add _ _) (by decide) rfl (fun ls hl => ?_)
                          refine lv_goto (tgt := 79) hx hb dX8_sweep_120 (by decide) ?_
                          exact ih79 (t + 1) _ _ _ (by omega) (by omega) hM hS (lv_sub hl [1, 2, 3, 0] rfl)
                    exact J79 _ 0 _ _ _ (Nat.lt_succ_self _) (by omega) hM hS (lv_sub hl [1, 2, 3, 0] rfl)
                  · refine lv_aload_n hx hb dX8_sweep_57 rfl (lv_at hl 0 rfl) ?_
                    refine lv_iload_n hx hb dX8_sweep_58 rfl (lv_at hl 2 rfl) ?_
                    refine lv_iload_n hx hb dX8_sweep_59 rfl (lv_at hl 1 rfl) ?_
                    refine kn_sub hx hb (by omega) dX8_sweep_60 ?_
                    refine lv_iload_n hx hb dX8_sweep_61 rfl (lv_at hl 3 rfl) ?_
                    refine lv_aload_n hx hb dX8_sweep_62 rfl (lv_at hl 0 rfl) ?_
                    refine lv_iload_n hx hb dX8_sweep_63 rfl (lv_at hl 2 rfl) ?_
                    refine lv_iload_n hx hb dX8_sweep_64 rfl (lv_at hl 3 rfl) ?_
                    refine kx_retP (va_runV (As := [.int (nI (k)), .int (nI (p1))]) (rest := [.int (nI (p1)), .int (nI (k - g)), .ref (a)]) ⟨hx, hb, hml, hown, hts⟩ (k_X8_movePart l D cs a (swP (svT z) g k p1 0) k p1 (by omega) (by omega)) (cwV 2 hts gX8_sweep_X8_movePart rfl rfl rfl (by decide +kernel) ⟨Nat.le_of_ble_eq_true rfl, Nat.le_of_ble_eq_true rfl⟩) (kx_preV hK hN hM.1 rfl hM) rfl rfl hl.1 rfl (lv_room (Nat.le_of_ble_eq_true rfl)) dX8_sweep_65 ⟨Nat.le_of_ble_eq_true rfl, Nat.le_of_ble_eq_true rfl⟩) ?_
                    refine kx_ci (y := svT z (80 + 10 * k + p1)) (swP_src (svT z) hgk (by omega) (Nat.le_refl p1) (by omega)) ?_
                    refine kx_retM (va_runV (As := [.int (nI (k - g)), .int (nI (p1)), .int (svT z (80 + 10 * k + p1))]) (rest := []) ⟨hx, hb, hml, hown, hts⟩ (k_X8_setMovePart l D cs a (swP (svT z) g k p1 0) (k - g) p1 (svT z (80 + 10 * k + p1)) (by omega) (by omega)) (cwV 3 hts gX8_sweep_X8_setMovePart rfl rfl rfl (by decide +kernel) ⟨Nat.le_of_ble_eq_true rfl, Nat.le_of_ble_eq_true rfl⟩) (kx_preV hK hN hM.1 rfl hM) rfl rfl hl.1 rfl (lv_room (Nat.le_of_ble_eq_true rfl)) dX8_sweep_68 ⟨Nat.le_of_ble_eq_true rfl, Nat.le_of_ble_eq_true rfl⟩) hS (fun q _ h => h) (fun q h => h) (fun H locs hM hk hS => ?_)
                    clear hk
                    have hM : MdC D (cs 0) a (swP (svT z) g k (p1 + 1) 0) H := (by rw [← swP_p (svT z) hgk (by omega) (by omega)]; exact hM)
                    refine lv_iinc (v := nI (p1 + 1)) (lv' := [(3, .int (nI (p1 + 1))), (0, .ref (a)), (1, .int (nI (g))), (2, .int (nI (k)))]) (k := 3) hx hb dX8_sweep_71 hl rfl (nI_add _ _) (by decide) rfl (fun ls hl => ?_)
                    refine lv_goto (tgt := 51) hx hb dX8_sweep_74 (by decide) ?_
                    exact ih51 (p1 + 1) _ _ _ (by omega) (by omega) hM hS (lv_sub hl [1, 2, 3, 0] rfl)
              exact J51 _ 0 _ _ _ (Nat.lt_succ_self _) (by omega) (by rw [swP_0]; exact hM) hS (lv_sub hl [1, 2, 3, 0] rfl)
        exact J39 _ g _ _ _ (Nat.lt_succ_self _) (by omega) (by omega) (by rw [swK_g]; exact hM) hS (lv_sub hl [1, 2, 0] rfl)
      · have hgM : g < Mn (svT z) := by omega
        have hs3 := hsI.s3 hgM
        refine lv_aload_n hx hb dX8_sweep_21 rfl (lv_at hl 0 rfl) ?_
        refine lv_iload_n hx hb dX8_sweep_22 rfl (lv_at hl 1 rfl) ?_
        refine lv_iconst (v := nI 5) hx hb dX8_sweep_23 (by decide) ?_
        refine kx_retP (va_runV (As := [.int (nI (g)), .int (nI (5))]) (rest := []) ⟨hx, hb, hml, hown, hts⟩ (k_X8_movePart l D cs a (svT z) g 5 (by first | assumption | omega) (by first | assumption | omega)) (cwV 2 hts gX8_sweep_X8_movePart rfl rfl rfl (by decide +kernel) ⟨Nat.le_of_ble_eq_true rfl, Nat.le_of_ble_eq_true rfl⟩) (kx_preV hK hN hM.1 rfl hM) rfl rfl hl.1 rfl (lv_room (Nat.le_of_ble_eq_true rfl)) dX8_sweep_24 ⟨Nat.le_of_ble_eq_true rfl, Nat.le_of_ble_eq_true rfl⟩) ?_
        refine kx_ci (y := nI (mS (svT z) g)) (Inv.m5 hsI (by first | assumption | omega)) ?_
        refine lv_iconst (v := nI 3) hx hb dX8_sweep_27 (by decide) ?_
        refine kn_icmp_ne (tgt := 37) hx hb dX8_sweep_28 (by decide) (by omega) (by decide) (fun hph => ?_) (fun hph => ?_)
        · have hge : swN (svT z) = g := sw_is hsg (by first | exact Or.inl (by omega) | exact Or.inr (by assumption)) hg
          refine lv_iload_n hx hb dX8_sweep_37 rfl (lv_at hl 1 rfl) ?_
          refine lv_istore_n (lv' := [(2, .int (nI (g))), (0, .ref (a)), (1, .int (nI (g)))]) hx hb dX8_sweep_38 rfl hl (by decide) rfl (fun ls hl => ?_)
          have J39 : ∀ (fu39 : Nat) (k : Nat) (H : Heap) (locs : List Loc) (ls : Array Slot), (Mn (svT z) - k) < fu39 → (g ≤ k) → (k ≤ Mn (svT z)) → (MdC D (cs 0) a (swK (svT z) g k) H) → va_S ((rgM a)) s.heap H locs → lv_has ls 4 [(0, .ref (a)), (1, .int (nI (g))), (2, .int (nI (k)))] → W p l e ({ frames := 2, cells := 0, slots := 0, locals := 45 } : Room) s m args below meth c H locs 0 0 (MQ below (QcM (some (.int (nI (swN (svT z))))) (fun H => MdC D (cs 0) a (swF (svT z)) H) (rgM a)) args s 0 0 ((rgM a))) (F0 m 39 ls []) := by
            intro fu39; induction fu39 with
            | zero => intro k H locs ls hmu39 hgk hk hM hS hl; exact absurd hmu39 (Nat.not_lt_zero _)
            | succ fu39 ih39 =>
              intro k H locs ls hmu39 hgk hk hM hS hl
              refine lv_iload_n hx hb dX8_sweep_39 rfl (lv_at hl 2 rfl) ?_
              refine lv_aload_n hx hb dX8_sweep_40 rfl (lv_at hl 0 rfl) ?_
              refine kx_get (v := .ref (a + 1)) hx hb hts hinX8 hown hK hM.1 rfl 1 (by decide) (by decide +kernel) rfl dX8_sweep_41 ?_
              refine lv_iconst (v := nI 4) hx hb dX8_sweep_44 (by decide) ?_
              refine kx_iald (i := 4) hx hb hK hM.state 0 rfl (by decide) (by decide) dX8_sweep_45 ?_
              refine kx_ci (y := nI (Mn (svT z))) ((swK_lo (svT z) g k (by omega)).trans hsI.z4) ?_
              refine kn_icmp_ge (tgt := 129) hx hb dX8_sweep_46 (by decide) (by omega) (by omega) (fun c_5 => ?_) (fun c_5 => ?_)
              · have hkk : k = Mn (svT z) := by omega
                subst hkk
                refine lv_aload_n hx hb dX8_sweep_129 rfl (lv_at hl 0 rfl) ?_
                refine kx_get (v := .ref (a + 1)) hx hb hts hinX8 hown hK hM.1 rfl 1 (by decide) (by decide +kernel) rfl dX8_sweep_130 ?_
                refine lv_iconst (v := nI 4) hx hb dX8_sweep_133 (by decide) ?_
                refine lv_dup2_11 hx hb dX8_sweep_134 rfl rfl ?_
                refine kx_iald (i := 4) hx hb hK hM.state 0 rfl (by decide) (by decide) dX8_sweep_135 ?_
                refine kx_ci (y := nI (Mn (svT z))) ((swK_lo (svT z) g _ (by omega)).trans hsI.z4) ?_
                refine lv_iload_n hx hb dX8_sweep_136 rfl (lv_at hl 1 rfl) ?_
                refine kn_sub hx hb (by omega) dX8_sweep_137 ?_
                refine kx_iast (i := 4) hx hb hK hM.state hS ⟨by omega, by omega⟩ 0 rfl (by decide) (by decide) dX8_sweep_138 (fun H locs hc hU hS => ?_)
                have hM := hM.put_state (by decide) hc hU
                clear hc hU
                refine lv_aload_n hx hb dX8_sweep_139 rfl (lv_at hl 0 rfl) ?_
                refine kx_get (v := .ref (a + 1)) hx hb hts hinX8 hown hK hM.1 rfl 1 (by decide) (by decide +kernel) rfl dX8_sweep_140 ?_
                refine lv_bipush (v := nI 7) hx hb dX8_sweep_143 (by decide) ?_
                refine lv_dup2_11 hx hb dX8_sweep_145 rfl rfl ?_
                refine kx_iald (i := 7) hx hb hK hM.state 0 rfl (by decide) (by decide) dX8_sweep_146 ?_
                refine kx_ci (y := svT z 7) (by rw [upd_at, if_neg (by omega)]; exact swK_lo (svT z) g _ (by omega)) ?_
                refine lv_iload_n hx hb dX8_sweep_147 rfl (lv_at hl 1 rfl) ?_
                refine lv_iadd hx hb dX8_sweep_148 ?_
                refine kx_iast (i := 7) hx hb hK hM.state hS ⟨by omega, by omega⟩ 0 rfl (by decide) (by decide) dX8_sweep_149 (fun H locs hc hU hS => ?_)
                have hM := hM.put_state (by decide) hc hU
                clear hc hU
                refine lv_iload_n hx hb dX8_sweep_150 rfl (lv_at hl 1 rfl) ?_
                exact kx_iretM hx hb hrt hlk (by rw [hge]) (by unfold swF; rw [hge]; exact hM) hS dX8_sweep_151
              · refine lv_iconst (v := nI 0) hx hb dX8_sweep_49 (by decide) ?_
                refine lv_istore_n (lv' := [(3, .int (nI (0))), (0, .ref (a)), (1, .int (nI (g))), (2, .int (nI (k)))]) hx hb dX8_sweep_50 rfl hl (by decide) rfl (fun ls hl => ?_)
                have J51 : ∀ (fu51 : Nat) (p1 : Nat) (H : Heap) (locs : List Loc) (ls : Array Slot), (10 - p1) < fu51 → (p1 ≤ 10) → (MdC D (cs 0) a (swP (svT z) g k p1 0) H) → va_S ((rgM a)) s.heap H locs → lv_has ls 4 [(0, .ref (a)), (1, .int (nI (g))), (2, .int (nI (k))), (3, .int (nI (p1)))] → W p l e ({ frames := 2, cells := 0, slots := 0, locals := 45 } : Room) s m args below meth c H locs 0 0 (MQ below (QcM (some (.int (nI (swN (svT z))))) (fun H => MdC D (cs 0) a (swF (svT z)) H) (rgM a)) args s 0 0 ((rgM a))) (F0 m 51 ls []) := by
                  intro fu51; induction fu51 with
                  | zero => intro p1 H locs ls hmu51 hp1 hM hS hl; exact absurd hmu51 (Nat.not_lt_zero _)
                  | succ fu51 ih51 =>
                    intro p1 H locs ls hmu51 hp1 hM hS hl
                    refine lv_iload_n hx hb dX8_sweep_51 rfl (lv_at hl 3 rfl) ?_
                    refine lv_bipush (v := nI 10) hx hb dX8_sweep_52 (by decide) ?_
                    refine kn_icmp_ge (tgt := 77) hx hb dX8_sweep_54 (by decide) (by omega) (by decide) (fun c_6 => ?_) (fun c_6 => ?_)
                    · have hpp : p1 = 10 := by omega
                      subst hpp
                      refine lv_iconst (v := nI 0) hx hb dX8_sweep_77 (by decide) ?_
                      refine lv_istore_n (lv' := [(3, .int (nI (0))), (0, .ref (a)), (1, .int (nI (g))), (2, .int (nI (k)))]) hx hb dX8_sweep_78 rfl hl (by decide) rfl (fun ls hl => ?_)
                      have J79 : ∀ (fu79 : Nat) (t : Nat) (H : Heap) (locs : List Loc) (ls : Array Slot), (16 - t) < fu79 → (t ≤ 16) → (MdC D (cs 0) a (swP (svT z) g k 10 t) H) → va_S ((rgM a)) s.heap H locs → lv_has ls 4 [(0, .ref (a)), (1, .int (nI (g))), (2, .int (nI (k))), (3, .int (nI (t)))] → W p l e ({ frames := 2, cells := 0, slots := 0, locals := 45 } : Room) s m args below meth c H locs 0 0 (MQ below (QcM (some (.int (nI (swN (svT z))))) (fun H => MdC D (cs 0) a (swF (svT z)) H) (rgM a)) args s 0 0 ((rgM a))) (F0 m 79 ls []) := by
                        intro fu79; induction fu79 with
                        | zero => intro t H locs ls hmu79 ht hM hS hl; exact absurd hmu79 (Nat.not_lt_zero _)
                        | succ fu79 ih79 =>
                          intro t H locs ls hmu79 ht hM hS hl
                          refine lv_iload_n hx hb dX8_sweep_79 rfl (lv_at hl 3 rfl) ?_
                          refine lv_bipush (v := nI 16) hx hb dX8_sweep_80 (by decide) ?_
                          refine kn_icmp_ge (tgt := 123) hx hb dX8_sweep_82 (by decide) (by omega) (by decide) (fun c_7 => ?_) (fun c_7 => ?_)
                          · have htt : t = 16 := by omega
                            subst htt
                            have hM : MdC D (cs 0) a (swK (svT z) g (k + 1)) H := by rw [← swP_e (svT z) hgk]; exact hM
                            refine lv_iinc (v := nI (k + 1)) (lv' := [(2, .int (nI (k + 1))), (0, .ref (a)), (1, .int (nI (g))), (3, .int (nI (16)))]) (k := 2) hx hb dX8_sweep_123 hl rfl (nI_add _ _) (by decide) rfl (fun ls hl => ?_)
                            refine lv_goto (tgt := 39) hx hb dX8_sweep_126 (by decide) ?_
                            exact ih39 (k + 1) _ _ _ (by omega) (by omega) (by omega) hM hS (lv_sub hl [1, 2, 0] rfl)
                          · refine lv_aload_n hx hb dX8_sweep_85 rfl (lv_at hl 0 rfl) ?_
                            refine kx_get (v := .ref (a + 1)) hx hb hts hinX8 hown hK hM.1 rfl 1 (by decide) (by decide +kernel) rfl dX8_sweep_86 ?_
                            refine lv_sipush (v := nI 320) hx hb dX8_sweep_89 (by decide) ?_
                            refine lv_bipush (v := nI 16) hx hb dX8_sweep_92 (by decide) ?_
                            refine lv_iload_n hx hb dX8_sweep_94 rfl (lv_at hl 2 rfl) ?_
                            refine lv_iload_n hx hb dX8_sweep_95 rfl (lv_at hl 1 rfl) ?_
                            refine kn_sub hx hb (by omega) dX8_sweep_96 ?_
                            refine kn_mul hx hb dX8_sweep_97 ?_
                            refine kn_add hx hb dX8_sweep_98 ?_
                            refine lv_iload_n hx hb dX8_sweep_99 rfl (lv_at hl 3 rfl) ?_
                            refine kn_add hx hb dX8_sweep_100 ?_
                            refine lv_aload_n hx hb dX8_sweep_101 rfl (lv_at hl 0 rfl) ?_
                            refine kx_get (v := .ref (a + 1)) hx hb hts hinX8 hown hK hM.1 rfl 1 (by decide) (by decide +kernel) rfl dX8_sweep_102 ?_
                            refine lv_sipush (v := nI 320) hx hb dX8_sweep_105 (by decide) ?_
                            refine lv_bipush (v := nI 16) hx hb dX8_sweep_108 (by decide) ?_
                            refine lv_iload_n hx hb dX8_sweep_110 rfl (lv_at hl 2 rfl) ?_
                            refine kn_mul hx hb dX8_sweep_111 ?_
                            refine kn_add hx hb dX8_sweep_112 ?_
                            refine lv_iload_n hx hb dX8_sweep_113 rfl (lv_at hl 3 rfl) ?_
                            refine kn_add hx hb dX8_sweep_114 ?_
                            refine kx_iald (i := 320 + (16 * k) + t) hx hb hK hM.state 0 rfl (by omega) (by decide) dX8_sweep_115 ?_
                            refine kx_ci (y := svT z (320 + 16 * k + t)) (swP_srct (svT z) hgk (by omega) (Nat.le_refl t) (by omega)) ?_
                            refine kx_iast (i := 320 + (16 * (k - g)) + t) hx hb hK hM.state hS ⟨by omega, by omega⟩ 0 rfl (by omega) (by decide) dX8_sweep_116 (fun H locs hc hU hS => ?_)
                            have hM := hM.put_state (by omega) hc hU
                            clear hc hU
                            have hM : MdC D (cs 0) a (swP (svT z) g k 10 (t + 1)) H := (by rw [← swP_t (svT z) hgk (by omega) (by omega)]; exact hM)
                            refine lv_iinc (v := nI (t + 1)) (lv' := [(3, .int (nI (t + 1))), (0, .ref (a)), (1, .int (nI (g))), (2, .int (nI (k)))]) (k := 3) hx hb dX8_sweep_117 hl rfl (nI_add _ _) (by decide) rfl (fun ls hl => ?_)
                            refine lv_goto (tgt := 79) hx hb dX8_sweep_120 (by decide) ?_
                            exact ih79 (t + 1) _ _ _ (by omega) (by omega) hM hS (lv_sub hl [1, 2, 3, 0] rfl)
                      exact J79 _ 0 _ _ _ (Nat.lt_succ_self _) (by omega) hM hS (lv_sub hl [1, 2, 3, 0] rfl)
                    · refine lv_aload_n hx hb dX8_sweep_57 rfl (lv_at hl 0 rfl) ?_
                      refine lv_iload_n hx hb dX8_sweep_58 rfl (lv_at hl 2 rfl) ?_
                      refine lv_iload_n hx hb dX8_sweep_59 rfl (lv_at hl 1 rfl) ?_
                      refine kn_sub hx hb (by omega) dX8_sweep_60 ?_
                      refine lv_iload_n hx hb dX8_sweep_61 rfl (lv_at hl 3 rfl) ?_
                      refine lv_aload_n hx hb dX8_sweep_62 rfl (lv_at hl 0 rfl) ?_
                      refine lv_iload_n hx hb dX8_sweep_63 rfl (lv_at hl 2 rfl) ?_
                      refine lv_iload_n hx hb dX8_sweep_64 rfl (lv_at hl 3 rfl) ?_
                      refine kx_retP (va_runV (As := [.int (nI (k)), .int (nI (p1))]) (rest := [.int (nI (p1)), .int (nI (k - g)), .ref (a)]) ⟨hx, hb, hml, hown, hts⟩ (k_X8_movePart l D cs a (swP (svT z) g k p1 0) k p1 (by omega) (by omega)) (cwV 2 hts gX8_sweep_X8_movePart rfl rfl rfl (by decide +kernel) ⟨Nat.le_of_ble_eq_true rfl, Nat.le_of_ble_eq_true rfl⟩) (kx_preV hK hN hM.1 rfl hM) rfl rfl hl.1 rfl (lv_room (Nat.le_of_ble_eq_true rfl)) dX8_sweep_65 ⟨Nat.le_of_ble_eq_true rfl, Nat.le_of_ble_eq_true rfl⟩) ?_
                      refine kx_ci (y := svT z (80 + 10 * k + p1)) (swP_src (svT z) hgk (by omega) (Nat.le_refl p1) (by omega)) ?_
                      refine kx_retM (va_runV (As := [.int (nI (k - g)), .int (nI (p1)), .int (svT z (80 + 10 * k + p1))]) (rest := []) ⟨hx, hb, hml, hown, hts⟩ (k_X8_setMovePart l D cs a (swP (svT z) g k p1 0) (k - g) p1 (svT z (80 + 10 * k + p1)) (by omega) (by omega)) (cwV 3 hts gX8_sweep_X8_setMovePart rfl rfl rfl (by decide +kernel) ⟨Nat.le_of_ble_eq_true rfl, Nat.le_of_ble_eq_true rfl⟩) (kx_preV hK hN hM.1 rfl hM) rfl rfl hl.1 rfl (lv_room (Nat.le_of_ble_eq_true rfl)) dX8_sweep_68 ⟨Nat.le_of_ble_eq_true rfl, Nat.le_of_ble_eq_true rfl⟩) hS (fun q _ h => h) (fun q h => h) (fun H locs hM hk hS => ?_)
                      clear hk
                      have hM : MdC D (cs 0) a (swP (svT z) g k (p1 + 1) 0) H := (by rw [← swP_p (svT z) hgk (by omega) (by omega)]; exact hM)
                      refine lv_iinc (v := nI (p1 + 1)) (lv' := [(3, .int (nI (p1 + 1))), (0, .ref (a)), (1, .int (nI (g))), (2, .int (nI (k)))]) (k := 3) hx hb dX8_sweep_71 hl rfl (nI_add _ _) (by decide) rfl (fun ls hl => ?_)
                      refine lv_goto (tgt := 51) hx hb dX8_sweep_74 (by decide) ?_
                      exact ih51 (p1 + 1) _ _ _ (by omega) (by omega) hM hS (lv_sub hl [1, 2, 3, 0] rfl)
                exact J51 _ 0 _ _ _ (Nat.lt_succ_self _) (by omega) (by rw [swP_0]; exact hM) hS (lv_sub hl [1, 2, 3, 0] rfl)
          exact J39 _ g _ _ _ (Nat.lt_succ_self _) (by omega) (by omega) (by rw [swK_g]; exact hM) hS (lv_sub hl [1, 2, 0] rfl)
        · refine lv_iinc (v := nI (g + 1)) (lv' := [(1, .int (nI (g + 1))), (0, .ref (a))]) (k := 1) hx hb dX8_sweep_31 hl rfl (nI_add _ _) (by decide) rfl (fun ls hl => ?_)
          refine lv_goto (tgt := 11) hx hb dX8_sweep_34 (by decide) ?_
          exact ih11 (g + 1) _ _ _ (by omega) (by omega) (fun j hj => by rcases Nat.lt_succ_iff_lt_or_eq.mp hj with q | q; exact hsg j q; subst q; exact hph) hM hS (lv_sub hl [1, 0] rfl)
  exact J11 _ 0 _ _ _ (Nat.lt_succ_self _) (by omega) (fun j hj => absurd hj (Nat.not_lt_zero j)) hM hS (lv_sub hl [1, 0] rfl)
