set_option maxHeartbeats 1500000 in
set_option maxRecDepth 100000 in
theorem k_X8_whyNotWritten (l : Launch) (D : va_G) (cs : Nat → ClassId) (a : Nat) (z : Nat → Int32) (x y : Int32) (hI : Inv z) : Met l yX8_whyNotWritten wsX8_whyNotWritten ({ frames := 5, cells := 0, slots := 0, locals := 117 } : Room) (PcK D cs [.ref (a), .int (x), .int (y)] (fun H => MdC D (cs 0) a z H)) (QcP (some (.int (nI (wwr z x y))))) 0 0 nowhere := by
  refine kx_met (cc := cX8_whyNotWritten) (maxL := 3) (ret := (some .int)) (by decide) rfl (Nat.le_of_ble_eq_true rfl) ?_
  intro p e s m args below meth c hx hb hml hrt hts hown hlk hK hN hP ls hl
  have hl : lv_has ls 3 [(0, .ref (a)), (1, .int (x)), (2, .int (y))] := hl
  have hM := hP
  refine lv_aload_n hx hb dX8_whyNotWritten_0 rfl (lv_at hl 0 rfl) ?_
  refine lv_iload_n hx hb dX8_whyNotWritten_1 rfl (lv_at hl 1 rfl) ?_
  refine kx_retP (va_runV (As := [.int (x)]) (rest := []) ⟨hx, hb, hml, hown, hts⟩ (k_X8_isCell l D cs a z x) (cwV 1 hts gX8_whyNotWritten_X8_isCell rfl rfl rfl (by decide +kernel) ⟨Nat.le_of_ble_eq_true rfl, Nat.le_of_ble_eq_true rfl⟩) (kx_preV hK hN hM.1 rfl hM) rfl rfl hl.1 rfl (lv_room (Nat.le_of_ble_eq_true rfl)) dX8_whyNotWritten_2 ⟨Nat.le_of_ble_eq_true rfl, Nat.le_of_ble_eq_true rfl⟩) ?_
  refine kb_if_ne (tgt := 12) hx hb dX8_whyNotWritten_5 (by decide) (fun hq => ?_) (fun hq => ?_)
  · obtain ⟨q, hq48, rfl⟩ := cell_of hq
    have hnq : nn (nI q) = q := nn_nI (by omega)
    refine lv_iload_n hx hb dX8_whyNotWritten_12 rfl (lv_at hl 2 rfl) ?_
    refine lv_sipush (v := -999) hx hb dX8_whyNotWritten_13 (by decide) ?_
    refine lv_sipush (v := nI 999) hx hb dX8_whyNotWritten_16 (by decide) ?_
    refine kx_retP (va_runS (As := [.int (y), .int ((-999)), .int (nI (999))]) (rest := []) ⟨hx, hb, hml, hown, hts⟩ (k_X8_within l D cs y ((-999)) (nI (999))) (cwS 3 hts gX8_whyNotWritten_X8_within rfl rfl rfl (by decide +kernel) ⟨Nat.le_of_ble_eq_true rfl, Nat.le_of_ble_eq_true rfl⟩) (kx_preS hK hN trivial) rfl rfl hl.1 rfl (lv_room (Nat.le_of_ble_eq_true rfl)) dX8_whyNotWritten_19 ⟨Nat.le_of_ble_eq_true rfl, Nat.le_of_ble_eq_true rfl⟩) ?_
    refine kb_if_ne (tgt := 29) hx hb dX8_whyNotWritten_22 (by decide) (fun c_1 => ?_) (fun c_1 => ?_)
    · refine lv_aload_n hx hb dX8_whyNotWritten_29 rfl (lv_at hl 0 rfl) ?_
      refine lv_iload_n hx hb dX8_whyNotWritten_30 rfl (lv_at hl 1 rfl) ?_
      refine kx_retP (va_runV (As := [.int (nI (q))]) (rest := []) ⟨hx, hb, hml, hown, hts⟩ (k_X8_reasonOf l D cs a z q hI (by first | assumption | omega)) (cwV 1 hts gX8_whyNotWritten_X8_reasonOf rfl rfl rfl (by decide +kernel) ⟨Nat.le_of_ble_eq_true rfl, Nat.le_of_ble_eq_true rfl⟩) (kx_preV hK hN hM.1 rfl hM) rfl rfl hl.1 rfl (lv_room (Nat.le_of_ble_eq_true rfl)) dX8_whyNotWritten_31 ⟨Nat.le_of_ble_eq_true rfl, Nat.le_of_ble_eq_true rfl⟩) ?_
      refine kn_if_le (tgt := 41) hx hb dX8_whyNotWritten_34 (by decide) (by have : rsC z q < 4 := Nat.mod_lt _ (by decide); omega) (fun c_2 => ?_) (fun c_2 => ?_)
      · refine lv_iconst (v := nI 0) hx hb dX8_whyNotWritten_41 (by decide) ?_
        exact kx_iretP hx hb hrt hlk (congrArg nI (by first | (simp [wwr, Nat.pos_iff_ne_zero, *]; done) | (exfalso; omega) | (exfalso; simp_all; done))) dX8_whyNotWritten_42
      · refine lv_iconst (v := nI 3) hx hb dX8_whyNotWritten_37 (by decide) ?_
        refine lv_goto (tgt := 42) hx hb dX8_whyNotWritten_38 (by decide) ?_
        exact kx_iretP hx hb hrt hlk (congrArg nI (by first | (simp [wwr, Nat.pos_iff_ne_zero, *]; done) | (exfalso; omega) | (exfalso; simp_all; done))) dX8_whyNotWritten_42
    · refine lv_iconst (v := nI 2) hx hb dX8_whyNotWritten_25 (by decide) ?_
      refine lv_goto (tgt := 42) hx hb dX8_whyNotWritten_26 (by decide) ?_
      exact kx_iretP hx hb hrt hlk (congrArg nI (by first | (simp [wwr, Nat.pos_iff_ne_zero, *]; done) | (exfalso; omega) | (exfalso; simp_all; done))) dX8_whyNotWritten_42
  · refine lv_iconst (v := nI 1) hx hb dX8_whyNotWritten_8 (by decide) ?_
    refine lv_goto (tgt := 42) hx hb dX8_whyNotWritten_9 (by decide) ?_
    exact kx_iretP hx hb hrt hlk (congrArg nI (by first | (simp [wwr, Nat.pos_iff_ne_zero, *]; done) | (exfalso; omega) | (exfalso; simp_all; done))) dX8_whyNotWritten_42
set_option maxHeartbeats 1500000 in
set_option maxRecDepth 100000 in
theorem k_X8_byteAt (l : Launch) (D : va_G) (cs : Nat → ClassId) (a : Nat) (z : Nat → Int32) (b : Nat → Int32) (n0 k : Nat) (hT : TXT z b n0) (hk : k < 1000) : Met l yX8_byteAt wsX8_byteAt ({ frames := 0, cells := 0, slots := 0, locals := 0 } : Room) (PcK D cs [.ref (a), .int (nI (k))] (fun H => MdC D (cs 0) a z H)) (QcP (some (.int (bt b n0 k)))) 0 0 nowhere := by
  refine kx_met (cc := cX8_byteAt) (maxL := 2) (ret := (some .int)) (by decide) rfl (Nat.le_of_ble_eq_true rfl) ?_
  intro p e s m args below meth c hx hb hml hrt hts hown hlk hK hN hP ls hl
  have hl : lv_has ls 2 [(0, .ref (a)), (1, .int (nI (k)))] := hl
  have hinX8 : ∀ w ∈ wsX80, w ∈ wsX8_byteAt := by decide +kernel
  have hM := hP
  have hn150 := hT.2.2
  have h4405 := hT.2.1
  refine lv_iload_n hx hb dX8_byteAt_0 rfl (lv_at hl 1 rfl) ?_
  refine lv_aload_n hx hb dX8_byteAt_1 rfl (lv_at hl 0 rfl) ?_
  refine kx_get (v := .int (z 4405)) hx hb hts hinX8 hown hK hM.1 rfl 6 (by decide) (by decide +kernel) rfl dX8_byteAt_2 ?_
  refine kx_ci (y := nI (n0)) h4405 ?_
  refine kn_icmp_ge (tgt := 17) hx hb dX8_byteAt_5 (by decide) (by omega) (by omega) (fun c_1 => ?_) (fun c_1 => ?_)
  · refine lv_iconst (v := -1) hx hb dX8_byteAt_17 (by decide) ?_
    exact kx_iretP hx hb hrt hlk (by first | exact (bt_lt (by omega)).symm | exact (bt_ge (by omega)).symm) dX8_byteAt_18
  · refine lv_aload_n hx hb dX8_byteAt_8 rfl (lv_at hl 0 rfl) ?_
    refine kx_get (v := .ref (a + 4)) hx hb hts hinX8 hown hK hM.1 rfl 5 (by decide) (by decide +kernel) rfl dX8_byteAt_9 ?_
    refine lv_iload_n hx hb dX8_byteAt_12 rfl (lv_at hl 1 rfl) ?_
    refine kx_iald (i := k) hx hb hK hM.text 0 rfl (by omega) (by decide) dX8_byteAt_13 ?_
    refine kx_ci (y := b k) (hT.1 k (by omega)) ?_
    refine lv_goto (tgt := 18) hx hb dX8_byteAt_14 (by decide) ?_
    exact kx_iretP hx hb hrt hlk (by first | exact (bt_lt (by omega)).symm | exact (bt_ge (by omega)).symm) dX8_byteAt_18
set_option maxHeartbeats 1500000 in
set_option maxRecDepth 100000 in
theorem k_X8_skipSpaces (l : Launch) (D : va_G) (cs : Nat → ClassId) (a : Nat) (z : Nat → Int32) (b : Nat → Int32) (n0 k : Nat) (hT : TXT z b n0) (hp : z 4406 = nI k) (hk : k ≤ n0) : Met l yX8_skipSpaces wsX8_skipSpaces ({ frames := 1, cells := 0, slots := 0, locals := 21 } : Room) (PcK D cs [.ref (a)] (fun H => MdC D (cs 0) a z H)) (QcM none (fun H => MdC D (cs 0) a (upd z 4406 (nI (skp b n0 k))) H) (rgM a)) 0 0 ((rgM a)) := by
  refine kx_met (cc := cX8_skipSpaces) (maxL := 1) (ret := none) (by decide) rfl (Nat.le_of_ble_eq_true rfl) ?_
  intro p e s m args below meth c hx hb hml hrt hts hown hlk hK hN hP ls hl
  have hl : lv_has ls 1 [(0, .ref (a))] := hl
  obtain ⟨H, hHe⟩ : ∃ H : Heap, H = s.heap := ⟨_, rfl⟩
  rw [← hHe] at hP ⊢
  have hS : va_S ((rgM a)) s.heap H [] := by rw [← hHe]; exact va_S.rf
  have hinX8 : ∀ w ∈ wsX80, w ∈ wsX8_skipSpaces := by decide +kernel
  have hM := hP
  have hn150 := hT.2.2
  have h4405 := hT.2.1
  have J0 : ∀ (fu0 : Nat) (i : Nat) (H : Heap) (locs : List Loc) (ls : Array Slot), (n0 - (k + i)) < fu0 → (k + i ≤ n0) → (∀ j, j < i → bt b n0 (k + j) = nI 32) → (MdC D (cs 0) a (upd z 4406 (nI (k + i))) H) → va_S ((rgM a)) s.heap H locs → lv_has ls 1 [(0, .ref (a))] → W p l e ({ frames := 1, cells := 0, slots := 0, locals := 21 } : Room) s m args below meth c H locs 0 0 (MQ below (QcM none (fun H => MdC D (cs 0) a (upd z 4406 (nI (skp b n0 k))) H) (rgM a)) args s 0 0 ((rgM a))) (F0 m 0 ls []) := by
    intro fu0; induction fu0 with
    | zero => intro i H locs ls hmu0 hi hsm hM hS hl; exact absurd hmu0 (Nat.not_lt_zero _)
    | succ fu0 ih0 =>
      intro i H locs ls hmu0 hi hsm hM hS hl
      have hTy := (TX.pl z (nI (k + i))).txt hT
      refine lv_aload_n hx hb dX8_skipSpaces_0 rfl (lv_at hl 0 rfl) ?_
      refine lv_aload_n hx hb dX8_skipSpaces_1 rfl (lv_at hl 0 rfl) ?_
      refine kx_get (v := .int ((upd z 4406 (nI (k + i))) 4406)) hx hb hts hinX8 hown hK hM.1 rfl 7 (by decide) (by decide +kernel) rfl dX8_skipSpaces_2 ?_
      refine kx_ci (y := nI (k + i)) rfl ?_
      refine kx_retP (va_runV (As := [.int (nI (k + i))]) (rest := []) ⟨hx, hb, hml, hown, hts⟩ (k_X8_byteAt l D cs a (upd z 4406 (nI (k + i))) b n0 (k + i) hTy (by first | assumption | omega)) (cwV 1 hts gX8_skipSpaces_X8_byteAt rfl rfl rfl (by decide +kernel) ⟨Nat.le_of_ble_eq_true rfl, Nat.le_of_ble_eq_true rfl⟩) (kx_preV hK hN hM.1 rfl hM) rfl rfl hl.1 rfl (lv_room (Nat.le_of_ble_eq_true rfl)) dX8_skipSpaces_5 ⟨Nat.le_of_ble_eq_true rfl, Nat.le_of_ble_eq_true rfl⟩) ?_
      refine lv_bipush (v := nI 32) hx hb dX8_skipSpaces_8 (by decide) ?_
      refine lv_icmp_ne (tgt := 26) hx hb dX8_skipSpaces_10 (by decide) (fun hsp => ?_) (fun hsp => ?_)
      · exact kx_vretM hx hb hrt hlk (by rw [skp_is hsm hsp hk]; exact hM) hS dX8_skipSpaces_26
      · refine lv_aload_n hx hb dX8_skipSpaces_13 rfl (lv_at hl 0 rfl) ?_
        refine lv_dup hx hb dX8_skipSpaces_14 rfl ?_
        refine kx_get (v := .int ((upd z 4406 (nI (k + i))) 4406)) hx hb hts hinX8 hown hK hM.1 rfl 7 (by decide) (by decide +kernel) rfl dX8_skipSpaces_15 ?_
        refine kx_ci (y := nI (k + i)) rfl ?_
        refine lv_iconst (v := nI 1) hx hb dX8_skipSpaces_18 (by decide) ?_
        refine kn_add hx hb dX8_skipSpaces_19 ?_
        refine kx_put hx hb hts hinX8 tyX8_ok nmX8 hown hK hM.1 rfl hS ⟨by omega, by omega⟩ 7 (by decide) (by decide +kernel) rfl rfl rfl (Nat.le_of_ble_eq_true rfl) dX8_skipSpaces_20 (fun H locs hc hU hS => ?_)
        have hM := hM.put_place hc hU
        clear hc hU
        have hM : MdC D (cs 0) a (upd z 4406 (nI (k + (i + 1)))) H := (hM.congr (fun j _ => by simp only [upd_at]; by_cases e : j = 4406 <;> simp [e, Nat.add_assoc]))
        refine lv_goto (tgt := 0) hx hb dX8_skipSpaces_23 (by decide) ?_
        have hlt := bt_32 hsp
        exact ih0 (i + 1) _ _ _ (by omega) (by omega) (fun j hj => by rcases Nat.lt_succ_iff_lt_or_eq.mp hj with q | q; exact hsm j q; subst q; exact hsp) hM hS (lv_sub hl [0] rfl)
  exact J0 _ 0 _ _ _ (Nat.lt_succ_self _) (by omega) (fun j hj => absurd hj (Nat.not_lt_zero j)) (hM.congr (fun j _ => by rw [upd_at]; by_cases e : j = 4406 <;> simp [e, hp])) hS (lv_sub hl [0] rfl)
set_option maxHeartbeats 1500000 in
set_option maxRecDepth 100000 in
theorem k_X8_hasWord (l : Launch) (D : va_G) (cs : Nat → ClassId) (a : Nat) (z : Nat → Int32) (b : Nat → Int32) (n0 f e0 many : Nat) (c0 c1 c2 c3 c4 c5 : Int32) (hT : TXT z b n0) (hp : z 4406 = nI e0) (hfe : f ≤ e0) (he : e0 ≤ n0) (hmy : many < 10) : Met l yX8_hasWord wsX8_hasWord ({ frames := 1, cells := 0, slots := 0, locals := 21 } : Room) (PcK D cs [.ref (a), .int (nI (f)), .int (nI (many)), .int (c0), .int (c1), .int (c2), .int (c3), .int (c4), .int (c5)] (fun H => MdC D (cs 0) a z H)) (QcP (some (.int (bI (hwB b n0 f e0 many c0 c1 c2 c3 c4 c5))))) 0 0 nowhere := by
  refine kx_met (cc := cX8_hasWord) (maxL := 10) (ret := (some .boolean)) (by decide) rfl (Nat.le_of_ble_eq_true rfl) ?_
  intro p e s m args below meth c hx hb hml hrt hts hown hlk hK hN hP ls hl
  have hl : lv_has ls 10 [(0, .ref (a)), (1, .int (nI (f))), (2, .int (nI (many))), (3, .int (c0)), (4, .int (c1)), (5, .int (c2)), (6, .int (c3)), (7, .int (c4)), (8, .int (c5))] := hl
  have hinX8 : ∀ w ∈ wsX80, w ∈ wsX8_hasWord := by decide +kernel
  have hM := hP
  have hn150 := hT.2.2
  have h4405 := hT.2.1
  have J128 : ∀ (ls : Array Slot), lv_has ls 10 [(0, .ref (a)), (1, .int (nI (f))), (2, .int (nI (many))), (3, .int (c0)), (4, .int (c1)), (5, .int (c2)), (6, .int (c3)), (7, .int (c4)), (8, .int (c5)), (9, .int (bI (hw3 b n0 f many c0 c1 c2 c3 c4 c5)))] → W p l e ({ frames := 1, cells := 0, slots := 0, locals := 21 } : Room) s m args below meth c s.heap [] 0 0 (MQ below (QcP (some (.int (bI (hwB b n0 f e0 many c0 c1 c2 c3 c4 c5))))) args s 0 0 nowhere) (F0 m 128 ls []) := by
    intro ls hl
    refine lv_iload hx hb dX8_hasWord_128 (lv_at hl 9 rfl) ?_
    refine kb_if_eq (tgt := 147) hx hb dX8_hasWord_130 (by decide) (fun c_1 => ?_) (fun c_1 => ?_)
    · refine lv_iconst (v := nI 0) hx hb dX8_hasWord_147 (by decide) ?_
      exact kx_zretP hx hb hrt hlk (by first | (simp [hwB, bI_t, bI_f, *]; done) | (simp [hwB, bI_t, bI_f, *]; omega) | (exfalso; omega)) dX8_hasWord_148
    · refine lv_aload_n hx hb dX8_hasWord_133 rfl (lv_at hl 0 rfl) ?_
      refine kx_get (v := .int (z 4406)) hx hb hts hinX8 hown hK hM.1 rfl 7 (by decide) (by decide +kernel) rfl dX8_hasWord_134 ?_
      refine kx_ci (y := nI (e0)) hp ?_
      refine lv_iload_n hx hb dX8_hasWord_137 rfl (lv_at hl 1 rfl) ?_
      refine kn_sub hx hb (by omega) dX8_hasWord_138 ?_
      refine lv_iload_n hx hb dX8_hasWord_139 rfl (lv_at hl 2 rfl) ?_
      refine kn_icmp_ne (tgt := 147) hx hb dX8_hasWord_140 (by decide) (by omega) (by omega) (fun c_2 => ?_) (fun c_2 => ?_)
      · refine lv_iconst (v := nI 0) hx hb dX8_hasWord_147 (by decide) ?_
        exact kx_zretP hx hb hrt hlk (by first | (simp [hwB, bI_t, bI_f, *]; done) | (simp [hwB, bI_t, bI_f, *]; omega) | (exfalso; omega)) dX8_hasWord_148
      · refine lv_iconst (v := nI 1) hx hb dX8_hasWord_143 (by decide) ?_
        refine lv_goto (tgt := 148) hx hb dX8_hasWord_144 (by decide) ?_
        exact kx_zretP hx hb hrt hlk (by first | (simp [hwB, bI_t, bI_f, *]; done) | (simp [hwB, bI_t, bI_f, *]; omega) | (exfalso; omega)) dX8_hasWord_148
  have J98 : ∀ (ls : Array Slot), lv_has ls 10 [(0, .ref (a)), (1, .int (nI (f))), (2, .int (nI (many))), (3, .int (c0)), (4, .int (c1)), (5, .int (c2)), (6, .int (c3)), (7, .int (c4)), (8, .int (c5)), (9, .int (bI (hw2 b n0 f many c0 c1 c2 c3 c4)))] → W p l e ({ frames := 1, cells := 0, slots := 0, locals := 21 } : Room) s m args below meth c s.heap [] 0 0 (MQ below (QcP (some (.int (bI (hwB b n0 f e0 many c0 c1 c2 c3 c4 c5))))) args s 0 0 nowhere) (F0 m 98 ls []) := by
    intro ls hl
    refine lv_iload hx hb dX8_hasWord_98 (lv_at hl 9 rfl) ?_
    refine kb_if_eq (tgt := 125) hx hb dX8_hasWord_100 (by decide) (fun c_3 => ?_) (fun c_3 => ?_)
    · refine lv_iconst (v := nI 0) hx hb dX8_hasWord_125 (by decide) ?_
      refine kx_ci (x := nI (0)) (y := bI (hw3 b n0 f many c0 c1 c2 c3 c4 c5)) (by first | (simp [hw3, bI_t, bI_f, *]; done) | (simp [hw3, bI_t, bI_f, *]; omega) | (exfalso; omega)) ?_
      refine lv_istore (lv' := [(9, .int (bI (hw3 b n0 f many c0 c1 c2 c3 c4 c5))), (0, .ref (a)), (1, .int (nI (f))), (2, .int (nI (many))), (3, .int (c0)), (4, .int (c1)), (5, .int (c2)), (6, .int (c3)), (7, .int (c4)), (8, .int (c5))]) hx hb dX8_hasWord_126 hl (by decide) rfl (fun ls hl => ?_)
      exact J128 _ (lv_sub hl [1, 2, 3, 4, 5, 6, 7, 8, 9, 0] rfl)
    · refine lv_iload_n hx hb dX8_hasWord_103 rfl (lv_at hl 2 rfl) ?_
      refine lv_bipush (v := nI 6) hx hb dX8_hasWord_104 (by decide) ?_
      refine kn_icmp_lt (tgt := 121) hx hb dX8_hasWord_106 (by decide) (by omega) (by decide) (fun c_4 => ?_) (fun c_4 => ?_)
      · refine lv_iconst (v := nI 1) hx hb dX8_hasWord_121 (by decide) ?_
        refine lv_goto (tgt := 126) hx hb dX8_hasWord_122 (by decide) ?_
        refine kx_ci (x := nI (1)) (y := bI (hw3 b n0 f many c0 c1 c2 c3 c4 c5)) (by first | (simp [hw3, bI_t, bI_f, *]; done) | (simp [hw3, bI_t, bI_f, *]; omega) | (exfalso; omega)) ?_
        refine lv_istore (lv' := [(9, .int (bI (hw3 b n0 f many c0 c1 c2 c3 c4 c5))), (0, .ref (a)), (1, .int (nI (f))), (2, .int (nI (many))), (3, .int (c0)), (4, .int (c1)), (5, .int (c2)), (6, .int (c3)), (7, .int (c4)), (8, .int (c5))]) hx hb dX8_hasWord_126 hl (by decide) rfl (fun ls hl => ?_)
        exact J128 _ (lv_sub hl [1, 2, 3, 4, 5, 6, 7, 8, 9, 0] rfl)
      · refine lv_aload_n hx hb dX8_hasWord_109 rfl (lv_at hl 0 rfl) ?_
        refine lv_iload_n hx hb dX8_hasWord_110 rfl (lv_at hl 1 rfl) ?_
        refine lv_iconst (v := nI 5) hx hb dX8_hasWord_111 (by decide) ?_
        refine kn_add hx hb dX8_hasWord_112 ?_
        refine kx_retP (va_runV (As := [.int (nI (f + 5))]) (rest := []) ⟨hx, hb, hml, hown, hts⟩ (k_X8_byteAt l D cs a z b n0 (f + 5) hT (by first | assumption | omega)) (cwV 1 hts gX8_hasWord_X8_byteAt rfl rfl rfl (by decide +kernel) ⟨Nat.le_of_ble_eq_true rfl, Nat.le_of_ble_eq_true rfl⟩) (kx_preV hK hN hM.1 rfl hM) rfl rfl hl.1 rfl (lv_room (Nat.le_of_ble_eq_true rfl)) dX8_hasWord_113 ⟨Nat.le_of_ble_eq_true rfl, Nat.le_of_ble_eq_true rfl⟩) ?_
        refine lv_iload hx hb dX8_hasWord_116 (lv_at hl 8 rfl) ?_
        refine lv_icmp_ne (tgt := 125) hx hb dX8_hasWord_118 (by decide) (fun c_5 => ?_) (fun c_5 => ?_)
        · refine lv_iconst (v := nI 0) hx hb dX8_hasWord_125 (by decide) ?_
          refine kx_ci (x := nI (0)) (y := bI (hw3 b n0 f many c0 c1 c2 c3 c4 c5)) (by first | (simp [hw3, bI_t, bI_f, *]; done) | (simp [hw3, bI_t, bI_f, *]; omega) | (exfalso; omega)) ?_
          refine lv_istore (lv' := [(9, .int (bI (hw3 b n0 f many c0 c1 c2 c3 c4 c5))), (0, .ref (a)), (1, .int (nI (f))), (2, .int (nI (many))), (3, .int (c0)), (4, .int (c1)), (5, .int (c2)), (6, .int (c3)), (7, .int (c4)), (8, .int (c5))]) hx hb dX8_hasWord_126 hl (by decide) rfl (fun ls hl => ?_)
          exact J128 _ (lv_sub hl [1, 2, 3, 4, 5, 6, 7, 8, 9, 0] rfl)
        · refine lv_iconst (v := nI 1) hx hb dX8_hasWord_121 (by decide) ?_
          refine lv_goto (tgt := 126) hx hb dX8_hasWord_122 (by decide) ?_
          refine kx_ci (x := nI (1)) (y := bI (hw3 b n0 f many c0 c1 c2 c3 c4 c5)) (by first | (simp [hw3, bI_t, bI_f, *]; done) | (simp [hw3, bI_t, bI_f, *]; omega) | (exfalso; omega)) ?_
          refine lv_istore (lv' := [(9, .int (bI (hw3 b n0 f many c0 c1 c2 c3 c4 c5))), (0, .ref (a)), (1, .int (nI (f))), (2, .int (nI (many))), (3, .int (c0)), (4, .int (c1)), (5, .int (c2)), (6, .int (c3)), (7, .int (c4)), (8, .int (c5))]) hx hb dX8_hasWord_126 hl (by decide) rfl (fun ls hl => ?_)
          exact J128 _ (lv_sub hl [1, 2, 3, 4, 5, 6, 7, 8, 9, 0] rfl)
  have J69 : ∀ (ls : Array Slot), lv_has ls 10 [(0, .ref (a)), (1, .int (nI (f))), (2, .int (nI (many))), (3, .int (c0)), (4, .int (c1)), (5, .int (c2)), (6, .int (c3)), (7, .int (c4)), (8, .int (c5)), (9, .int (bI (hw1 b n0 f many c0 c1 c2 c3)))] → W p l e ({ frames := 1, cells := 0, slots := 0, locals := 21 } : Room) s m args below meth c s.heap [] 0 0 (MQ below (QcP (some (.int (bI (hwB b n0 f e0 many c0 c1 c2 c3 c4 c5))))) args s 0 0 nowhere) (F0 m 69 ls []) := by
    intro ls hl
    refine lv_iload hx hb dX8_hasWord_69 (lv_at hl 9 rfl) ?_
    refine kb_if_eq (tgt := 95) hx hb dX8_hasWord_71 (by decide) (fun c_6 => ?_) (fun c_6 => ?_)
    · refine lv_iconst (v := nI 0) hx hb dX8_hasWord_95 (by decide) ?_
      refine kx_ci (x := nI (0)) (y := bI (hw2 b n0 f many c0 c1 c2 c3 c4)) (by first | (simp [hw2, bI_t, bI_f, *]; done) | (simp [hw2, bI_t, bI_f, *]; omega) | (exfalso; omega)) ?_
      refine lv_istore (lv' := [(9, .int (bI (hw2 b n0 f many c0 c1 c2 c3 c4))), (0, .ref (a)), (1, .int (nI (f))), (2, .int (nI (many))), (3, .int (c0)), (4, .int (c1)), (5, .int (c2)), (6, .int (c3)), (7, .int (c4)), (8, .int (c5))]) hx hb dX8_hasWord_96 hl (by decide) rfl (fun ls hl => ?_)
      exact J98 _ (lv_sub hl [1, 2, 3, 4, 5, 6, 7, 8, 9, 0] rfl)
    · refine lv_iload_n hx hb dX8_hasWord_74 rfl (lv_at hl 2 rfl) ?_
      refine lv_iconst (v := nI 5) hx hb dX8_hasWord_75 (by decide) ?_
      refine kn_icmp_lt (tgt := 91) hx hb dX8_hasWord_76 (by decide) (by omega) (by decide) (fun c_7 => ?_) (fun c_7 => ?_)
      · refine lv_iconst (v := nI 1) hx hb dX8_hasWord_91 (by decide) ?_
        refine lv_goto (tgt := 96) hx hb dX8_hasWord_92 (by decide) ?_
        refine kx_ci (x := nI (1)) (y := bI (hw2 b n0 f many c0 c1 c2 c3 c4)) (by first | (simp [hw2, bI_t, bI_f, *]; done) | (simp [hw2, bI_t, bI_f, *]; omega) | (exfalso; omega)) ?_
        refine lv_istore (lv' := [(9, .int (bI (hw2 b n0 f many c0 c1 c2 c3 c4))), (0, .ref (a)), (1, .int (nI (f))), (2, .int (nI (many))), (3, .int (c0)), (4, .int (c1)), (5, .int (c2)), (6, .int (c3)), (7, .int (c4)), (8, .int (c5))]) hx hb dX8_hasWord_96 hl (by decide) rfl (fun ls hl => ?_)
        exact J98 _ (lv_sub hl [1, 2, 3, 4, 5, 6, 7, 8, 9, 0] rfl)
      · refine lv_aload_n hx hb dX8_hasWord_79 rfl (lv_at hl 0 rfl) ?_
        refine lv_iload_n hx hb dX8_hasWord_80 rfl (lv_at hl 1 rfl) ?_
        refine lv_iconst (v := nI 4) hx hb dX8_hasWord_81 (by decide) ?_
        refine kn_add hx hb dX8_hasWord_82 ?_
        refine kx_retP (va_runV (As := [.int (nI (f + 4))]) (rest := []) ⟨hx, hb, hml, hown, hts⟩ (k_X8_byteAt l D cs a z b n0 (f + 4) hT (by first | assumption | omega)) (cwV 1 hts gX8_hasWord_X8_byteAt rfl rfl rfl (by decide +kernel) ⟨Nat.le_of_ble_eq_true rfl, Nat.le_of_ble_eq_true rfl⟩) (kx_preV hK hN hM.1 rfl hM) rfl rfl hl.1 rfl (lv_room (Nat.le_of_ble_eq_true rfl)) dX8_hasWord_83 ⟨Nat.le_of_ble_eq_true rfl, Nat.le_of_ble_eq_true rfl⟩) ?_
        refine lv_iload hx hb dX8_hasWord_86 (lv_at hl 7 rfl) ?_
        refine lv_icmp_ne (tgt := 95) hx hb dX8_hasWord_88 (by decide) (fun c_8 => ?_) (fun c_8 => ?_)
        · refine lv_iconst (v := nI 0) hx hb dX8_hasWord_95 (by decide) ?_
          refine kx_ci (x := nI (0)) (y := bI (hw2 b n0 f many c0 c1 c2 c3 c4)) (by first | (simp [hw2, bI_t, bI_f, *]; done) | (simp [hw2, bI_t, bI_f, *]; omega) | (exfalso; omega)) ?_
          refine lv_istore (lv' := [(9, .int (bI (hw2 b n0 f many c0 c1 c2 c3 c4))), (0, .ref (a)), (1, .int (nI (f))), (2, .int (nI (many))), (3, .int (c0)), (4, .int (c1)), (5, .int (c2)), (6, .int (c3)), (7, .int (c4)), (8, .int (c5))]) hx hb dX8_hasWord_96 hl (by decide) rfl (fun ls hl => ?_)
          exact J98 _ (lv_sub hl [1, 2, 3, 4, 5, 6, 7, 8, 9, 0] rfl)
        · refine lv_iconst (v := nI 1) hx hb dX8_hasWord_91 (by decide) ?_
          refine lv_goto (tgt := 96) hx hb dX8_hasWord_92 (by decide) ?_
          refine kx_ci (x := nI (1)) (y := bI (hw2 b n0 f many c0 c1 c2 c3 c4)) (by first | (simp [hw2, bI_t, bI_f, *]; done) | (simp [hw2, bI_t, bI_f, *]; omega) | (exfalso; omega)) ?_
          refine lv_istore (lv' := [(9, .int (bI (hw2 b n0 f many c0 c1 c2 c3 c4))), (0, .ref (a)), (1, .int (nI (f))), (2, .int (nI (many))), (3, .int (c0)), (4, .int (c1)), (5, .int (c2)), (6, .int (c3)), (7, .int (c4)), (8, .int (c5))]) hx hb dX8_hasWord_96 hl (by decide) rfl (fun ls hl => ?_)
          exact J98 _ (lv_sub hl [1, 2, 3, 4, 5, 6, 7, 8, 9, 0] rfl)
  have J40 : ∀ (ls : Array Slot), lv_has ls 10 [(0, .ref (a)), (1, .int (nI (f))), (2, .int (nI (many))), (3, .int (c0)), (4, .int (c1)), (5, .int (c2)), (6, .int (c3)), (7, .int (c4)), (8, .int (c5)), (9, .int (bI (hw0 b n0 f c0 c1 c2)))] → W p l e ({ frames := 1, cells := 0, slots := 0, locals := 21 } : Room) s m args below meth c s.heap [] 0 0 (MQ below (QcP (some (.int (bI (hwB b n0 f e0 many c0 c1 c2 c3 c4 c5))))) args s 0 0 nowhere) (F0 m 40 ls []) := by
    intro ls hl
    refine lv_iload hx hb dX8_hasWord_40 (lv_at hl 9 rfl) ?_
    refine kb_if_eq (tgt := 66) hx hb dX8_hasWord_42 (by decide) (fun c_9 => ?_) (fun c_9 => ?_)
    · refine lv_iconst (v := nI 0) hx hb dX8_hasWord_66 (by decide) ?_
      refine kx_ci (x := nI (0)) (y := bI (hw1 b n0 f many c0 c1 c2 c3)) (by first | (simp [hw1, bI_t, bI_f, *]; done) | (simp [hw1, bI_t, bI_f, *]; omega) | (exfalso; omega)) ?_
      refine lv_istore (lv' := [(9, .int (bI (hw1 b n0 f many c0 c1 c2 c3))), (0, .ref (a)), (1, .int (nI (f))), (2, .int (nI (many))), (3, .int (c0)), (4, .int (c1)), (5, .int (c2)), (6, .int (c3)), (7, .int (c4)), (8, .int (c5))]) hx hb dX8_hasWord_67 hl (by decide) rfl (fun ls hl => ?_)
      exact J69 _ (lv_sub hl [1, 2, 3, 4, 5, 6, 7, 8, 9, 0] rfl)
    · refine lv_iload_n hx hb dX8_hasWord_45 rfl (lv_at hl 2 rfl) ?_
      refine lv_iconst (v := nI 4) hx hb dX8_hasWord_46 (by decide) ?_
      refine kn_icmp_lt (tgt := 62) hx hb dX8_hasWord_47 (by decide) (by omega) (by decide) (fun c_10 => ?_) (fun c_10 => ?_)
      · refine lv_iconst (v := nI 1) hx hb dX8_hasWord_62 (by decide) ?_
        refine lv_goto (tgt := 67) hx hb dX8_hasWord_63 (by decide) ?_
        refine kx_ci (x := nI (1)) (y := bI (hw1 b n0 f many c0 c1 c2 c3)) (by first | (simp [hw1, bI_t, bI_f, *]; done) | (simp [hw1, bI_t, bI_f, *]; omega) | (exfalso; omega)) ?_
        refine lv_istore (lv' := [(9, .int (bI (hw1 b n0 f many c0 c1 c2 c3))), (0, .ref (a)), (1, .int (nI (f))), (2, .int (nI (many))), (3, .int (c0)), (4, .int (c1)), (5, .int (c2)), (6, .int (c3)), (7, .int (c4)), (8, .int (c5))]) hx hb dX8_hasWord_67 hl (by decide) rfl (fun ls hl => ?_)
        exact J69 _ (lv_sub hl [1, 2, 3, 4, 5, 6, 7, 8, 9, 0] rfl)
      · refine lv_aload_n hx hb dX8_hasWord_50 rfl (lv_at hl 0 rfl) ?_
        refine lv_iload_n hx hb dX8_hasWord_51 rfl (lv_at hl 1 rfl) ?_
        refine lv_iconst (v := nI 3) hx hb dX8_hasWord_52 (by decide) ?_
        refine kn_add hx hb dX8_hasWord_53 ?_
        refine kx_retP (va_runV (As := [.int (nI (f + 3))]) (rest := []) ⟨hx, hb, hml, hown, hts⟩ (k_X8_byteAt l D cs a z b n0 (f + 3) hT (by first | assumption | omega)) (cwV 1 hts gX8_hasWord_X8_byteAt rfl rfl rfl (by decide +kernel) ⟨Nat.le_of_ble_eq_true rfl, Nat.le_of_ble_eq_true rfl⟩) (kx_preV hK hN hM.1 rfl hM) rfl rfl hl.1 rfl (lv_room (Nat.le_of_ble_eq_true rfl)) dX8_hasWord_54 ⟨Nat.le_of_ble_eq_true rfl, Nat.le_of_ble_eq_true rfl⟩) ?_
        refine lv_iload hx hb dX8_hasWord_57 (lv_at hl 6 rfl) ?_
        refine lv_icmp_ne (tgt := 66) hx hb dX8_hasWord_59 (by decide) (fun c_11 => ?_) (fun c_11 => ?_)
        · refine lv_iconst (v := nI 0) hx hb dX8_hasWord_66 (by decide) ?_
          refine kx_ci (x := nI (0)) (y := bI (hw1 b n0 f many c0 c1 c2 c3)) (by first | (simp [hw1, bI_t, bI_f, *]; done) | (simp [hw1, bI_t, bI_f, *]; omega) | (exfalso; omega)) ?_
          refine lv_istore (lv' := [(9, .int (bI (hw1 b n0 f many c0 c1 c2 c3))), (0, .ref (a)), (1, .int (nI (f))), (2, .int (nI (many))), (3, .int (c0)), (4, .int (c1)), (5, .int (c2)), (6, .int (c3)), (7, .int (c4)), (8, .int (c5))]) hx hb dX8_hasWord_67 hl (by decide) rfl (fun ls hl => ?_)
          exact J69 _ (lv_sub hl [1, 2, 3, 4, 5, 6, 7, 8, 9, 0] rfl)
        · refine lv_iconst (v := nI 1) hx hb dX8_hasWord_62 (by decide) ?_
          refine lv_goto (tgt := 67) hx hb dX8_hasWord_63 (by decide) ?_
          refine kx_ci (x := nI (1)) (y := bI (hw1 b n0 f many c0 c1 c2 c3)) (by first | (simp [hw1, bI_t, bI_f, *]; done) | (simp [hw1, bI_t, bI_f, *]; omega) | (exfalso; omega)) ?_
          refine lv_istore (lv' := [(9, .int (bI (hw1 b n0 f many c0 c1 c2 c3))), (0, .ref (a)), (1, .int (nI (f))), (2, .int (nI (many))), (3, .int (c0)), (4, .int (c1)), (5, .int (c2)), (6, .int (c3)), (7, .int (c4)), (8, .int (c5))]) hx hb dX8_hasWord_67 hl (by decide) rfl (fun ls hl => ?_)
          exact J69 _ (lv_sub hl [1, 2, 3, 4, 5, 6, 7, 8, 9, 0] rfl)
  refine lv_aload_n hx hb dX8_hasWord_0 rfl (lv_at hl 0 rfl) ?_
  refine lv_iload_n hx hb dX8_hasWord_1 rfl (lv_at hl 1 rfl) ?_
  refine kx_retP (va_runV (As := [.int (nI (f))]) (rest := []) ⟨hx, hb, hml, hown, hts⟩ (k_X8_byteAt l D cs a z b n0 f hT (by first | assumption | omega)) (cwV 1 hts gX8_hasWord_X8_byteAt rfl rfl rfl (by decide +kernel) ⟨Nat.le_of_ble_eq_true rfl, Nat.le_of_ble_eq_true rfl⟩) (kx_preV hK hN hM.1 rfl hM) rfl rfl hl.1 rfl (lv_room (Nat.le_of_ble_eq_true rfl)) dX8_hasWord_2 ⟨Nat.le_of_ble_eq_true rfl, Nat.le_of_ble_eq_true rfl⟩) ?_
  refine lv_iload_n hx hb dX8_hasWord_5 rfl (lv_at hl 3 rfl) ?_
  refine lv_icmp_ne (tgt := 37) hx hb dX8_hasWord_6 (by decide) (fun c_12 => ?_) (fun c_12 => ?_)
  · refine lv_iconst (v := nI 0) hx hb dX8_hasWord_37 (by decide) ?_
    refine kx_ci (x := nI (0)) (y := bI (hw0 b n0 f c0 c1 c2)) (by first | (simp [hw0, bI_t, bI_f, *]; done) | (simp [hw0, bI_t, bI_f, *]; omega) | (exfalso; omega)) ?_
    refine lv_istore (lv' := [(9, .int (bI (hw0 b n0 f c0 c1 c2))), (0, .ref (a)), (1, .int (nI (f))), (2, .int (nI (many))), (3, .int (c0)), (4, .int (c1)), (5, .int (c2)), (6, .int (c3)), (7, .int (c4)), (8, .int (c5))]) hx hb dX8_hasWord_38 hl (by decide) rfl (fun ls hl => ?_)
    exact J40 _ (lv_sub hl [1, 2, 3, 4, 5, 6, 7, 8, 9, 0] rfl)
  · refine lv_aload_n hx hb dX8_hasWord_9 rfl (lv_at hl 0 rfl) ?_
    refine lv_iload_n hx hb dX8_hasWord_10 rfl (lv_at hl 1 rfl) ?_
    refine lv_iconst (v := nI 1) hx hb dX8_hasWord_11 (by decide) ?_
    refine kn_add hx hb dX8_hasWord_12 ?_
    refine kx_retP (va_runV (As := [.int (nI (f + 1))]) (rest := []) ⟨hx, hb, hml, hown, hts⟩ (k_X8_byteAt l D cs a z b n0 (f + 1) hT (by first | assumption | omega)) (cwV 1 hts gX8_hasWord_X8_byteAt rfl rfl rfl (by decide +kernel) ⟨Nat.le_of_ble_eq_true rfl, Nat.le_of_ble_eq_true rfl⟩) (kx_preV hK hN hM.1 rfl hM) rfl rfl hl.1 rfl (lv_room (Nat.le_of_ble_eq_true rfl)) dX8_hasWord_13 ⟨Nat.le_of_ble_eq_true rfl, Nat.le_of_ble_eq_true rfl⟩) ?_
    refine lv_iload hx hb dX8_hasWord_16 (lv_at hl 4 rfl) ?_
    refine lv_icmp_ne (tgt := 37) hx hb dX8_hasWord_18 (by decide) (fun c_13 => ?_) (fun c_13 => ?_)
    · refine lv_iconst (v := nI 0) hx hb dX8_hasWord_37 (by decide) ?_
      refine kx_ci (x := nI (0)) (y := bI (hw0 b n0 f c0 c1 c2)) (by first | (simp [hw0, bI_t, bI_f, *]; done) | (simp [hw0, bI_t, bI_f, *]; omega) | (exfalso; omega)) ?_
      refine lv_istore (lv' := [(9, .int (bI (hw0 b n0 f c0 c1 c2))), (0, .ref (a)), (1, .int (nI (f))), (2, .int (nI (many))), (3, .int (c0)), (4, .int (c1)), (5, .int (c2)), (6, .int (c3)), (7, .int (c4)), (8, .int (c5))]) hx hb dX8_hasWord_38 hl (by decide) rfl (fun ls hl => ?_)
      exact J40 _ (lv_sub hl [1, 2, 3, 4, 5, 6, 7, 8, 9, 0] rfl)
    · refine lv_aload_n hx hb dX8_hasWord_21 rfl (lv_at hl 0 rfl) ?_
      refine lv_iload_n hx hb dX8_hasWord_22 rfl (lv_at hl 1 rfl) ?_
      refine lv_iconst (v := nI 2) hx hb dX8_hasWord_23 (by decide) ?_
      refine kn_add hx hb dX8_hasWord_24 ?_
      refine kx_retP (va_runV (As := [.int (nI (f + 2))]) (rest := []) ⟨hx, hb, hml, hown, hts⟩ (k_X8_byteAt l D cs a z b n0 (f + 2) hT (by first | assumption | omega)) (cwV 1 hts gX8_hasWord_X8_byteAt rfl rfl rfl (by decide +kernel) ⟨Nat.le_of_ble_eq_true rfl, Nat.le_of_ble_eq_true rfl⟩) (kx_preV hK hN hM.1 rfl hM) rfl rfl hl.1 rfl (lv_room (Nat.le_of_ble_eq_true rfl)) dX8_hasWord_25 ⟨Nat.le_of_ble_eq_true rfl, Nat.le_of_ble_eq_true rfl⟩) ?_
      refine lv_iload hx hb dX8_hasWord_28 (lv_at hl 5 rfl) ?_
      refine lv_icmp_ne (tgt := 37) hx hb dX8_hasWord_30 (by decide) (fun c_14 => ?_) (fun c_14 => ?_)
      · refine lv_iconst (v := nI 0) hx hb dX8_hasWord_37 (by decide) ?_
        refine kx_ci (x := nI (0)) (y := bI (hw0 b n0 f c0 c1 c2)) (by first | (simp [hw0, bI_t, bI_f, *]; done) | (simp [hw0, bI_t, bI_f, *]; omega) | (exfalso; omega)) ?_
        refine lv_istore (lv' := [(9, .int (bI (hw0 b n0 f c0 c1 c2))), (0, .ref (a)), (1, .int (nI (f))), (2, .int (nI (many))), (3, .int (c0)), (4, .int (c1)), (5, .int (c2)), (6, .int (c3)), (7, .int (c4)), (8, .int (c5))]) hx hb dX8_hasWord_38 hl (by decide) rfl (fun ls hl => ?_)
        exact J40 _ (lv_sub hl [1, 2, 3, 4, 5, 6, 7, 8, 9, 0] rfl)
      · refine lv_iconst (v := nI 1) hx hb dX8_hasWord_33 (by decide) ?_
        refine lv_goto (tgt := 38) hx hb dX8_hasWord_34 (by decide) ?_
        refine kx_ci (x := nI (1)) (y := bI (hw0 b n0 f c0 c1 c2)) (by first | (simp [hw0, bI_t, bI_f, *]; done) | (simp [hw0, bI_t, bI_f, *]; omega) | (exfalso; omega)) ?_
        refine lv_istore (lv' := [(9, .int (bI (hw0 b n0 f c0 c1 c2))), (0, .ref (a)), (1, .int (nI (f))), (2, .int (nI (many))), (3, .int (c0)), (4, .int (c1)), (5, .int (c2)), (6, .int (c3)), (7, .int (c4)), (8, .int (c5))]) hx hb dX8_hasWord_38 hl (by decide) rfl (fun ls hl => ?_)
        exact J40 _ (lv_sub hl [1, 2, 3, 4, 5, 6, 7, 8, 9, 0] rfl)
