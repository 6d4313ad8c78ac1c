set_option maxHeartbeats 2500000 in
set_option maxRecDepth 100000 in
theorem k_J0_coder_7d493 (l : Launch) (D : va_G) (cs : Nat → ClassId) (L : Nat) (aW aS aV : Nat → Nat) (tW tM : Nat) (k0 : Nat) (hk8 : k0 < 8) : Met l yJ0_coder_7d493 wsJ0_coder_7d493 ({ frames := 0, cells := 0, slots := 0, locals := 0 } : Room) (PcW D cs L aW aS aV tW tM [.ref (aS k0)] (fun H => True)) (QcP (some (.int (nI (0))))) 0 0 nowhere := by
  refine kx_metW (cc := cJ0_coder_7d493) (maxL := 1) (ret := (some .byte)) (by decide) rfl (Nat.le_of_ble_eq_true rfl) ?_
  intro p en s m args below meth c hx hb hml hrt hts hown hlk hK hN hW hP ls hl
  have hl : lv_has ls 1 [(0, .ref (aS k0))] := hl
  have hS : va_S (fun x : Nat => L ≤ x) s.heap s.heap [] := va_S.rf
  have hWn := hW
  refine va_gets (v := .int 1) hx hb hWn.cz hS hown (hts (.fieldLink RJ0 38 "java/lang/String" "COMPACT_STRINGS" "Z") (by decide +kernel)) (fun x h => h) dJ0_coder_7d493_0 ?_
  refine lv_if_eq (tgt := 13) hx hb dJ0_coder_7d493_3 (by decide) (fun c9 => ?_) (fun c9 => ?_)
  · exact absurd c9 (by decide)
  · refine lv_aload_n hx hb dJ0_coder_7d493_6 rfl (lv_at hl 0 rfl) ?_
    refine vk_getf (v := .int (nI 0)) hx hb (hWn.sr.1 k0 (by omega)).2.1 hS hown (hts (.fieldLink RJ0 15 "java/lang/String" "coder" "B") (by decide +kernel)) (fun x h => h) dJ0_coder_7d493_7 ?_
    refine lv_goto (tgt := 14) hx hb dJ0_coder_7d493_10 (by decide) ?_
    exact kx_wretP hx hb hrt hlk rfl rfl dJ0_coder_7d493_14
set_option maxHeartbeats 2500000 in
set_option maxRecDepth 100000 in
theorem k_J0_length_8abf5 (l : Launch) (D : va_G) (cs : Nat → ClassId) (L : Nat) (aW aS aV : Nat → Nat) (tW tM : Nat) (k0 : Nat) (hk8 : k0 < 8) : Met l yJ0_length_8abf5 wsJ0_length_8abf5 ({ frames := 1, cells := 0, slots := 0, locals := 20 } : Room) (PcW D cs L aW aS aV tW tM [.ref (aS k0)] (fun H => True)) (QcP (some (.int (nI (wln k0))))) 0 0 nowhere := by
  refine kx_metW (cc := cJ0_length_8abf5) (maxL := 1) (ret := (some .int)) (by decide) rfl (Nat.le_of_ble_eq_true rfl) ?_
  intro p en s m args below meth c hx hb hml hrt hts hown hlk hK hN hW hP ls hl
  have hl : lv_has ls 1 [(0, .ref (aS k0))] := hl
  have hS : va_S (fun x : Nat => L ≤ x) s.heap s.heap [] := va_S.rf
  have hWn := hW
  have hwl := wln_le k0 hk8
  refine lv_aload_n hx hb dJ0_length_8abf5_0 rfl (lv_at hl 0 rfl) ?_
  refine vk_getf hx hb (hWn.sr.1 k0 (by omega)).2.2.1 hS hown (hts (.fieldLink RJ0 9 "java/lang/String" "value" "[B") (by decide +kernel)) (fun x h => h) dJ0_length_8abf5_1 ?_
  refine va_tlen (v := nI (wln k0)) hx hb (hWn.sr.1 k0 (by omega)).2.2.2 hS rfl dJ0_length_8abf5_4 ?_
  refine lv_aload_n hx hb dJ0_length_8abf5_5 rfl (lv_at hl 0 rfl) ?_
  refine kx_retP (va_runV (As := []) (rest := [.int (nI (wln k0))]) ⟨hx, hb, hml, hown, hts⟩ (k_J0_coder_7d493 l D cs L aW aS aV tW tM k0 (by first | assumption | omega)) (cwV 0 hts gJ0_length_8abf5_J0_coder_7d493 rfl rfl rfl (by decide +kernel) ⟨Nat.le_of_ble_eq_true rfl, Nat.le_of_ble_eq_true rfl⟩) (kx_preWR hK hN hW (vk_recv hWn.sr (by omega) hS) trivial) rfl rfl hl.1 rfl (lv_room (Nat.le_of_ble_eq_true rfl)) dJ0_length_8abf5_6 ⟨Nat.le_of_ble_eq_true rfl, Nat.le_of_ble_eq_true rfl⟩) ?_
  refine kn_shr hx hb (by omega) (by omega) dJ0_length_8abf5_9 ?_
  exact kx_iretP hx hb hrt hlk (by rw [Nat.pow_zero, Nat.div_one]) dJ0_length_8abf5_10
set_option maxHeartbeats 2500000 in
set_option maxRecDepth 100000 in
theorem k_J0_isLatin1_aae02 (l : Launch) (D : va_G) (cs : Nat → ClassId) (L : Nat) (aW aS aV : Nat → Nat) (tW tM : Nat) (k0 : Nat) (hk8 : k0 < 8) : Met l yJ0_isLatin1_aae02 wsJ0_isLatin1_aae02 ({ frames := 0, cells := 0, slots := 0, locals := 0 } : Room) (PcW D cs L aW aS aV tW tM [.ref (aS k0)] (fun H => True)) (QcP (some (.int (bI (true))))) 0 0 nowhere := by
  refine kx_metW (cc := cJ0_isLatin1_aae02) (maxL := 1) (ret := (some .boolean)) (by decide) rfl (Nat.le_of_ble_eq_true rfl) ?_
  intro p en s m args below meth c hx hb hml hrt hts hown hlk hK hN hW hP ls hl
  have hl : lv_has ls 1 [(0, .ref (aS k0))] := hl
  have hS : va_S (fun x : Nat => L ≤ x) s.heap s.heap [] := va_S.rf
  have hWn := hW
  refine va_gets (v := .int 1) hx hb hWn.cz hS hown (hts (.fieldLink RJ0 38 "java/lang/String" "COMPACT_STRINGS" "Z") (by decide +kernel)) (fun x h => h) dJ0_isLatin1_aae02_0 ?_
  refine lv_if_eq (tgt := 17) hx hb dJ0_isLatin1_aae02_3 (by decide) (fun c9 => ?_) (fun c9 => ?_)
  · exact absurd c9 (by decide)
  · refine lv_aload_n hx hb dJ0_isLatin1_aae02_6 rfl (lv_at hl 0 rfl) ?_
    refine vk_getf (v := .int (nI 0)) hx hb (hWn.sr.1 k0 (by omega)).2.1 hS hown (hts (.fieldLink RJ0 15 "java/lang/String" "coder" "B") (by decide +kernel)) (fun x h => h) dJ0_isLatin1_aae02_7 ?_
    refine kn_if_ne (tgt := 17) hx hb dJ0_isLatin1_aae02_10 (by decide) (by omega) (fun c10 => ?_) (fun c10 => ?_)
    · exact absurd rfl c10
    · refine lv_iconst (v := nI 1) hx hb dJ0_isLatin1_aae02_13 (by decide) ?_
      refine lv_goto (tgt := 18) hx hb dJ0_isLatin1_aae02_14 (by decide) ?_
      exact kx_zretP hx hb hrt hlk rfl dJ0_isLatin1_aae02_18
set_option maxHeartbeats 2500000 in
set_option maxRecDepth 100000 in
theorem k_J3_checkIndexN (l : Launch) (D : va_G) (cs : Nat → ClassId) (L : Nat) (aW aS aV : Nat → Nat) (tW tM : Nat) (i n0 : Nat) (hi : i < n0) (hn : n0 < 1000) : Met l yJ3_checkIndex_8e157 wsJ3_checkIndex_8e157 ({ frames := 0, cells := 0, slots := 0, locals := 0 } : Room) (PcW D cs L aW aS aV tW tM [.int (nI (i)), .int (nI (n0)), .null] (fun H => True)) (QcP (some (.int (nI (i))))) 0 0 nowhere := by
  refine kx_metW (cc := cJ3_checkIndex_8e157) (maxL := 3) (ret := (some .int)) (by decide) rfl (Nat.le_of_ble_eq_true rfl) ?_
  intro p en s m args below meth c hx hb hml hrt hts hown hlk hK hN hW hP ls hl
  have hl : lv_has ls 3 [(0, .int (nI (i))), (1, .int (nI (n0))), (2, .null)] := hl
  have hS : va_S (fun x : Nat => L ≤ x) s.heap s.heap [] := va_S.rf
  have hWn := hW
  refine lv_iload_n hx hb dJ3_checkIndex_8e157_0 rfl (lv_at hl 0 rfl) ?_
  refine lv_if_lt (tgt := 9) hx hb dJ3_checkIndex_8e157_1 (by decide) (fun h => absurd h (kn_neg (by omega))) (fun _ => ?_)
  refine lv_iload_n hx hb dJ3_checkIndex_8e157_4 rfl (lv_at hl 0 rfl) ?_
  refine lv_iload_n hx hb dJ3_checkIndex_8e157_5 rfl (lv_at hl 1 rfl) ?_
  refine kn_icmp_lt (tgt := 16) hx hb dJ3_checkIndex_8e157_6 (by decide) (by omega) (by omega) (fun c_1 => ?_) (fun c_1 => ?_)
  · refine lv_iload_n hx hb dJ3_checkIndex_8e157_16 rfl (lv_at hl 0 rfl) ?_
    exact kx_iretP hx hb hrt hlk rfl dJ3_checkIndex_8e157_17
  · omega
set_option maxHeartbeats 2500000 in
set_option maxRecDepth 100000 in
theorem k_J3_checkIndexR (l : Launch) (D : va_G) (cs : Nat → ClassId) (L : Nat) (aW aS aV : Nat → Nat) (tW tM : Nat) (i n0 : Nat) (t9 : Nat) (hi : i < n0) (hn : n0 < 1000) : Met l yJ3_checkIndex_8e157 wsJ3_checkIndex_8e157 ({ frames := 0, cells := 0, slots := 0, locals := 0 } : Room) (PcW D cs L aW aS aV tW tM [.int (nI (i)), .int (nI (n0)), .ref (t9)] (fun H => True)) (QcP (some (.int (nI (i))))) 0 0 nowhere := by
  refine kx_metW (cc := cJ3_checkIndex_8e157) (maxL := 3) (ret := (some .int)) (by decide) rfl (Nat.le_of_ble_eq_true rfl) ?_
  intro p en s m args below meth c hx hb hml hrt hts hown hlk hK hN hW hP ls hl
  have hl : lv_has ls 3 [(0, .int (nI (i))), (1, .int (nI (n0))), (2, .ref (t9))] := hl
  have hS : va_S (fun x : Nat => L ≤ x) s.heap s.heap [] := va_S.rf
  have hWn := hW
  refine lv_iload_n hx hb dJ3_checkIndex_8e157_0 rfl (lv_at hl 0 rfl) ?_
  refine lv_if_lt (tgt := 9) hx hb dJ3_checkIndex_8e157_1 (by decide) (fun h => absurd h (kn_neg (by omega))) (fun _ => ?_)
  refine lv_iload_n hx hb dJ3_checkIndex_8e157_4 rfl (lv_at hl 0 rfl) ?_
  refine lv_iload_n hx hb dJ3_checkIndex_8e157_5 rfl (lv_at hl 1 rfl) ?_
  refine kn_icmp_lt (tgt := 16) hx hb dJ3_checkIndex_8e157_6 (by decide) (by omega) (by omega) (fun c_1 => ?_) (fun c_1 => ?_)
  · refine lv_iload_n hx hb dJ3_checkIndex_8e157_16 rfl (lv_at hl 0 rfl) ?_
    exact kx_iretP hx hb hrt hlk rfl dJ3_checkIndex_8e157_17
  · omega
set_option maxHeartbeats 2500000 in
set_option maxRecDepth 100000 in
theorem k_J0_checkIndex_df160 (l : Launch) (D : va_G) (cs : Nat → ClassId) (L : Nat) (aW aS aV : Nat → Nat) (tW tM : Nat) (i n0 : Nat) (hi : i < n0) (hn : n0 < 1000) : Met l yJ0_checkIndex_df160 wsJ0_checkIndex_df160 ({ frames := 1, cells := 0, slots := 0, locals := 22 } : Room) (PcW D cs L aW aS aV tW tM [.int (nI (i)), .int (nI (n0))] (fun H => True)) (QcP none) 0 0 nowhere := by
  refine kx_metW (cc := cJ0_checkIndex_df160) (maxL := 2) (ret := none) (by decide) rfl (Nat.le_of_ble_eq_true rfl) ?_
  intro p en s m args below meth c hx hb hml hrt hts hown hlk hK hN hW hP ls hl
  have hl : lv_has ls 2 [(0, .int (nI (i))), (1, .int (nI (n0)))] := hl
  have hS : va_S (fun x : Nat => L ≤ x) s.heap s.heap [] := va_S.rf
  have hWn := hW
  refine lv_iload_n hx hb dJ0_checkIndex_df160_0 rfl (lv_at hl 0 rfl) ?_
  refine lv_iload_n hx hb dJ0_checkIndex_df160_1 rfl (lv_at hl 1 rfl) ?_
  rcases hWn.fz with hz | ⟨t, hz⟩
  · refine va_gets (v := .null) hx hb hz hS hown (hts (.fieldLink RJ0 1053 "jdk/internal/util/Preconditions" "SIOOBE_FORMATTER" "Ljava/util/function/BiFunction;") (by decide +kernel)) (fun x h => h) dJ0_checkIndex_df160_2 ?_
    refine kx_retP (va_runS (As := [.int (nI (i)), .int (nI (n0)), .null]) (rest := []) ⟨hx, hb, hml, hown, hts⟩ (k_J3_checkIndexN l D cs L aW aS aV tW tM i n0 (by first | assumption | omega) (by first | assumption | omega)) (va_cwS 3 hts gJ0_checkIndex_df160_J3_checkIndex_8e157 rfl rfl rfl (by decide +kernel) ⟨Nat.le_of_ble_eq_true rfl, Nat.le_of_ble_eq_true rfl⟩) (kx_preWS hK hN hW trivial) rfl rfl hl.1 rfl (lv_room (Nat.le_of_ble_eq_true rfl)) dJ0_checkIndex_df160_5 ⟨Nat.le_of_ble_eq_true rfl, Nat.le_of_ble_eq_true rfl⟩) ?_
    refine lv_pop hx hb dJ0_checkIndex_df160_8 rfl ?_
    exact kx_vretP hx hb hrt hlk dJ0_checkIndex_df160_9
  · refine va_gets (v := .ref t) hx hb hz hS hown (hts (.fieldLink RJ0 1053 "jdk/internal/util/Preconditions" "SIOOBE_FORMATTER" "Ljava/util/function/BiFunction;") (by decide +kernel)) (fun x h => h) dJ0_checkIndex_df160_2 ?_
    refine kx_retP (va_runS (As := [.int (nI (i)), .int (nI (n0)), .ref (t)]) (rest := []) ⟨hx, hb, hml, hown, hts⟩ (k_J3_checkIndexR l D cs L aW aS aV tW tM i n0 t (by first | assumption | omega) (by first | assumption | omega)) (va_cwS 3 hts gJ0_checkIndex_df160_J3_checkIndex_8e157 rfl rfl rfl (by decide +kernel) ⟨Nat.le_of_ble_eq_true rfl, Nat.le_of_ble_eq_true rfl⟩) (kx_preWS hK hN hW trivial) rfl rfl hl.1 rfl (lv_room (Nat.le_of_ble_eq_true rfl)) dJ0_checkIndex_df160_5 ⟨Nat.le_of_ble_eq_true rfl, Nat.le_of_ble_eq_true rfl⟩) ?_
    refine lv_pop hx hb dJ0_checkIndex_df160_8 rfl ?_
    exact kx_vretP hx hb hrt hlk dJ0_checkIndex_df160_9
set_option maxHeartbeats 2500000 in
set_option maxRecDepth 100000 in
theorem k_J1_charAt_3b067 (l : Launch) (D : va_G) (cs : Nat → ClassId) (L : Nat) (aW aS aV : Nat → Nat) (tW tM : Nat) (k0 j : Nat) (hk8 : k0 < 8) (hj : j < wln k0) : Met l yJ1_charAt_3b067 wsJ1_charAt_3b067 ({ frames := 2, cells := 0, slots := 0, locals := 43 } : Room) (PcW D cs L aW aS aV tW tM [.ref (aV k0), .int (nI (j))] (fun H => True)) (QcP (some (.int (wch k0 j)))) 0 0 nowhere := by
  refine kx_metW (cc := cJ1_charAt_3b067) (maxL := 2) (ret := (some .char)) (by decide) rfl (Nat.le_of_ble_eq_true rfl) ?_
  intro p en s m args below meth c hx hb hml hrt hts hown hlk hK hN hW hP ls hl
  have hl : lv_has ls 2 [(0, .ref (aV k0)), (1, .int (nI (j)))] := hl
  have hS : va_S (fun x : Nat => L ≤ x) s.heap s.heap [] := va_S.rf
  have hWn := hW
  have hwl := wln_le k0 hk8
  refine lv_iload_n hx hb dJ1_charAt_3b067_0 rfl (lv_at hl 1 rfl) ?_
  refine lv_aload_n hx hb dJ1_charAt_3b067_1 rfl (lv_at hl 0 rfl) ?_
  refine va_tlen (v := nI (wln k0)) hx hb (hWn.sr.1 k0 (by omega)).2.2.2 hS rfl dJ1_charAt_3b067_2 ?_
  refine kx_retP (va_runS (As := [.int (nI (j)), .int (nI (wln k0))]) (rest := []) ⟨hx, hb, hml, hown, hts⟩ (k_J0_checkIndex_df160 l D cs L aW aS aV tW tM j (wln k0) (by first | assumption | omega) (by omega)) (va_cwS 2 hts gJ1_charAt_3b067_J0_checkIndex_df160 rfl rfl rfl (by decide +kernel) ⟨Nat.le_of_ble_eq_true rfl, Nat.le_of_ble_eq_true rfl⟩) (kx_preWS hK hN hW trivial) rfl rfl hl.1 rfl (lv_room (Nat.le_of_ble_eq_true rfl)) dJ1_charAt_3b067_3 ⟨Nat.le_of_ble_eq_true rfl, Nat.le_of_ble_eq_true rfl⟩) ?_
  refine lv_aload_n hx hb dJ1_charAt_3b067_6 rfl (lv_at hl 0 rfl) ?_
  refine lv_iload_n hx hb dJ1_charAt_3b067_7 rfl (lv_at hl 1 rfl) ?_
  refine va_tb (v := .int (wch k0 j)) hx hb (hWn.sr.1 k0 (by omega)).2.2.2 hS (vp_in_nI hj (by have := wln_le k0 (by omega); have h9 : wLN.getD k0 0 = wln k0 := rfl; omega)) (by rw [nI_clamp (by omega)]; rfl) dJ1_charAt_3b067_8 ?_
  refine lv_sipush (v := nI 255) hx hb dJ1_charAt_3b067_9 (by decide) ?_
  refine lv_iand hx hb dJ1_charAt_3b067_12 ?_
  refine lv_i2c (v := wch k0 j) hx hb dJ1_charAt_3b067_13 (wch_ok k0 hk8 j (by omega)).2 ?_
  exact kx_wretP hx hb hrt hlk (by have h9 := (wch_ok k0 hk8 j (by omega)); rw [h9.2] at h9; exact h9.1) rfl dJ1_charAt_3b067_14
set_option maxHeartbeats 2500000 in
set_option maxRecDepth 100000 in
theorem k_J0_charAt_5068e (l : Launch) (D : va_G) (cs : Nat → ClassId) (L : Nat) (aW aS aV : Nat → Nat) (tW tM : Nat) (k0 j : Nat) (hk8 : k0 < 8) (hj : j < wln k0) : Met l yJ0_charAt_5068e wsJ0_charAt_5068e ({ frames := 3, cells := 0, slots := 0, locals := 64 } : Room) (PcW D cs L aW aS aV tW tM [.ref (aS k0), .int (nI (j))] (fun H => True)) (QcP (some (.int (wch k0 j)))) 0 0 nowhere := by
  refine kx_metW (cc := cJ0_charAt_5068e) (maxL := 2) (ret := (some .char)) (by decide) rfl (Nat.le_of_ble_eq_true rfl) ?_
  intro p en s m args below meth c hx hb hml hrt hts hown hlk hK hN hW hP ls hl
  have hl : lv_has ls 2 [(0, .ref (aS k0)), (1, .int (nI (j)))] := hl
  have hS : va_S (fun x : Nat => L ≤ x) s.heap s.heap [] := va_S.rf
  have hWn := hW
  have hwl := wln_le k0 hk8
  refine lv_aload_n hx hb dJ0_charAt_5068e_0 rfl (lv_at hl 0 rfl) ?_
  refine kx_retP (va_runV (As := []) (rest := []) ⟨hx, hb, hml, hown, hts⟩ (k_J0_isLatin1_aae02 l D cs L aW aS aV tW tM k0 (by first | assumption | omega)) (cwV 0 hts gJ0_charAt_5068e_J0_isLatin1_aae02 rfl rfl rfl (by decide +kernel) ⟨Nat.le_of_ble_eq_true rfl, Nat.le_of_ble_eq_true rfl⟩) (kx_preWR hK hN hW (vk_recv hWn.sr (by omega) hS) trivial) rfl rfl hl.1 rfl (lv_room (Nat.le_of_ble_eq_true rfl)) dJ0_charAt_5068e_1 ⟨Nat.le_of_ble_eq_true rfl, Nat.le_of_ble_eq_true rfl⟩) ?_
  refine kb_if_eq (tgt := 16) hx hb dJ0_charAt_5068e_4 (by decide) (fun c9 => ?_) (fun c9 => ?_)
  · exact absurd c9 (by decide)
  · refine lv_aload_n hx hb dJ0_charAt_5068e_7 rfl (lv_at hl 0 rfl) ?_
    refine vk_getf hx hb (hWn.sr.1 k0 (by omega)).2.2.1 hS hown (hts (.fieldLink RJ0 9 "java/lang/String" "value" "[B") (by decide +kernel)) (fun x h => h) dJ0_charAt_5068e_8 ?_
    refine lv_iload_n hx hb dJ0_charAt_5068e_11 rfl (lv_at hl 1 rfl) ?_
    refine kx_retP (va_runS (As := [.ref (aV k0), .int (nI (j))]) (rest := []) ⟨hx, hb, hml, hown, hts⟩ (k_J1_charAt_3b067 l D cs L aW aS aV tW tM k0 j (by first | assumption | omega) (by first | assumption | omega)) (va_cwS 2 hts gJ0_charAt_5068e_J1_charAt_3b067 rfl rfl rfl (by decide +kernel) ⟨Nat.le_of_ble_eq_true rfl, Nat.le_of_ble_eq_true rfl⟩) (kx_preWS hK hN hW trivial) rfl rfl hl.1 rfl (lv_room (Nat.le_of_ble_eq_true rfl)) dJ0_charAt_5068e_12 ⟨Nat.le_of_ble_eq_true rfl, Nat.le_of_ble_eq_true rfl⟩) ?_
    exact kx_wretP hx hb hrt hlk (by have h9 := (wch_ok k0 hk8 j (by omega)); rw [h9.2] at h9; exact h9.1) rfl dJ0_charAt_5068e_15
set_option maxHeartbeats 2500000 in
set_option maxRecDepth 100000 in
theorem k_X1_standsBetween (l : Launch) (D : va_G) (cs : Nat → ClassId) (tq : Nat) (b nn : Nat → Int32) (wd ln pa : Nat) (ft : Int32) (L : Nat) (aW aS aV : Nat → Nat) (tW tM : Nat) (k0 st en0 : Nat) (hk8 : k0 < 8) (hse : st ≤ en0) (hen : en0 ≤ ln) (hL : L ≤ tq) (hl150 : ln ≤ 150) (hpa : pa ≤ ln) : Met l yX1_standsBetween wsX1_standsBetween ({ frames := 4, cells := 0, slots := 0, locals := 85 } : Room) (PcW D cs L aW aS aV tW tM [.ref (tq), .ref (aS k0), .int (nI (st)), .int (nI (en0))] (fun H => TxC D cs tq b nn wd ln pa ft H)) (QcP (some (.int (bI (sbB b k0 st en0))))) 0 0 nowhere := by
  refine kx_metW (cc := cX1_standsBetween) (maxL := 5) (ret := (some .boolean)) (by decide) rfl (Nat.le_of_ble_eq_true rfl) ?_
  intro p en s m args below meth c hx hb hml hrt hts hown hlk hK hN hW hP ls hl
  have hl : lv_has ls 5 [(0, .ref (tq)), (1, .ref (aS k0)), (2, .int (nI (st))), (3, .int (nI (en0)))] := hl
  have hinX1 : ∀ w ∈ wsX10, w ∈ wsX1_standsBetween := by decide +kernel
  have hS : va_S (fun x : Nat => L ≤ x) s.heap s.heap [] := va_S.rf
  have hWn := hW
  have hWto := hP.1
  have hWtb := hP.2.1
  have hWtn := hP.2.2
  have hwl := wln_le k0 hk8
  refine lv_aload_n hx hb dX1_standsBetween_0 rfl (lv_at hl 1 rfl) ?_
  refine kx_retP (va_runV (As := []) (rest := []) ⟨hx, hb, hml, hown, hts⟩ (k_J0_length_8abf5 l D cs L aW aS aV tW tM k0 (by first | assumption | omega)) (cwV 0 hts gX1_standsBetween_J0_length_8abf5 rfl rfl rfl (by decide +kernel) ⟨Nat.le_of_ble_eq_true rfl, Nat.le_of_ble_eq_true rfl⟩) (kx_preWR hK hN hW (vk_recv hWn.sr (by omega) hS) trivial) rfl rfl hl.1 rfl (lv_room (Nat.le_of_ble_eq_true rfl)) dX1_standsBetween_1 ⟨Nat.le_of_ble_eq_true rfl, Nat.le_of_ble_eq_true rfl⟩) ?_
  refine lv_iload_n hx hb dX1_standsBetween_4 rfl (lv_at hl 3 rfl) ?_
  refine lv_iload_n hx hb dX1_standsBetween_5 rfl (lv_at hl 2 rfl) ?_
  refine kn_sub hx hb hse dX1_standsBetween_6 ?_
  refine kn_icmp_eq (tgt := 12) hx hb dX1_standsBetween_7 (by decide) (by omega) (by omega) (fun hne => ?_) (fun hne => ?_)
  · refine lv_iconst (v := nI 0) hx hb dX1_standsBetween_12 (by decide) ?_
    refine lv_istore (lv' := [(4, .int (nI (0))), (0, .ref (tq)), (1, .ref (aS k0)), (2, .int (nI (st))), (3, .int (nI (en0)))]) hx hb dX1_standsBetween_13 hl (by decide) rfl (fun ls hl => ?_)
    have J15 : ∀ (fu15 : Nat) (j : Nat) (ls : Array Slot), (wln k0 - j) < fu15 → (j ≤ wln k0) → (∀ i, i < j → wch k0 i = b (st + i)) → lv_has ls 5 [(0, .ref (tq)), (1, .ref (aS k0)), (2, .int (nI (st))), (3, .int (nI (en0))), (4, .int (nI (j)))] → W p l en ({ frames := 4, cells := 0, slots := 0, locals := 85 } : Room) s m args below meth c s.heap [] 0 0 (MQ below (QcP (some (.int (bI (sbB b k0 st en0))))) args s 0 0 nowhere) (F0 m 15 ls []) := by
      intro fu15; induction fu15 with
      | zero => intro j ls hmu15 hj hsm hl; exact absurd hmu15 (Nat.not_lt_zero _)
      | succ fu15 ih15 =>
        intro j ls hmu15 hj hsm hl
        refine lv_iload hx hb dX1_standsBetween_15 (lv_at hl 4 rfl) ?_
        refine lv_aload_n hx hb dX1_standsBetween_17 rfl (lv_at hl 1 rfl) ?_
        refine kx_retP (va_runV (As := []) (rest := [.int (nI (j))]) ⟨hx, hb, hml, hown, hts⟩ (k_J0_length_8abf5 l D cs L aW aS aV tW tM k0 (by first | assumption | omega)) (cwV 0 hts gX1_standsBetween_J0_length_8abf5 rfl rfl rfl (by decide +kernel) ⟨Nat.le_of_ble_eq_true rfl, Nat.le_of_ble_eq_true rfl⟩) (kx_preWR hK hN hW (vk_recv hWn.sr (by omega) hS) trivial) rfl rfl hl.1 rfl (lv_room (Nat.le_of_ble_eq_true rfl)) dX1_standsBetween_18 ⟨Nat.le_of_ble_eq_true rfl, Nat.le_of_ble_eq_true rfl⟩) ?_
        refine kn_icmp_ge (tgt := 50) hx hb dX1_standsBetween_21 (by decide) (by omega) (by omega) (fun hge => ?_) (fun hge => ?_)
        · refine lv_iconst (v := nI 1) hx hb dX1_standsBetween_50 (by decide) ?_
          exact kx_zretP hx hb hrt hlk (congrArg bI (sb_yes hne (fun j hj => hsm j (by omega))).symm) dX1_standsBetween_51
        · refine lv_aload_n hx hb dX1_standsBetween_24 rfl (lv_at hl 1 rfl) ?_
          refine lv_iload hx hb dX1_standsBetween_25 (lv_at hl 4 rfl) ?_
          refine kx_retP (va_runV (As := [.int (nI (j))]) (rest := []) ⟨hx, hb, hml, hown, hts⟩ (k_J0_charAt_5068e l D cs L aW aS aV tW tM k0 j (by first | assumption | omega) (by first | assumption | omega)) (cwV 1 hts gX1_standsBetween_J0_charAt_5068e rfl rfl rfl (by decide +kernel) ⟨Nat.le_of_ble_eq_true rfl, Nat.le_of_ble_eq_true rfl⟩) (kx_preWR hK hN hW (vk_recv hWn.sr (by omega) hS) trivial) rfl rfl hl.1 rfl (lv_room (Nat.le_of_ble_eq_true rfl)) dX1_standsBetween_27 ⟨Nat.le_of_ble_eq_true rfl, Nat.le_of_ble_eq_true rfl⟩) ?_
          refine lv_aload_n hx hb dX1_standsBetween_30 rfl (lv_at hl 0 rfl) ?_
          refine kx_get (v := .ref (tq + 1)) hx hb hts hinX1 hown hK hWto rfl 0 (by decide) (by decide +kernel) rfl dX1_standsBetween_31 ?_
          refine lv_iload_n hx hb dX1_standsBetween_34 rfl (lv_at hl 2 rfl) ?_
          refine lv_iload hx hb dX1_standsBetween_35 (lv_at hl 4 rfl) ?_
          refine kn_add hx hb dX1_standsBetween_37 ?_
          refine kx_cald (i := st + j) hx hb hK hWtb 1 rfl (by omega) (by omega) dX1_standsBetween_38 ?_
          refine lv_icmp_eq (tgt := 44) hx hb dX1_standsBetween_39 (by decide) (fun hch => ?_) (fun hch => ?_)
          · refine lv_iinc (v := nI (j + 1)) (lv' := [(4, .int (nI (j + 1))), (0, .ref (tq)), (1, .ref (aS k0)), (2, .int (nI (st))), (3, .int (nI (en0)))]) (k := 4) hx hb dX1_standsBetween_44 hl rfl (nI_add _ _) (by decide) rfl (fun ls hl => ?_)
            refine lv_goto (tgt := 15) hx hb dX1_standsBetween_47 (by decide) ?_
            exact ih15 (j + 1) _ (by omega) (by omega) (fun i hi => by rcases Nat.lt_succ_iff_lt_or_eq.mp hi with q | q; exact hsm i q; subst q; exact hch) (lv_sub hl [1, 2, 3, 4, 0] rfl)
          · refine lv_iconst (v := nI 0) hx hb dX1_standsBetween_42 (by decide) ?_
            exact kx_zretP hx hb hrt hlk (congrArg bI (sb_no hne (by omega) hch).symm) dX1_standsBetween_43
    exact J15 _ 0 _ (Nat.lt_succ_self _) (by omega) (fun i hi => absurd hi (Nat.not_lt_zero i)) (lv_sub hl [1, 2, 3, 4, 0] rfl)
  · refine lv_iconst (v := nI 0) hx hb dX1_standsBetween_10 (by decide) ?_
    exact kx_zretP hx hb hrt hlk (by unfold sbB; rw [decide_eq_false hne]; rfl) dX1_standsBetween_11
set_option maxHeartbeats 2500000 in
set_option maxRecDepth 100000 in
theorem k_X1_wordBetween (l : Launch) (D : va_G) (cs : Nat → ClassId) (tq : Nat) (b nn : Nat → Int32) (wd ln pa : Nat) (ft : Int32) (L : Nat) (aW aS aV : Nat → Nat) (tW tM : Nat) (st en0 : Nat) (hse : st ≤ en0) (hen : en0 ≤ ln) (hL : L ≤ tq) (hl150 : ln ≤ 150) (hpa : pa ≤ ln) : Met l yX1_wordBetween wsX1_wordBetween ({ frames := 5, cells := 0, slots := 0, locals := 109 } : Room) (PcW D cs L aW aS aV tW tM [.ref (tq), .int (nI (st)), .int (nI (en0))] (fun H => TxC D cs tq b nn wd ln pa ft H)) (QcP (some (wbV aW (wbN b st en0)))) 0 0 nowhere := by
  refine kx_metW (cc := cX1_wordBetween) (maxL := 7) (ret := (some (.object "HostageRings$Word"))) (by decide) rfl (Nat.le_of_ble_eq_true rfl) ?_
  intro p en s m args below meth c hx hb hml hrt hts hown hlk hK hN hW hP ls hl
  have hl : lv_has ls 7 [(0, .ref (tq)), (1, .int (nI (st))), (2, .int (nI (en0)))] := hl
  have hS : va_S (fun x : Nat => L ≤ x) s.heap s.heap [] := va_S.rf
  have hWn := hW
  have hWto := hP.1
  have hWtb := hP.2.1
  have hWtn := hP.2.2
  refine va_getsN hx hb hWn.wz hS hown hN.2.2.2.2.2.2 (fun x h => h) dX1_wordBetween_0 ?_
  refine lv_astore_n (lv' := [(3, .ref (tW)), (0, .ref (tq)), (1, .int (nI (st))), (2, .int (nI (en0)))]) hx hb dX1_wordBetween_3 rfl hl (by decide) rfl (fun ls hl => ?_)
  refine lv_aload_n hx hb dX1_wordBetween_4 rfl (lv_at hl 0 rfl) ?_
  refine va_tlen (v := nI 8) hx hb hWn.wt hS rfl dX1_wordBetween_5 ?_
  refine lv_istore (lv' := [(4, .int (nI (8))), (3, .ref (tW)), (0, .ref (tq)), (1, .int (nI (st))), (2, .int (nI (en0)))]) hx hb dX1_wordBetween_6 hl (by decide) rfl (fun ls hl => ?_)
  refine lv_iconst (v := nI 0) hx hb dX1_wordBetween_8 (by decide) ?_
  refine lv_istore (lv' := [(5, .int (nI (0))), (4, .int (nI (8))), (3, .ref (tW)), (0, .ref (tq)), (1, .int (nI (st))), (2, .int (nI (en0)))]) hx hb dX1_wordBetween_9 hl (by decide) rfl (fun ls hl => ?_)
  have J11 : ∀ (fu11 : Nat) (k0 : Nat) (ls : Array Slot), (8 - k0) < fu11 → (k0 ≤ 8) → (∀ j, j < k0 → sbB b j st en0 = false) → lv_has ls 7 [(0, .ref (tq)), (1, .int (nI (st))), (2, .int (nI (en0))), (3, .ref (tW)), (4, .int (nI (8))), (5, .int (nI (k0)))] → W p l en ({ frames := 5, cells := 0, slots := 0, locals := 109 } : Room) s m args below meth c s.heap [] 0 0 (MQ below (QcP (some (wbV aW (wbN b st en0)))) args s 0 0 nowhere) (F0 m 11 ls []) := by
    intro fu11; induction fu11 with
    | zero => intro k0 ls hmu11 hk0 hno hl; exact absurd hmu11 (Nat.not_lt_zero _)
    | succ fu11 ih11 =>
      intro k0 ls hmu11 hk0 hno hl
      refine lv_iload hx hb dX1_wordBetween_11 (lv_at hl 5 rfl) ?_
      refine lv_iload hx hb dX1_wordBetween_13 (lv_at hl 4 rfl) ?_
      refine kn_icmp_ge (tgt := 47) hx hb dX1_wordBetween_15 (by decide) (by omega) (by decide) (fun hge => ?_) (fun hge => ?_)
      · refine lv_null hx hb dX1_wordBetween_47 ?_
        exact kx_aretP hx hb hrt hlk (Or.inl ⟨_, rfl⟩) (by rw [wb_no (fun j hj => hno j (by omega))]; rfl) (Or.inl rfl) dX1_wordBetween_48
      · refine lv_aload_n hx hb dX1_wordBetween_18 rfl (lv_at hl 3 rfl) ?_
        refine lv_iload hx hb dX1_wordBetween_19 (lv_at hl 5 rfl) ?_
        refine vb_tq (v := .ref (aW k0)) hx hb hWn.wt hS (vp_in_nI (by omega) (by decide)) (by rw [nI_clamp (by omega)]) dX1_wordBetween_21 ?_
        refine lv_astore (lv' := [(6, .ref (aW k0)), (0, .ref (tq)), (1, .int (nI (st))), (2, .int (nI (en0))), (3, .ref (tW)), (4, .int (nI (8))), (5, .int (nI (k0)))]) hx hb dX1_wordBetween_22 hl (by decide) rfl (fun ls hl => ?_)
        refine lv_aload_n hx hb dX1_wordBetween_24 rfl (lv_at hl 1 rfl) ?_
        refine lv_aload hx hb dX1_wordBetween_25 (lv_at hl 0 rfl) ?_
        refine va_getX (i := k0) hx hb hWn.ef (by omega) hS hown (hts (.fieldLink RX1 73 "HostageRings$Word" "letters" "Ljava/lang/String;") (by decide +kernel)) (fun x h => h) dX1_wordBetween_27 ?_
        refine lv_iload_n hx hb dX1_wordBetween_30 rfl (lv_at hl 2 rfl) ?_
        refine lv_iload_n hx hb dX1_wordBetween_31 rfl (lv_at hl 3 rfl) ?_
        refine kx_retP (va_runV (As := [.ref (aS k0), .int (nI (st)), .int (nI (en0))]) (rest := []) ⟨hx, hb, hml, hown, hts⟩ (k_X1_standsBetween l D cs tq b nn wd ln pa ft L aW aS aV tW tM k0 st en0 (by first | assumption | omega) (by first | assumption | omega) (by first | assumption | omega) (by first | assumption | omega) (by first | assumption | omega) (by first | assumption | omega)) (cwV 3 hts gX1_wordBetween_X1_standsBetween rfl rfl rfl (by decide +kernel) ⟨Nat.le_of_ble_eq_true rfl, Nat.le_of_ble_eq_true rfl⟩) (kx_preWV hK hN hW hWto rfl ⟨hWto, hWtb, hWtn⟩) rfl rfl hl.1 rfl (lv_room (Nat.le_of_ble_eq_true rfl)) dX1_wordBetween_32 ⟨Nat.le_of_ble_eq_true rfl, Nat.le_of_ble_eq_true rfl⟩) ?_
        refine kb_if_eq (tgt := 41) hx hb dX1_wordBetween_35 (by decide) (fun hsb => ?_) (fun hsb => ?_)
        · refine lv_iinc (v := nI (k0 + 1)) (lv' := [(5, .int (nI (k0 + 1))), (6, .ref (aW k0)), (0, .ref (tq)), (1, .int (nI (st))), (2, .int (nI (en0))), (3, .ref (tW)), (4, .int (nI (8)))]) (k := 6) hx hb dX1_wordBetween_41 hl rfl (nI_add _ _) (by decide) rfl (fun ls hl => ?_)
          refine lv_goto (tgt := 11) hx hb dX1_wordBetween_44 (by decide) ?_
          exact ih11 (k0 + 1) _ (by omega) (by omega) (no_s hno hsb) (lv_sub hl [2, 3, 4, 5, 6, 0] rfl)
        · refine lv_aload hx hb dX1_wordBetween_38 (lv_at hl 0 rfl) ?_
          exact kx_aretP hx hb hrt hlk (Or.inl ⟨_, rfl⟩) (by rw [wb_is hno (by omega) hsb]; exact (wbV_lt (by omega)).symm) (Or.inr ⟨_, rfl⟩) dX1_wordBetween_40
  exact J11 _ 0 _ (Nat.lt_succ_self _) (by omega) (fun i hi => absurd hi (Nat.not_lt_zero i)) (lv_sub hl [3, 4, 5, 2, 1, 0] rfl)
