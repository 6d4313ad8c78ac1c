/-! the law's calls, kinds 15 to 18 -/
set_option maxHeartbeats 2500000 in
set_option maxRecDepth 100000 in
theorem cs_whole {p : Program} {l : Launch} {en : Env} {s : State} {m : MethodId} {below : List Frame} {meth : Method} {c : Code} {D : va_G} {cs : Nat → ClassId} {L : Nat} {aW aS aV : Nat → Nat} {tW tM bs N : Nat} {xs : Nat → Int32} {Q : State → Prop} (G : LwG p l s m c D cs L aW aS aV tW tM bs N xs) {i : Nat} (hi : i + 6 ≤ N) {H : Heap} {locs : List Loc} {cells slots : Nat} (hr : cells + 1 ≤ 601024 ∧ slots + 6 ≤ 7293034) (W0 : LwD D cs L aW H) (hS : va_S (fun q : Nat => L ≤ q) s.heap H locs) {ls : Array Slot} (hl : lv_has ls 8 [(4, .int (nI i)), (0, .ref bs), (1, .ref L), (2, .ref (L + 360)), (3, .ref (L + 367))])
  (K : ∀ (H : Heap) (locs : List Loc) (c1 s1 : Nat) (ls : Array Slot), LwD D cs L aW H → va_S (fun q : Nat => L ≤ q) s.heap H locs → c1 ≤ cells + 1 → s1 ≤ slots + 6 → lv_has ls 8 [(4, .int (nI i)), (0, .ref bs), (1, .ref L), (2, .ref (L + 360)), (3, .ref (L + 367))] → W p l en room_1 s m #[Value.ref bs] below meth c H locs c1 s1 Q (F0 m 1607 ls [])) :
  W p l en room_1 s m #[Value.ref bs] below meth c H locs cells slots Q (F0 m 1118 ls []) := by
  obtain ⟨hx, hb, hml, hown, hts, hK, hN, hKW0, hXK0, hXN, hXs, hbl, hLs, hN9, hfl⟩ := G
  obtain ⟨z, e, g, e1, g1, nx, cn, se, sg, bt, nn9, k9, ln, pa, ft, f, hHr, hOu, hMd, hRA, hk8, hsz⟩ := W0
  have hbA : ¬ (fun q : Nat => L ≤ q) bs := by show ¬ L ≤ bs; omega
  have hr0 : cells + 0 ≤ room_1.cells ∧ slots + 0 ≤ room_1.slots := ⟨by show cells + 0 ≤ 601024; omega, by show slots + 0 ≤ 7293034; omega⟩
  have hr1 : cells + 1 ≤ room_1.cells ∧ slots + 6 ≤ room_1.slots := hr
  have hI := ev_R hRA.1
  have hG := hRA.2.1
  have hnx := hRA.2.2.1.1.2.1
  have hcn := hRA.2.2.1.1.2.2
  have hZ := hRA.invZ
  have hl150 := hRA.2.2.2.2.1
  have hsv0 := ra_sv hRA
  have hEI := hRA.1
  have hRR := EI.R hRA.1
  have hMM := EI.M hRA.1
  have hTl := hRA.tl
  have hSv := hRA.sv
  have h24 := hI.M24
  have h6 := hI.R6
  have hXK := hXK0.kept (H1 := H) (fun a h1 h2 => hS.2.1 a h1 h2)
  have hKW := hKW0.kept (H1 := H) (fun a h1 h2 => hS.2.1 a h1 h2)
  obtain ⟨q1, hq1⟩ : ∃ q : Int32, q = xs (i + 1) := ⟨_, rfl⟩
  rcases ww_c (x := q1) with hw | hw
  · obtain ⟨r, hr15, rfl⟩ := ww_0 hw
    refine lv_aload_n hx hb dL_law_1118 rfl (lv_at hl 2 rfl) ?_
    refine lv_aload_n hx hb dL_law_1119 rfl (lv_at hl 1 rfl) ?_
    refine lv_iload hx hb dL_law_1120 (lv_at hl 0 rfl) ?_
    refine lv_iconst (v := nI 1) hx hb dL_law_1122 (by decide) ?_
    refine kn_add hx hb dL_law_1123 ?_
    refine kx_sld (v := nI r) hx hb hXs hbl hbA hS (by omega) hN9 hq1 dL_law_1124 ?_
    refine lv_aload_n hx hb dL_law_1125 rfl (lv_at hl 4 rfl) ?_
    refine kx_retM (vx_runSW (As := [.ref L, .int (nI r), .ref (L + 367)]) (rest := []) ⟨hx, hb, hml, hown, hts⟩ (k_L_whole l D cs L e g e1 g1 nx cn se sg bt nn9 (aW k9) ln pa ft r hI hG hr15 (L + 367) f (by omega) L (Nat.le_refl L) hfl) (vx_cwSW 3 hts gL_law_L_whole rfl rfl rfl (by decide +kernel) ⟨Nat.le_of_ble_eq_true rfl, Nat.le_of_ble_eq_true rfl⟩) (kx_preY hK hN hXK hXN ⟨hHr, hOu⟩) rfl rfl hl.1 rfl (lv_room (Nat.le_of_ble_eq_true rfl)) dL_law_1126 hr0) hS (fun q _ h => rg_lo h) (fun q h => rg_lo h) (fun H locs hP hk hS => ?_)
    obtain ⟨hHr, hOu⟩ := hP
    have hHr : HrC D cs L e g e1 g1 nx cn se sg bt nn9 (aW k9) ln pa ft H := hHr
    have hMd := hMd.frame hk (fun q h1 h2 h => by rcases h with h | h <;> omega)
    have hsz : L + 368 ≤ H.size := Nat.le_trans hsz hk.1
    clear hk hXK hKW
    refine lv_istore (lv' := [(5, .int (nI 0)), (4, .int (nI i)), (0, .ref bs), (1, .ref L), (2, .ref (L + 360)), (3, .ref (L + 367))]) hx hb dL_law_1129 hl (by decide) rfl (fun ls hl => ?_)
    refine lv_aload_n hx hb dL_law_1131 rfl (lv_at hl 4 rfl) ?_
    refine lv_aload_n hx hb dL_law_1132 rfl (lv_at hl 2 rfl) ?_
    refine lv_iload hx hb dL_law_1133 (lv_at hl 1 rfl) ?_
    refine lv_iconst (v := nI 1) hx hb dL_law_1135 (by decide) ?_
    refine kn_add hx hb dL_law_1136 ?_
    refine kx_sld (v := nI r) hx hb hXs hbl hbA hS (by omega) hN9 hq1 dL_law_1137 ?_
    refine kx_retM (va_runV (As := [.int (nI r)]) (rest := []) ⟨hx, hb, hml, hown, hts⟩ (k_X8_whole l D cs (L + 360) z (nI r) hZ) (cwV 1 hts gL_law_X8_whole rfl rfl rfl (by decide +kernel) ⟨Nat.le_of_ble_eq_true rfl, Nat.le_of_ble_eq_true rfl⟩) (kx_preV hK hN hMd.1 rfl hMd) rfl rfl hl.1 rfl (lv_room (Nat.le_of_ble_eq_true rfl)) dL_law_1138 hr0) hS (fun q _ h => by have h3 := h.1; show L ≤ q; omega) (fun q h => by have h3 := h.1; show L ≤ q; omega) (fun H locs hP hk hS => ?_)
    have hHr := hHr.keepR (H1 := H) (fun q h1 h2 => hk.2 q (by omega) (fun h => by have h3 := h.1; have h4 := h.2; omega))
    have hOu := hOu.kept (hk.2 _ hOu.lt (fun h => by have h3 := h.1; have h4 := h.2; omega))
    have hsz : L + 368 ≤ H.size := Nat.le_trans hsz hk.1
    clear hk
    have hMd : MdC D (cs 0) (L + 360) (upd z 4403 (nI 0)) H := (by have q9 := hP; rw [hw] at q9; exact q9)
    refine kx_ci (y := wvC e ln r) (by rw [if_pos hw, nn_nI (by omega), hRA.wv hr15]) ?_
    refine lv_istore (lv' := [(6, .int (wvC e ln r)), (5, .int (nI 0)), (4, .int (nI i)), (0, .ref bs), (1, .ref L), (2, .ref (L + 360)), (3, .ref (L + 367))]) hx hb dL_law_1141 hl (by decide) rfl (fun ls hl => ?_)
    refine lv_aload_n hx hb dL_law_1143 rfl (lv_at hl 5 rfl) ?_
    refine kx_retP (va_runV (As := []) (rest := []) ⟨hx, hb, hml, hown, hts⟩ (k_X8_thrown l D cs (L + 360) (upd z 4403 (nI 0))) (cwV 0 hts gL_law_X8_thrown rfl rfl rfl (by decide +kernel) ⟨Nat.le_of_ble_eq_true rfl, Nat.le_of_ble_eq_true rfl⟩) (kx_preV hK hN hMd.1 rfl hMd) rfl rfl hl.1 rfl (lv_room (Nat.le_of_ble_eq_true rfl)) dL_law_1144 hr0) ?_
    refine kx_ci (y := nI 0) (th_thr _) ?_
    refine lv_iload hx hb dL_law_1147 (lv_at hl 1 rfl) ?_
    refine lv_icmp_eq (tgt := 1154) hx hb dL_law_1149 (by decide) (fun _ => ?_) (fun h9 => absurd rfl h9)
    refine lv_iload hx hb dL_law_1154 (lv_at hl 1 rfl) ?_
    refine lv_if_ne (tgt := 1171) hx hb dL_law_1156 (by decide) (fun h9 => absurd (show nI 0 = 0 by decide) h9) (fun _ => ?_)
    refine lv_aload_n hx hb dL_law_1159 rfl (lv_at hl 6 rfl) ?_
    refine lv_iconst (v := nI 0) hx hb dL_law_1160 (by decide) ?_
    refine kx_lald hx hb hK hOu 5 rfl (i := 0) (by decide) (by decide) dL_law_1161 ?_
    refine kx_cl (y := (wvC e ln r).toInt64) (vp_upd0 _ _) ?_
    refine lv_iload hx hb dL_law_1162 (lv_at hl 0 rfl) ?_
    refine lv_i2l hx hb dL_law_1164 rfl ?_
    refine W.lcmp hx hb dL_law_1165 ?_
    refine kl_if_eq (tgt := 1171) hx hb dL_law_1166 (by decide) (fun _ => ?_) (fun h9 => absurd rfl h9)
    refine lv_goto (tgt := 1607) hx hb dL_law_1171 (by decide) ?_
    exact K _ _ _ _ _ ⟨upd z 4403 (nI 0), _, _, _, _, _, _, _, _, _, _, k9, _, _, _, _, hHr, hOu, hMd, hRA.thr _, hk8, hsz⟩ hS (Nat.le_add_right _ _) (Nat.le_add_right _ _) (lv_sub hl [2, 3, 4, 5, 6] rfl)
  · have hwe := ww_1 hw
    refine lv_aload_n hx hb dL_law_1118 rfl (lv_at hl 2 rfl) ?_
    refine lv_aload_n hx hb dL_law_1119 rfl (lv_at hl 1 rfl) ?_
    refine lv_iload hx hb dL_law_1120 (lv_at hl 0 rfl) ?_
    refine lv_iconst (v := nI 1) hx hb dL_law_1122 (by decide) ?_
    refine kn_add hx hb dL_law_1123 ?_
    refine kx_sld (v := q1) hx hb hXs hbl hbA hS (by omega) hN9 hq1 dL_law_1124 ?_
    refine lv_aload_n hx hb dL_law_1125 rfl (lv_at hl 4 rfl) ?_
    refine kx_retN (vx_runSW (As := [.ref L, .int q1, .ref (L + 367)]) (rest := []) ⟨hx, hb, hml, hown, hts⟩ (k_L_wholeT l D cs L e g e1 g1 nx cn se sg bt nn9 (aW k9) ln pa ft q1 hwe (L + 367) f (by omega) L (Nat.le_refl L) hfl) (vx_cwSW 3 hts gL_law_L_whole rfl rfl rfl (by decide +kernel) ⟨Nat.le_of_ble_eq_true rfl, Nat.le_of_ble_eq_true rfl⟩) (kx_preY hK hN hXK hXN ⟨hHr, hOu⟩) rfl rfl hl.1 rfl (lv_room (Nat.le_of_ble_eq_true rfl)) dL_law_1126 hr1) hS (fun q _ h => rg_lo h) (fun q h => rg_lo h) (fun H locs hP hk hS => ?_)
    obtain ⟨hHr, hOu⟩ := hP
    have hHr : HrC D cs L e g e1 g1 nx cn se sg bt nn9 (aW k9) ln pa ft H := hHr
    have hMd := hMd.frame hk (fun q h1 h2 h => by rcases h with h | h <;> omega)
    have hsz : L + 368 ≤ H.size := Nat.le_trans hsz hk.1
    clear hk hXK hKW
    refine lv_istore (lv' := [(5, .int (nI 1)), (4, .int (nI i)), (0, .ref bs), (1, .ref L), (2, .ref (L + 360)), (3, .ref (L + 367))]) hx hb dL_law_1129 hl (by decide) rfl (fun ls hl => ?_)
    refine lv_aload_n hx hb dL_law_1131 rfl (lv_at hl 4 rfl) ?_
    refine lv_aload_n hx hb dL_law_1132 rfl (lv_at hl 2 rfl) ?_
    refine lv_iload hx hb dL_law_1133 (lv_at hl 1 rfl) ?_
    refine lv_iconst (v := nI 1) hx hb dL_law_1135 (by decide) ?_
    refine kn_add hx hb dL_law_1136 ?_
    refine kx_sld (v := q1) hx hb hXs hbl hbA hS (by omega) hN9 hq1 dL_law_1137 ?_
    refine kx_retM (va_runV (As := [.int q1]) (rest := []) ⟨hx, hb, hml, hown, hts⟩ (k_X8_whole l D cs (L + 360) z q1 hZ) (cwV 1 hts gL_law_X8_whole rfl rfl rfl (by decide +kernel) ⟨Nat.le_of_ble_eq_true rfl, Nat.le_of_ble_eq_true rfl⟩) (kx_preV hK hN hMd.1 rfl hMd) rfl rfl hl.1 rfl (lv_room (Nat.le_of_ble_eq_true rfl)) dL_law_1138 ⟨hr1.1, hr1.2⟩) hS (fun q _ h => by have h3 := h.1; show L ≤ q; omega) (fun q h => by have h3 := h.1; show L ≤ q; omega) (fun H locs hP hk hS => ?_)
    have hHr := hHr.keepR (H1 := H) (fun q h1 h2 => hk.2 q (by omega) (fun h => by have h3 := h.1; have h4 := h.2; omega))
    have hOu := hOu.kept (hk.2 _ hOu.lt (fun h => by have h3 := h.1; have h4 := h.2; omega))
    have hsz : L + 368 ≤ H.size := Nat.le_trans hsz hk.1
    clear hk
    have hMd : MdC D (cs 0) (L + 360) (upd z 4403 (nI 1)) H := (by have q9 := hP; rw [hw] at q9; exact q9)
    refine kx_ci (y := nI 0) (if_neg (by rw [hw]; decide)) ?_
    refine lv_istore (lv' := [(6, .int (nI 0)), (5, .int (nI 1)), (4, .int (nI i)), (0, .ref bs), (1, .ref L), (2, .ref (L + 360)), (3, .ref (L + 367))]) hx hb dL_law_1141 hl (by decide) rfl (fun ls hl => ?_)
    refine lv_aload_n hx hb dL_law_1143 rfl (lv_at hl 5 rfl) ?_
    refine kx_retP (va_runV (As := []) (rest := []) ⟨hx, hb, hml, hown, hts⟩ (k_X8_thrown l D cs (L + 360) (upd z 4403 (nI 1))) (cwV 0 hts gL_law_X8_thrown rfl rfl rfl (by decide +kernel) ⟨Nat.le_of_ble_eq_true rfl, Nat.le_of_ble_eq_true rfl⟩) (kx_preV hK hN hMd.1 rfl hMd) rfl rfl hl.1 rfl (lv_room (Nat.le_of_ble_eq_true rfl)) dL_law_1144 ⟨hr1.1, hr1.2⟩) ?_
    refine kx_ci (y := nI 1) (th_thr _) ?_
    refine lv_iload hx hb dL_law_1147 (lv_at hl 1 rfl) ?_
    refine lv_icmp_eq (tgt := 1154) hx hb dL_law_1149 (by decide) (fun _ => ?_) (fun h9 => absurd rfl h9)
    refine lv_iload hx hb dL_law_1154 (lv_at hl 1 rfl) ?_
    refine lv_if_ne (tgt := 1171) hx hb dL_law_1156 (by decide) (fun _ => ?_) (fun h9 => absurd h9 (by decide))
    refine lv_goto (tgt := 1607) hx hb dL_law_1171 (by decide) ?_
    exact K _ _ _ _ _ ⟨upd z 4403 (nI 1), _, _, _, _, _, _, _, _, _, _, k9, _, _, _, _, hHr, hOu, hMd, hRA.thr _, hk8, hsz⟩ hS (Nat.le_refl _) (Nat.le_refl _) (lv_sub hl [2, 3, 4, 5, 6] rfl)
set_option maxHeartbeats 2500000 in
set_option maxRecDepth 100000 in
theorem cs_reason {p : Program} {l : Launch} {en : Env} {s : State} {m : MethodId} {below : List Frame} {meth : Method} {c : Code} {D : va_G} {cs : Nat → ClassId} {L : Nat} {aW aS aV : Nat → Nat} {tW tM bs N : Nat} {xs : Nat → Int32} {Q : State → Prop} (G : LwG p l s m c D cs L aW aS aV tW tM bs N xs) {i : Nat} (hi : i + 6 ≤ N) {H : Heap} {locs : List Loc} {cells slots : Nat} (hr : cells + 1 ≤ 601024 ∧ slots + 6 ≤ 7293034) (W0 : LwD D cs L aW H) (hS : va_S (fun q : Nat => L ≤ q) s.heap H locs) {ls : Array Slot} (hl : lv_has ls 8 [(4, .int (nI i)), (0, .ref bs), (1, .ref L), (2, .ref (L + 360)), (3, .ref (L + 367))])
  (K : ∀ (H : Heap) (locs : List Loc) (c1 s1 : Nat) (ls : Array Slot), LwD D cs L aW H → va_S (fun q : Nat => L ≤ q) s.heap H locs → c1 ≤ cells + 1 → s1 ≤ slots + 6 → lv_has ls 8 [(4, .int (nI i)), (0, .ref bs), (1, .ref L), (2, .ref (L + 360)), (3, .ref (L + 367))] → W p l en room_1 s m #[Value.ref bs] below meth c H locs c1 s1 Q (F0 m 1607 ls [])) :
  W p l en room_1 s m #[Value.ref bs] below meth c H locs cells slots Q (F0 m 1174 ls []) := by
  obtain ⟨hx, hb, hml, hown, hts, hK, hN, hKW0, hXK0, hXN, hXs, hbl, hLs, hN9, hfl⟩ := G
  obtain ⟨z, e, g, e1, g1, nx, cn, se, sg, bt, nn9, k9, ln, pa, ft, f, hHr, hOu, hMd, hRA, hk8, hsz⟩ := W0
  have hbA : ¬ (fun q : Nat => L ≤ q) bs := by show ¬ L ≤ bs; omega
  have hr0 : cells + 0 ≤ room_1.cells ∧ slots + 0 ≤ room_1.slots := ⟨by show cells + 0 ≤ 601024; omega, by show slots + 0 ≤ 7293034; omega⟩
  have hr1 : cells + 1 ≤ room_1.cells ∧ slots + 6 ≤ room_1.slots := hr
  have hI := ev_R hRA.1
  have hG := hRA.2.1
  have hnx := hRA.2.2.1.1.2.1
  have hcn := hRA.2.2.1.1.2.2
  have hZ := hRA.invZ
  have hl150 := hRA.2.2.2.2.1
  have hsv0 := ra_sv hRA
  have hEI := hRA.1
  have hRR := EI.R hRA.1
  have hMM := EI.M hRA.1
  have hTl := hRA.tl
  have hSv := hRA.sv
  have h24 := hI.M24
  have h6 := hI.R6
  have hXK := hXK0.kept (H1 := H) (fun a h1 h2 => hS.2.1 a h1 h2)
  have hKW := hKW0.kept (H1 := H) (fun a h1 h2 => hS.2.1 a h1 h2)
  obtain ⟨q1, hq1⟩ : ∃ q : Int32, q = xs (i + 1) := ⟨_, rfl⟩
  rcases cw_c (x := q1) with hw | hw
  · obtain ⟨r, hr48, rfl⟩ := cw_0 hw
    refine lv_aload_n hx hb dL_law_1174 rfl (lv_at hl 2 rfl) ?_
    refine lv_aload_n hx hb dL_law_1175 rfl (lv_at hl 1 rfl) ?_
    refine lv_iload hx hb dL_law_1176 (lv_at hl 0 rfl) ?_
    refine lv_iconst (v := nI 1) hx hb dL_law_1178 (by decide) ?_
    refine kn_add hx hb dL_law_1179 ?_
    refine kx_sld (v := nI r) hx hb hXs hbl hbA hS (by omega) hN9 hq1 dL_law_1180 ?_
    refine lv_aload_n hx hb dL_law_1181 rfl (lv_at hl 4 rfl) ?_
    refine kx_retM (vx_runSW (As := [.ref L, .int (nI r), .ref (L + 367)]) (rest := []) ⟨hx, hb, hml, hown, hts⟩ (k_L_reason l D cs L e g e1 g1 nx cn se sg bt nn9 (aW k9) ln pa ft r hI hG hr48 (L + 367) f (by omega) L (Nat.le_refl L) hfl) (vx_cwSW 3 hts gL_law_L_reason rfl rfl rfl (by decide +kernel) ⟨Nat.le_of_ble_eq_true rfl, Nat.le_of_ble_eq_true rfl⟩) (kx_preY hK hN hXK hXN ⟨hHr, hOu⟩) rfl rfl hl.1 rfl (lv_room (Nat.le_of_ble_eq_true rfl)) dL_law_1182 hr0) hS (fun q _ h => rg_lo h) (fun q h => rg_lo h) (fun H locs hP hk hS => ?_)
    obtain ⟨hHr, hOu⟩ := hP
    have hHr : HrC D cs L e g e1 g1 nx cn se sg bt nn9 (aW k9) ln pa ft H := hHr
    have hMd := hMd.frame hk (fun q h1 h2 h => by rcases h with h | h <;> omega)
    have hsz : L + 368 ≤ H.size := Nat.le_trans hsz hk.1
    clear hk hXK hKW
    refine lv_istore (lv' := [(5, .int (nI 0)), (4, .int (nI i)), (0, .ref bs), (1, .ref L), (2, .ref (L + 360)), (3, .ref (L + 367))]) hx hb dL_law_1185 hl (by decide) rfl (fun ls hl => ?_)
    refine lv_aload_n hx hb dL_law_1187 rfl (lv_at hl 4 rfl) ?_
    refine lv_aload_n hx hb dL_law_1188 rfl (lv_at hl 2 rfl) ?_
    refine lv_iload hx hb dL_law_1189 (lv_at hl 1 rfl) ?_
    refine lv_iconst (v := nI 1) hx hb dL_law_1191 (by decide) ?_
    refine kn_add hx hb dL_law_1192 ?_
    refine kx_sld (v := nI r) hx hb hXs hbl hbA hS (by omega) hN9 hq1 dL_law_1193 ?_
    refine kx_retM (va_runV (As := [.int (nI r)]) (rest := []) ⟨hx, hb, hml, hown, hts⟩ (k_X8_reason l D cs (L + 360) z (nI r) hZ) (cwV 1 hts gL_law_X8_reason rfl rfl rfl (by decide +kernel) ⟨Nat.le_of_ble_eq_true rfl, Nat.le_of_ble_eq_true rfl⟩) (kx_preV hK hN hMd.1 rfl hMd) rfl rfl hl.1 rfl (lv_room (Nat.le_of_ble_eq_true rfl)) dL_law_1194 hr0) hS (fun q _ h => by have h3 := h.1; show L ≤ q; omega) (fun q h => by have h3 := h.1; show L ≤ q; omega) (fun H locs hP hk hS => ?_)
    have hHr := hHr.keepR (H1 := H) (fun q h1 h2 => hk.2 q (by omega) (fun h => by have h3 := h.1; have h4 := h.2; omega))
    have hOu := hOu.kept (hk.2 _ hOu.lt (fun h => by have h3 := h.1; have h4 := h.2; omega))
    have hsz : L + 368 ≤ H.size := Nat.le_trans hsz hk.1
    clear hk
    have hMd : MdC D (cs 0) (L + 360) (upd z 4403 (nI 0)) H := (by have q9 := hP; rw [hw] at q9; exact q9)
    refine kx_ci (y := nI (barN e r)) (by rw [if_pos hw, nn_nI (by omega), hRA.rs]) ?_
    refine lv_istore (lv' := [(6, .int (nI (barN e r))), (5, .int (nI 0)), (4, .int (nI i)), (0, .ref bs), (1, .ref L), (2, .ref (L + 360)), (3, .ref (L + 367))]) hx hb dL_law_1197 hl (by decide) rfl (fun ls hl => ?_)
    refine lv_aload_n hx hb dL_law_1199 rfl (lv_at hl 5 rfl) ?_
    refine kx_retP (va_runV (As := []) (rest := []) ⟨hx, hb, hml, hown, hts⟩ (k_X8_thrown l D cs (L + 360) (upd z 4403 (nI 0))) (cwV 0 hts gL_law_X8_thrown rfl rfl rfl (by decide +kernel) ⟨Nat.le_of_ble_eq_true rfl, Nat.le_of_ble_eq_true rfl⟩) (kx_preV hK hN hMd.1 rfl hMd) rfl rfl hl.1 rfl (lv_room (Nat.le_of_ble_eq_true rfl)) dL_law_1200 hr0) ?_
    refine kx_ci (y := nI 0) (th_thr _) ?_
    refine lv_iload hx hb dL_law_1203 (lv_at hl 1 rfl) ?_
    refine lv_icmp_eq (tgt := 1210) hx hb dL_law_1205 (by decide) (fun _ => ?_) (fun h9 => absurd rfl h9)
    refine lv_iload hx hb dL_law_1210 (lv_at hl 1 rfl) ?_
    refine lv_if_ne (tgt := 1227) hx hb dL_law_1212 (by decide) (fun h9 => absurd (show nI 0 = 0 by decide) h9) (fun _ => ?_)
    refine lv_aload_n hx hb dL_law_1215 rfl (lv_at hl 6 rfl) ?_
    refine lv_iconst (v := nI 0) hx hb dL_law_1216 (by decide) ?_
    refine kx_lald hx hb hK hOu 5 rfl (i := 0) (by decide) (by decide) dL_law_1217 ?_
    refine kx_cl (y := (nI (barN e r)).toInt64) (vp_upd0 _ _) ?_
    refine lv_iload hx hb dL_law_1218 (lv_at hl 0 rfl) ?_
    refine lv_i2l hx hb dL_law_1220 rfl ?_
    refine W.lcmp hx hb dL_law_1221 ?_
    refine kl_if_eq (tgt := 1227) hx hb dL_law_1222 (by decide) (fun _ => ?_) (fun h9 => absurd rfl h9)
    refine lv_goto (tgt := 1607) hx hb dL_law_1227 (by decide) ?_
    exact K _ _ _ _ _ ⟨upd z 4403 (nI 0), _, _, _, _, _, _, _, _, _, _, k9, _, _, _, _, hHr, hOu, hMd, hRA.thr _, hk8, hsz⟩ hS (Nat.le_add_right _ _) (Nat.le_add_right _ _) (lv_sub hl [2, 3, 4, 5, 6] rfl)
  · have hwe := cw_1 hw
    refine lv_aload_n hx hb dL_law_1174 rfl (lv_at hl 2 rfl) ?_
    refine lv_aload_n hx hb dL_law_1175 rfl (lv_at hl 1 rfl) ?_
    refine lv_iload hx hb dL_law_1176 (lv_at hl 0 rfl) ?_
    refine lv_iconst (v := nI 1) hx hb dL_law_1178 (by decide) ?_
    refine kn_add hx hb dL_law_1179 ?_
    refine kx_sld (v := q1) hx hb hXs hbl hbA hS (by omega) hN9 hq1 dL_law_1180 ?_
    refine lv_aload_n hx hb dL_law_1181 rfl (lv_at hl 4 rfl) ?_
    refine kx_retN (vx_runSW (As := [.ref L, .int q1, .ref (L + 367)]) (rest := []) ⟨hx, hb, hml, hown, hts⟩ (k_L_reasonT l D cs L e g e1 g1 nx cn se sg bt nn9 (aW k9) ln pa ft q1 hwe (L + 367) f (by omega) L (Nat.le_refl L) hfl) (vx_cwSW 3 hts gL_law_L_reason rfl rfl rfl (by decide +kernel) ⟨Nat.le_of_ble_eq_true rfl, Nat.le_of_ble_eq_true rfl⟩) (kx_preY hK hN hXK hXN ⟨hHr, hOu⟩) rfl rfl hl.1 rfl (lv_room (Nat.le_of_ble_eq_true rfl)) dL_law_1182 hr1) hS (fun q _ h => rg_lo h) (fun q h => rg_lo h) (fun H locs hP hk hS => ?_)
    obtain ⟨hHr, hOu⟩ := hP
    have hHr : HrC D cs L e g e1 g1 nx cn se sg bt nn9 (aW k9) ln pa ft H := hHr
    have hMd := hMd.frame hk (fun q h1 h2 h => by rcases h with h | h <;> omega)
    have hsz : L + 368 ≤ H.size := Nat.le_trans hsz hk.1
    clear hk hXK hKW
    refine lv_istore (lv' := [(5, .int (nI 1)), (4, .int (nI i)), (0, .ref bs), (1, .ref L), (2, .ref (L + 360)), (3, .ref (L + 367))]) hx hb dL_law_1185 hl (by decide) rfl (fun ls hl => ?_)
    refine lv_aload_n hx hb dL_law_1187 rfl (lv_at hl 4 rfl) ?_
    refine lv_aload_n hx hb dL_law_1188 rfl (lv_at hl 2 rfl) ?_
    refine lv_iload hx hb dL_law_1189 (lv_at hl 1 rfl) ?_
    refine lv_iconst (v := nI 1) hx hb dL_law_1191 (by decide) ?_
    refine kn_add hx hb dL_law_1192 ?_
    refine kx_sld (v := q1) hx hb hXs hbl hbA hS (by omega) hN9 hq1 dL_law_1193 ?_
    refine kx_retM (va_runV (As := [.int q1]) (rest := []) ⟨hx, hb, hml, hown, hts⟩ (k_X8_reason l D cs (L + 360) z q1 hZ) (cwV 1 hts gL_law_X8_reason rfl rfl rfl (by decide +kernel) ⟨Nat.le_of_ble_eq_true rfl, Nat.le_of_ble_eq_true rfl⟩) (kx_preV hK hN hMd.1 rfl hMd) rfl rfl hl.1 rfl (lv_room (Nat.le_of_ble_eq_true rfl)) dL_law_1194 ⟨hr1.1, hr1.2⟩) hS (fun q _ h => by have h3 := h.1; show L ≤ q; omega) (fun q h => by have h3 := h.1; show L ≤ q; omega) (fun H locs hP hk hS => ?_)
    have hHr := hHr.keepR (H1 := H) (fun q h1 h2 => hk.2 q (by omega) (fun h => by have h3 := h.1; have h4 := h.2; omega))
    have hOu := hOu.kept (hk.2 _ hOu.lt (fun h => by have h3 := h.1; have h4 := h.2; omega))
    have hsz : L + 368 ≤ H.size := Nat.le_trans hsz hk.1
    clear hk
    have hMd : MdC D (cs 0) (L + 360) (upd z 4403 (nI 1)) H := (by have q9 := hP; rw [hw] at q9; exact q9)
    refine kx_ci (y := nI 0) (if_neg (by rw [hw]; decide)) ?_
    refine lv_istore (lv' := [(6, .int (nI 0)), (5, .int (nI 1)), (4, .int (nI i)), (0, .ref bs), (1, .ref L), (2, .ref (L + 360)), (3, .ref (L + 367))]) hx hb dL_law_1197 hl (by decide) rfl (fun ls hl => ?_)
    refine lv_aload_n hx hb dL_law_1199 rfl (lv_at hl 5 rfl) ?_
    refine kx_retP (va_runV (As := []) (rest := []) ⟨hx, hb, hml, hown, hts⟩ (k_X8_thrown l D cs (L + 360) (upd z 4403 (nI 1))) (cwV 0 hts gL_law_X8_thrown rfl rfl rfl (by decide +kernel) ⟨Nat.le_of_ble_eq_true rfl, Nat.le_of_ble_eq_true rfl⟩) (kx_preV hK hN hMd.1 rfl hMd) rfl rfl hl.1 rfl (lv_room (Nat.le_of_ble_eq_true rfl)) dL_law_1200 ⟨hr1.1, hr1.2⟩) ?_
    refine kx_ci (y := nI 1) (th_thr _) ?_
    refine lv_iload hx hb dL_law_1203 (lv_at hl 1 rfl) ?_
    refine lv_icmp_eq (tgt := 1210) hx hb dL_law_1205 (by decide) (fun _ => ?_) (fun h9 => absurd rfl h9)
    refine lv_iload hx hb dL_law_1210 (lv_at hl 1 rfl) ?_
    refine lv_if_ne (tgt := 1227) hx hb dL_law_1212 (by decide) (fun _ => ?_) (fun h9 => absurd h9 (by decide))
    refine lv_goto (tgt := 1607) hx hb dL_law_1227 (by decide) ?_
    exact K _ _ _ _ _ ⟨upd z 4403 (nI 1), _, _, _, _, _, _, _, _, _, _, k9, _, _, _, _, hHr, hOu, hMd, hRA.thr _, hk8, hsz⟩ hS (Nat.le_refl _) (Nat.le_refl _) (lv_sub hl [2, 3, 4, 5, 6] rfl)
set_option maxHeartbeats 2500000 in
set_option maxRecDepth 100000 in
theorem cs_waitsFor {p : Program} {l : Launch} {en : Env} {s : State} {m : MethodId} {below : List Frame} {meth : Method} {c : Code} {D : va_G} {cs : Nat → ClassId} {L : Nat} {aW aS aV : Nat → Nat} {tW tM bs N : Nat} {xs : Nat → Int32} {Q : State → Prop} (G : LwG p l s m c D cs L aW aS aV tW tM bs N xs) {i : Nat} (hi : i + 6 ≤ N) {H : Heap} {locs : List Loc} {cells slots : Nat} (hr : cells + 1 ≤ 601024 ∧ slots + 6 ≤ 7293034) (W0 : LwD D cs L aW H) (hS : va_S (fun q : Nat => L ≤ q) s.heap H locs) {ls : Array Slot} (hl : lv_has ls 8 [(4, .int (nI i)), (0, .ref bs), (1, .ref L), (2, .ref (L + 360)), (3, .ref (L + 367))])
  (K : ∀ (H : Heap) (locs : List Loc) (c1 s1 : Nat) (ls : Array Slot), LwD D cs L aW H → va_S (fun q : Nat => L ≤ q) s.heap H locs → c1 ≤ cells + 1 → s1 ≤ slots + 6 → lv_has ls 8 [(4, .int (nI i)), (0, .ref bs), (1, .ref L), (2, .ref (L + 360)), (3, .ref (L + 367))] → W p l en room_1 s m #[Value.ref bs] below meth c H locs c1 s1 Q (F0 m 1607 ls [])) :
  W p l en room_1 s m #[Value.ref bs] below meth c H locs cells slots Q (F0 m 1230 ls []) := by
  obtain ⟨hx, hb, hml, hown, hts, hK, hN, hKW0, hXK0, hXN, hXs, hbl, hLs, hN9, hfl⟩ := G
  obtain ⟨z, e, g, e1, g1, nx, cn, se, sg, bt, nn9, k9, ln, pa, ft, f, hHr, hOu, hMd, hRA, hk8, hsz⟩ := W0
  have hbA : ¬ (fun q : Nat => L ≤ q) bs := by show ¬ L ≤ bs; omega
  have hr0 : cells + 0 ≤ room_1.cells ∧ slots + 0 ≤ room_1.slots := ⟨by show cells + 0 ≤ 601024; omega, by show slots + 0 ≤ 7293034; omega⟩
  have hr1 : cells + 1 ≤ room_1.cells ∧ slots + 6 ≤ room_1.slots := hr
  have hI := ev_R hRA.1
  have hG := hRA.2.1
  have hnx := hRA.2.2.1.1.2.1
  have hcn := hRA.2.2.1.1.2.2
  have hZ := hRA.invZ
  have hl150 := hRA.2.2.2.2.1
  have hsv0 := ra_sv hRA
  have hEI := hRA.1
  have hRR := EI.R hRA.1
  have hMM := EI.M hRA.1
  have hTl := hRA.tl
  have hSv := hRA.sv
  have h24 := hI.M24
  have h6 := hI.R6
  have hXK := hXK0.kept (H1 := H) (fun a h1 h2 => hS.2.1 a h1 h2)
  have hKW := hKW0.kept (H1 := H) (fun a h1 h2 => hS.2.1 a h1 h2)
  obtain ⟨q1, hq1⟩ : ∃ q : Int32, q = xs (i + 1) := ⟨_, rfl⟩
  rcases mw_c (z := z) (x := q1) with hw | hw
  · obtain ⟨r, hrR, rfl⟩ := mw_0 hEI.2 hw
    refine lv_aload_n hx hb dL_law_1230 rfl (lv_at hl 2 rfl) ?_
    refine lv_aload_n hx hb dL_law_1231 rfl (lv_at hl 1 rfl) ?_
    refine lv_iload hx hb dL_law_1232 (lv_at hl 0 rfl) ?_
    refine lv_iconst (v := nI 1) hx hb dL_law_1234 (by decide) ?_
    refine kn_add hx hb dL_law_1235 ?_
    refine kx_sld (v := nI r) hx hb hXs hbl hbA hS (by omega) hN9 hq1 dL_law_1236 ?_
    refine lv_aload_n hx hb dL_law_1237 rfl (lv_at hl 4 rfl) ?_
    refine kx_retM (vx_runSW (As := [.ref L, .int (nI r), .ref (L + 367)]) (rest := []) ⟨hx, hb, hml, hown, hts⟩ (k_L_waitsFor l D cs L e g e1 g1 nx cn se sg bt nn9 (aW k9) ln pa ft r hI hG (by omega) (L + 367) f (by omega) L (Nat.le_refl L) hfl) (vx_cwSW 3 hts gL_law_L_waitsFor rfl rfl rfl (by decide +kernel) ⟨Nat.le_of_ble_eq_true rfl, Nat.le_of_ble_eq_true rfl⟩) (kx_preY hK hN hXK hXN ⟨hHr, hOu⟩) rfl rfl hl.1 rfl (lv_room (Nat.le_of_ble_eq_true rfl)) dL_law_1238 hr0) hS (fun q _ h => rg_lo h) (fun q h => rg_lo h) (fun H locs hP hk hS => ?_)
    obtain ⟨hHr, hOu⟩ := hP
    have hHr : HrC D cs L e g e1 g1 nx cn se sg bt nn9 (aW k9) ln pa ft H := hHr
    have hMd := hMd.frame hk (fun q h1 h2 h => by rcases h with h | h <;> omega)
    have hsz : L + 368 ≤ H.size := Nat.le_trans hsz hk.1
    clear hk hXK hKW
    refine lv_istore (lv' := [(5, .int (nI 0)), (4, .int (nI i)), (0, .ref bs), (1, .ref L), (2, .ref (L + 360)), (3, .ref (L + 367))]) hx hb dL_law_1241 hl (by decide) rfl (fun ls hl => ?_)
    refine lv_aload_n hx hb dL_law_1243 rfl (lv_at hl 4 rfl) ?_
    refine lv_aload_n hx hb dL_law_1244 rfl (lv_at hl 2 rfl) ?_
    refine lv_iload hx hb dL_law_1245 (lv_at hl 1 rfl) ?_
    refine lv_iconst (v := nI 1) hx hb dL_law_1247 (by decide) ?_
    refine kn_add hx hb dL_law_1248 ?_
    refine kx_sld (v := nI r) hx hb hXs hbl hbA hS (by omega) hN9 hq1 dL_law_1249 ?_
    refine kx_retM (va_runV (As := [.int (nI r)]) (rest := []) ⟨hx, hb, hml, hown, hts⟩ (k_X8_waitsFor l D cs (L + 360) z (nI r) hZ) (cwV 1 hts gL_law_X8_waitsFor rfl rfl rfl (by decide +kernel) ⟨Nat.le_of_ble_eq_true rfl, Nat.le_of_ble_eq_true rfl⟩) (kx_preV hK hN hMd.1 rfl hMd) rfl rfl hl.1 rfl (lv_room (Nat.le_of_ble_eq_true rfl)) dL_law_1250 hr0) hS (fun q _ h => by have h3 := h.1; show L ≤ q; omega) (fun q h => by have h3 := h.1; show L ≤ q; omega) (fun H locs hP hk hS => ?_)
    have hHr := hHr.keepR (H1 := H) (fun q h1 h2 => hk.2 q (by omega) (fun h => by have h3 := h.1; have h4 := h.2; omega))
    have hOu := hOu.kept (hk.2 _ hOu.lt (fun h => by have h3 := h.1; have h4 := h.2; omega))
    have hsz : L + 368 ≤ H.size := Nat.le_trans hsz hk.1
    clear hk
    have hMd : MdC D (cs 0) (L + 360) (upd z 4403 (nI 0)) H := (by have q9 := hP; rw [hw] at q9; exact q9)
    refine kx_ci (y := nI (woN e r)) (by rw [if_pos hw, nn_nI (by omega), hRA.wo hrR]) ?_
    refine lv_istore (lv' := [(6, .int (nI (woN e r))), (5, .int (nI 0)), (4, .int (nI i)), (0, .ref bs), (1, .ref L), (2, .ref (L + 360)), (3, .ref (L + 367))]) hx hb dL_law_1253 hl (by decide) rfl (fun ls hl => ?_)
    refine lv_aload_n hx hb dL_law_1255 rfl (lv_at hl 5 rfl) ?_
    refine kx_retP (va_runV (As := []) (rest := []) ⟨hx, hb, hml, hown, hts⟩ (k_X8_thrown l D cs (L + 360) (upd z 4403 (nI 0))) (cwV 0 hts gL_law_X8_thrown rfl rfl rfl (by decide +kernel) ⟨Nat.le_of_ble_eq_true rfl, Nat.le_of_ble_eq_true rfl⟩) (kx_preV hK hN hMd.1 rfl hMd) rfl rfl hl.1 rfl (lv_room (Nat.le_of_ble_eq_true rfl)) dL_law_1256 hr0) ?_
    refine kx_ci (y := nI 0) (th_thr _) ?_
    refine lv_iload hx hb dL_law_1259 (lv_at hl 1 rfl) ?_
    refine lv_icmp_eq (tgt := 1266) hx hb dL_law_1261 (by decide) (fun _ => ?_) (fun h9 => absurd rfl h9)
    refine lv_iload hx hb dL_law_1266 (lv_at hl 1 rfl) ?_
    refine lv_if_ne (tgt := 1283) hx hb dL_law_1268 (by decide) (fun h9 => absurd (show nI 0 = 0 by decide) h9) (fun _ => ?_)
    refine lv_aload_n hx hb dL_law_1271 rfl (lv_at hl 6 rfl) ?_
    refine lv_iconst (v := nI 0) hx hb dL_law_1272 (by decide) ?_
    refine kx_lald hx hb hK hOu 5 rfl (i := 0) (by decide) (by decide) dL_law_1273 ?_
    refine kx_cl (y := (nI (woN e r)).toInt64) (vp_upd0 _ _) ?_
    refine lv_iload hx hb dL_law_1274 (lv_at hl 0 rfl) ?_
    refine lv_i2l hx hb dL_law_1276 rfl ?_
    refine W.lcmp hx hb dL_law_1277 ?_
    refine kl_if_eq (tgt := 1283) hx hb dL_law_1278 (by decide) (fun _ => ?_) (fun h9 => absurd rfl h9)
    refine lv_goto (tgt := 1607) hx hb dL_law_1283 (by decide) ?_
    exact K _ _ _ _ _ ⟨upd z 4403 (nI 0), _, _, _, _, _, _, _, _, _, _, k9, _, _, _, _, hHr, hOu, hMd, hRA.thr _, hk8, hsz⟩ hS (Nat.le_add_right _ _) (Nat.le_add_right _ _) (lv_sub hl [2, 3, 4, 5, 6] rfl)
  · have hwe := mw_1 hw
    refine lv_aload_n hx hb dL_law_1230 rfl (lv_at hl 2 rfl) ?_
    refine lv_aload_n hx hb dL_law_1231 rfl (lv_at hl 1 rfl) ?_
    refine lv_iload hx hb dL_law_1232 (lv_at hl 0 rfl) ?_
    refine lv_iconst (v := nI 1) hx hb dL_law_1234 (by decide) ?_
    refine kn_add hx hb dL_law_1235 ?_
    refine kx_sld (v := q1) hx hb hXs hbl hbA hS (by omega) hN9 hq1 dL_law_1236 ?_
    refine lv_aload_n hx hb dL_law_1237 rfl (lv_at hl 4 rfl) ?_
    refine kx_retN (vx_runSW (As := [.ref L, .int q1, .ref (L + 367)]) (rest := []) ⟨hx, hb, hml, hown, hts⟩ (k_L_waitsForT1 l D cs L e g e1 g1 nx cn se sg bt nn9 (aW k9) ln pa ft q1 hI (by rw [hMM]; exact hwe) (L + 367) f (by omega) L (Nat.le_refl L) hfl) (vx_cwSW 3 hts gL_law_L_waitsFor rfl rfl rfl (by decide +kernel) ⟨Nat.le_of_ble_eq_true rfl, Nat.le_of_ble_eq_true rfl⟩) (kx_preY hK hN hXK hXN ⟨hHr, hOu⟩) rfl rfl hl.1 rfl (lv_room (Nat.le_of_ble_eq_true rfl)) dL_law_1238 hr1) hS (fun q _ h => rg_lo h) (fun q h => rg_lo h) (fun H locs hP hk hS => ?_)
    obtain ⟨hHr, hOu⟩ := hP
    have hHr : HrC D cs L e g e1 g1 nx cn se sg bt nn9 (aW k9) ln pa ft H := hHr
    have hMd := hMd.frame hk (fun q h1 h2 h => by rcases h with h | h <;> omega)
    have hsz : L + 368 ≤ H.size := Nat.le_trans hsz hk.1
    clear hk hXK hKW
    refine lv_istore (lv' := [(5, .int (nI 1)), (4, .int (nI i)), (0, .ref bs), (1, .ref L), (2, .ref (L + 360)), (3, .ref (L + 367))]) hx hb dL_law_1241 hl (by decide) rfl (fun ls hl => ?_)
    refine lv_aload_n hx hb dL_law_1243 rfl (lv_at hl 4 rfl) ?_
    refine lv_aload_n hx hb dL_law_1244 rfl (lv_at hl 2 rfl) ?_
    refine lv_iload hx hb dL_law_1245 (lv_at hl 1 rfl) ?_
    refine lv_iconst (v := nI 1) hx hb dL_law_1247 (by decide) ?_
    refine kn_add hx hb dL_law_1248 ?_
    refine kx_sld (v := q1) hx hb hXs hbl hbA hS (by omega) hN9 hq1 dL_law_1249 ?_
    refine kx_retM (va_runV (As := [.int q1]) (rest := []) ⟨hx, hb, hml, hown, hts⟩ (k_X8_waitsFor l D cs (L + 360) z q1 hZ) (cwV 1 hts gL_law_X8_waitsFor rfl rfl rfl (by decide +kernel) ⟨Nat.le_of_ble_eq_true rfl, Nat.le_of_ble_eq_true rfl⟩) (kx_preV hK hN hMd.1 rfl hMd) rfl rfl hl.1 rfl (lv_room (Nat.le_of_ble_eq_true rfl)) dL_law_1250 ⟨hr1.1, hr1.2⟩) hS (fun q _ h => by have h3 := h.1; show L ≤ q; omega) (fun q h => by have h3 := h.1; show L ≤ q; omega) (fun H locs hP hk hS => ?_)
    have hHr := hHr.keepR (H1 := H) (fun q h1 h2 => hk.2 q (by omega) (fun h => by have h3 := h.1; have h4 := h.2; omega))
    have hOu := hOu.kept (hk.2 _ hOu.lt (fun h => by have h3 := h.1; have h4 := h.2; omega))
    have hsz : L + 368 ≤ H.size := Nat.le_trans hsz hk.1
    clear hk
    have hMd : MdC D (cs 0) (L + 360) (upd z 4403 (nI 1)) H := (by have q9 := hP; rw [hw] at q9; exact q9)
    refine kx_ci (y := nI 0) (if_neg (by rw [hw]; decide)) ?_
    refine lv_istore (lv' := [(6, .int (nI 0)), (5, .int (nI 1)), (4, .int (nI i)), (0, .ref bs), (1, .ref L), (2, .ref (L + 360)), (3, .ref (L + 367))]) hx hb dL_law_1253 hl (by decide) rfl (fun ls hl => ?_)
    refine lv_aload_n hx hb dL_law_1255 rfl (lv_at hl 5 rfl) ?_
    refine kx_retP (va_runV (As := []) (rest := []) ⟨hx, hb, hml, hown, hts⟩ (k_X8_thrown l D cs (L + 360) (upd z 4403 (nI 1))) (cwV 0 hts gL_law_X8_thrown rfl rfl rfl (by decide +kernel) ⟨Nat.le_of_ble_eq_true rfl, Nat.le_of_ble_eq_true rfl⟩) (kx_preV hK hN hMd.1 rfl hMd) rfl rfl hl.1 rfl (lv_room (Nat.le_of_ble_eq_true rfl)) dL_law_1256 ⟨hr1.1, hr1.2⟩) ?_
    refine kx_ci (y := nI 1) (th_thr _) ?_
    refine lv_iload hx hb dL_law_1259 (lv_at hl 1 rfl) ?_
    refine lv_icmp_eq (tgt := 1266) hx hb dL_law_1261 (by decide) (fun _ => ?_) (fun h9 => absurd rfl h9)
    refine lv_iload hx hb dL_law_1266 (lv_at hl 1 rfl) ?_
    refine lv_if_ne (tgt := 1283) hx hb dL_law_1268 (by decide) (fun _ => ?_) (fun h9 => absurd h9 (by decide))
    refine lv_goto (tgt := 1607) hx hb dL_law_1283 (by decide) ?_
    exact K _ _ _ _ _ ⟨upd z 4403 (nI 1), _, _, _, _, _, _, _, _, _, _, k9, _, _, _, _, hHr, hOu, hMd, hRA.thr _, hk8, hsz⟩ hS (Nat.le_refl _) (Nat.le_refl _) (lv_sub hl [2, 3, 4, 5, 6] rfl)
set_option maxHeartbeats 2500000 in
set_option maxRecDepth 100000 in
theorem cs_depth {p : Program} {l : Launch} {en : Env} {s : State} {m : MethodId} {below : List Frame} {meth : Method} {c : Code} {D : va_G} {cs : Nat → ClassId} {L : Nat} {aW aS aV : Nat → Nat} {tW tM bs N : Nat} {xs : Nat → Int32} {Q : State → Prop} (G : LwG p l s m c D cs L aW aS aV tW tM bs N xs) {i : Nat} (hi : i + 6 ≤ N) {H : Heap} {locs : List Loc} {cells slots : Nat} (hr : cells + 1 ≤ 601024 ∧ slots + 6 ≤ 7293034) (W0 : LwD D cs L aW H) (hS : va_S (fun q : Nat => L ≤ q) s.heap H locs) {ls : Array Slot} (hl : lv_has ls 8 [(4, .int (nI i)), (0, .ref bs), (1, .ref L), (2, .ref (L + 360)), (3, .ref (L + 367))])
  (K : ∀ (H : Heap) (locs : List Loc) (c1 s1 : Nat) (ls : Array Slot), LwD D cs L aW H → va_S (fun q : Nat => L ≤ q) s.heap H locs → c1 ≤ cells + 1 → s1 ≤ slots + 6 → lv_has ls 8 [(4, .int (nI i)), (0, .ref bs), (1, .ref L), (2, .ref (L + 360)), (3, .ref (L + 367))] → W p l en room_1 s m #[Value.ref bs] below meth c H locs c1 s1 Q (F0 m 1607 ls [])) :
  W p l en room_1 s m #[Value.ref bs] below meth c H locs cells slots Q (F0 m 1286 ls []) := by
  obtain ⟨hx, hb, hml, hown, hts, hK, hN, hKW0, hXK0, hXN, hXs, hbl, hLs, hN9, hfl⟩ := G
  obtain ⟨z, e, g, e1, g1, nx, cn, se, sg, bt, nn9, k9, ln, pa, ft, f, hHr, hOu, hMd, hRA, hk8, hsz⟩ := W0
  have hbA : ¬ (fun q : Nat => L ≤ q) bs := by show ¬ L ≤ bs; omega
  have hr0 : cells + 0 ≤ room_1.cells ∧ slots + 0 ≤ room_1.slots := ⟨by show cells + 0 ≤ 601024; omega, by show slots + 0 ≤ 7293034; omega⟩
  have hr1 : cells + 1 ≤ room_1.cells ∧ slots + 6 ≤ room_1.slots := hr
  have hI := ev_R hRA.1
  have hG := hRA.2.1
  have hnx := hRA.2.2.1.1.2.1
  have hcn := hRA.2.2.1.1.2.2
  have hZ := hRA.invZ
  have hl150 := hRA.2.2.2.2.1
  have hsv0 := ra_sv hRA
  have hEI := hRA.1
  have hRR := EI.R hRA.1
  have hMM := EI.M hRA.1
  have hTl := hRA.tl
  have hSv := hRA.sv
  have h24 := hI.M24
  have h6 := hI.R6
  have hXK := hXK0.kept (H1 := H) (fun a h1 h2 => hS.2.1 a h1 h2)
  have hKW := hKW0.kept (H1 := H) (fun a h1 h2 => hS.2.1 a h1 h2)
  obtain ⟨q1, hq1⟩ : ∃ q : Int32, q = xs (i + 1) := ⟨_, rfl⟩
  rcases mw_c (z := z) (x := q1) with hw | hw
  · obtain ⟨r, hrR, rfl⟩ := mw_0 hEI.2 hw
    refine lv_aload_n hx hb dL_law_1286 rfl (lv_at hl 2 rfl) ?_
    refine lv_aload_n hx hb dL_law_1287 rfl (lv_at hl 1 rfl) ?_
    refine lv_iload hx hb dL_law_1288 (lv_at hl 0 rfl) ?_
    refine lv_iconst (v := nI 1) hx hb dL_law_1290 (by decide) ?_
    refine kn_add hx hb dL_law_1291 ?_
    refine kx_sld (v := nI r) hx hb hXs hbl hbA hS (by omega) hN9 hq1 dL_law_1292 ?_
    refine lv_aload_n hx hb dL_law_1293 rfl (lv_at hl 4 rfl) ?_
    refine kx_retM (vx_runSW (As := [.ref L, .int (nI r), .ref (L + 367)]) (rest := []) ⟨hx, hb, hml, hown, hts⟩ (k_L_depth l D cs L e g e1 g1 nx cn se sg bt nn9 (aW k9) ln pa ft r hI hG (by omega) (L + 367) f (by omega) L (Nat.le_refl L) hfl) (vx_cwSW 3 hts gL_law_L_depth rfl rfl rfl (by decide +kernel) ⟨Nat.le_of_ble_eq_true rfl, Nat.le_of_ble_eq_true rfl⟩) (kx_preY hK hN hXK hXN ⟨hHr, hOu⟩) rfl rfl hl.1 rfl (lv_room (Nat.le_of_ble_eq_true rfl)) dL_law_1294 hr0) hS (fun q _ h => rg_lo h) (fun q h => rg_lo h) (fun H locs hP hk hS => ?_)
    obtain ⟨hHr, hOu⟩ := hP
    have hHr : HrC D cs L (dcK e (r + 1)) g e1 g1 nx cn se sg bt nn9 (aW k9) ln pa ft H := hHr
    have hMd := hMd.frame hk (fun q h1 h2 h => by rcases h with h | h <;> omega)
    have hsz : L + 368 ≤ H.size := Nat.le_trans hsz hk.1
    clear hk hXK hKW
    refine lv_istore (lv' := [(5, .int (nI 0)), (4, .int (nI i)), (0, .ref bs), (1, .ref L), (2, .ref (L + 360)), (3, .ref (L + 367))]) hx hb dL_law_1297 hl (by decide) rfl (fun ls hl => ?_)
    refine lv_aload_n hx hb dL_law_1299 rfl (lv_at hl 4 rfl) ?_
    refine lv_aload_n hx hb dL_law_1300 rfl (lv_at hl 2 rfl) ?_
    refine lv_iload hx hb dL_law_1301 (lv_at hl 1 rfl) ?_
    refine lv_iconst (v := nI 1) hx hb dL_law_1303 (by decide) ?_
    refine kn_add hx hb dL_law_1304 ?_
    refine kx_sld (v := nI r) hx hb hXs hbl hbA hS (by omega) hN9 hq1 dL_law_1305 ?_
    refine kx_retM (va_runV (As := [.int (nI r)]) (rest := []) ⟨hx, hb, hml, hown, hts⟩ (k_X8_depth l D cs (L + 360) z (nI r) hZ) (cwV 1 hts gL_law_X8_depth rfl rfl rfl (by decide +kernel) ⟨Nat.le_of_ble_eq_true rfl, Nat.le_of_ble_eq_true rfl⟩) (kx_preV hK hN hMd.1 rfl hMd) rfl rfl hl.1 rfl (lv_room (Nat.le_of_ble_eq_true rfl)) dL_law_1306 hr0) hS (fun q _ h => by have h3 := h.1; show L ≤ q; omega) (fun q h => by have h3 := h.1; show L ≤ q; omega) (fun H locs hP hk hS => ?_)
    have hHr := hHr.keepR (H1 := H) (fun q h1 h2 => hk.2 q (by omega) (fun h => by have h3 := h.1; have h4 := h.2; omega))
    have hOu := hOu.kept (hk.2 _ hOu.lt (fun h => by have h3 := h.1; have h4 := h.2; omega))
    have hsz : L + 368 ≤ H.size := Nat.le_trans hsz hk.1
    clear hk
    have hMd : MdC D (cs 0) (L + 360) (dzK (t0 z) (r + 1)) H := (by have q9 := hP; rw [if_pos hw, nn_nI (by omega)] at q9; exact q9)
    refine kx_ci (y := nI (dpN e r)) (by rw [if_pos hw, nn_nI (by omega), hRA.dp hrR]) ?_
    refine lv_istore (lv' := [(6, .int (nI (dpN e r))), (5, .int (nI 0)), (4, .int (nI i)), (0, .ref bs), (1, .ref L), (2, .ref (L + 360)), (3, .ref (L + 367))]) hx hb dL_law_1309 hl (by decide) rfl (fun ls hl => ?_)
    refine lv_aload_n hx hb dL_law_1311 rfl (lv_at hl 5 rfl) ?_
    refine kx_retP (va_runV (As := []) (rest := []) ⟨hx, hb, hml, hown, hts⟩ (k_X8_thrown l D cs (L + 360) (dzK (t0 z) (r + 1))) (cwV 0 hts gL_law_X8_thrown rfl rfl rfl (by decide +kernel) ⟨Nat.le_of_ble_eq_true rfl, Nat.le_of_ble_eq_true rfl⟩) (kx_preV hK hN hMd.1 rfl hMd) rfl rfl hl.1 rfl (lv_room (Nat.le_of_ble_eq_true rfl)) dL_law_1312 hr0) ?_
    refine kx_ci (y := nI 0) (dz_thr (by omega)) ?_
    refine lv_iload hx hb dL_law_1315 (lv_at hl 1 rfl) ?_
    refine lv_icmp_eq (tgt := 1322) hx hb dL_law_1317 (by decide) (fun _ => ?_) (fun h9 => absurd rfl h9)
    refine lv_iload hx hb dL_law_1322 (lv_at hl 1 rfl) ?_
    refine lv_if_ne (tgt := 1339) hx hb dL_law_1324 (by decide) (fun h9 => absurd (show nI 0 = 0 by decide) h9) (fun _ => ?_)
    refine lv_aload_n hx hb dL_law_1327 rfl (lv_at hl 6 rfl) ?_
    refine lv_iconst (v := nI 0) hx hb dL_law_1328 (by decide) ?_
    refine kx_lald hx hb hK hOu 5 rfl (i := 0) (by decide) (by decide) dL_law_1329 ?_
    refine kx_cl (y := (nI (dpN e r)).toInt64) (vp_upd0 _ _) ?_
    refine lv_iload hx hb dL_law_1330 (lv_at hl 0 rfl) ?_
    refine lv_i2l hx hb dL_law_1332 rfl ?_
    refine W.lcmp hx hb dL_law_1333 ?_
    refine kl_if_eq (tgt := 1339) hx hb dL_law_1334 (by decide) (fun _ => ?_) (fun h9 => absurd rfl h9)
    refine lv_goto (tgt := 1607) hx hb dL_law_1339 (by decide) ?_
    exact K _ _ _ _ _ ⟨dzK (t0 z) (r + 1), _, _, _, _, _, _, _, _, _, _, k9, _, _, _, _, hHr, hOu, hMd, hRA.depth (by omega), hk8, hsz⟩ hS (Nat.le_add_right _ _) (Nat.le_add_right _ _) (lv_sub hl [2, 3, 4, 5, 6] rfl)
  · have hwe := mw_1 hw
    refine lv_aload_n hx hb dL_law_1286 rfl (lv_at hl 2 rfl) ?_
    refine lv_aload_n hx hb dL_law_1287 rfl (lv_at hl 1 rfl) ?_
    refine lv_iload hx hb dL_law_1288 (lv_at hl 0 rfl) ?_
    refine lv_iconst (v := nI 1) hx hb dL_law_1290 (by decide) ?_
    refine kn_add hx hb dL_law_1291 ?_
    refine kx_sld (v := q1) hx hb hXs hbl hbA hS (by omega) hN9 hq1 dL_law_1292 ?_
    refine lv_aload_n hx hb dL_law_1293 rfl (lv_at hl 4 rfl) ?_
    refine kx_retN (vx_runSW (As := [.ref L, .int q1, .ref (L + 367)]) (rest := []) ⟨hx, hb, hml, hown, hts⟩ (k_L_depthT1 l D cs L e g e1 g1 nx cn se sg bt nn9 (aW k9) ln pa ft q1 hI (by rw [hMM]; exact hwe) (L + 367) f (by omega) L (Nat.le_refl L) hfl) (vx_cwSW 3 hts gL_law_L_depth rfl rfl rfl (by decide +kernel) ⟨Nat.le_of_ble_eq_true rfl, Nat.le_of_ble_eq_true rfl⟩) (kx_preY hK hN hXK hXN ⟨hHr, hOu⟩) rfl rfl hl.1 rfl (lv_room (Nat.le_of_ble_eq_true rfl)) dL_law_1294 hr1) hS (fun q _ h => rg_lo h) (fun q h => rg_lo h) (fun H locs hP hk hS => ?_)
    obtain ⟨hHr, hOu⟩ := hP
    have hHr : HrC D cs L e g e1 g1 nx cn se sg bt nn9 (aW k9) ln pa ft H := hHr
    have hMd := hMd.frame hk (fun q h1 h2 h => by rcases h with h | h <;> omega)
    have hsz : L + 368 ≤ H.size := Nat.le_trans hsz hk.1
    clear hk hXK hKW
    refine lv_istore (lv' := [(5, .int (nI 1)), (4, .int (nI i)), (0, .ref bs), (1, .ref L), (2, .ref (L + 360)), (3, .ref (L + 367))]) hx hb dL_law_1297 hl (by decide) rfl (fun ls hl => ?_)
    refine lv_aload_n hx hb dL_law_1299 rfl (lv_at hl 4 rfl) ?_
    refine lv_aload_n hx hb dL_law_1300 rfl (lv_at hl 2 rfl) ?_
    refine lv_iload hx hb dL_law_1301 (lv_at hl 1 rfl) ?_
    refine lv_iconst (v := nI 1) hx hb dL_law_1303 (by decide) ?_
    refine kn_add hx hb dL_law_1304 ?_
    refine kx_sld (v := q1) hx hb hXs hbl hbA hS (by omega) hN9 hq1 dL_law_1305 ?_
    refine kx_retM (va_runV (As := [.int q1]) (rest := []) ⟨hx, hb, hml, hown, hts⟩ (k_X8_depth l D cs (L + 360) z q1 hZ) (cwV 1 hts gL_law_X8_depth rfl rfl rfl (by decide +kernel) ⟨Nat.le_of_ble_eq_true rfl, Nat.le_of_ble_eq_true rfl⟩) (kx_preV hK hN hMd.1 rfl hMd) rfl rfl hl.1 rfl (lv_room (Nat.le_of_ble_eq_true rfl)) dL_law_1306 ⟨hr1.1, hr1.2⟩) hS (fun q _ h => by have h3 := h.1; show L ≤ q; omega) (fun q h => by have h3 := h.1; show L ≤ q; omega) (fun H locs hP hk hS => ?_)
    have hHr := hHr.keepR (H1 := H) (fun q h1 h2 => hk.2 q (by omega) (fun h => by have h3 := h.1; have h4 := h.2; omega))
    have hOu := hOu.kept (hk.2 _ hOu.lt (fun h => by have h3 := h.1; have h4 := h.2; omega))
    have hsz : L + 368 ≤ H.size := Nat.le_trans hsz hk.1
    clear hk
    have hMd : MdC D (cs 0) (L + 360) (upd z 4403 (nI 1)) H := (by have q9 := hP; rw [hw, if_neg (by decide)] at q9; exact q9)
    refine kx_ci (y := nI 0) (if_neg (by rw [hw]; decide)) ?_
    refine lv_istore (lv' := [(6, .int (nI 0)), (5, .int (nI 1)), (4, .int (nI i)), (0, .ref bs), (1, .ref L), (2, .ref (L + 360)), (3, .ref (L + 367))]) hx hb dL_law_1309 hl (by decide) rfl (fun ls hl => ?_)
    refine lv_aload_n hx hb dL_law_1311 rfl (lv_at hl 5 rfl) ?_
    refine kx_retP (va_runV (As := []) (rest := []) ⟨hx, hb, hml, hown, hts⟩ (k_X8_thrown l D cs (L + 360) (upd z 4403 (nI 1))) (cwV 0 hts gL_law_X8_thrown rfl rfl rfl (by decide +kernel) ⟨Nat.le_of_ble_eq_true rfl, Nat.le_of_ble_eq_true rfl⟩) (kx_preV hK hN hMd.1 rfl hMd) rfl rfl hl.1 rfl (lv_room (Nat.le_of_ble_eq_true rfl)) dL_law_1312 ⟨hr1.1, hr1.2⟩) ?_
    refine kx_ci (y := nI 1) (th_thr _) ?_
    refine lv_iload hx hb dL_law_1315 (lv_at hl 1 rfl) ?_
    refine lv_icmp_eq (tgt := 1322) hx hb dL_law_1317 (by decide) (fun _ => ?_) (fun h9 => absurd rfl h9)
    refine lv_iload hx hb dL_law_1322 (lv_at hl 1 rfl) ?_
    refine lv_if_ne (tgt := 1339) hx hb dL_law_1324 (by decide) (fun _ => ?_) (fun h9 => absurd h9 (by decide))
    refine lv_goto (tgt := 1607) hx hb dL_law_1339 (by decide) ?_
    exact K _ _ _ _ _ ⟨upd z 4403 (nI 1), _, _, _, _, _, _, _, _, _, _, k9, _, _, _, _, hHr, hOu, hMd, hRA.thr _, hk8, hsz⟩ hS (Nat.le_refl _) (Nat.le_refl _) (lv_sub hl [2, 3, 4, 5, 6] rfl)
