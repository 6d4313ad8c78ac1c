/-! the law's calls, kinds 19 to 22 -/
set_option maxHeartbeats 2500000 in
set_option maxRecDepth 100000 in
theorem cs_finalValue {p : Program} {l : Launch} {en : Env} {s : State} {m : MethodId} {below : List Frame} {meth : Method} {c : Code} {D : va_G} {cs : Nat → ClassId} {L : Nat} {aW aS aV : Nat → Nat} {tW tM bs N : Nat} {xs : Nat → Int32} {Q : State → Prop} (G : LwG p l s m c D cs L aW aS aV tW tM bs N xs) {i : Nat} (hi : i + 6 ≤ N) {H : Heap} {locs : List Loc} {cells slots : Nat} (hr : cells + 1 ≤ 601024 ∧ slots + 6 ≤ 7293034) (W0 : LwD D cs L aW H) (hS : va_S (fun q : Nat => L ≤ q) s.heap H locs) {ls : Array Slot} (hl : lv_has ls 8 [(4, .int (nI i)), (0, .ref bs), (1, .ref L), (2, .ref (L + 360)), (3, .ref (L + 367))])
  (K : ∀ (H : Heap) (locs : List Loc) (c1 s1 : Nat) (ls : Array Slot), LwD D cs L aW H → va_S (fun q : Nat => L ≤ q) s.heap H locs → c1 ≤ cells + 1 → s1 ≤ slots + 6 → lv_has ls 8 [(4, .int (nI i)), (0, .ref bs), (1, .ref L), (2, .ref (L + 360)), (3, .ref (L + 367))] → W p l en room_1 s m #[Value.ref bs] below meth c H locs c1 s1 Q (F0 m 1607 ls [])) :
  W p l en room_1 s m #[Value.ref bs] below meth c H locs cells slots Q (F0 m 1342 ls []) := by
  obtain ⟨hx, hb, hml, hown, hts, hK, hN, hKW0, hXK0, hXN, hXs, hbl, hLs, hN9, hfl⟩ := G
  obtain ⟨z, e, g, e1, g1, nx, cn, se, sg, bt, nn9, k9, ln, pa, ft, f, hHr, hOu, hMd, hRA, hk8, hsz⟩ := W0
  have hbA : ¬ (fun q : Nat => L ≤ q) bs := by show ¬ L ≤ bs; omega
  have hr0 : cells + 0 ≤ room_1.cells ∧ slots + 0 ≤ room_1.slots := ⟨by show cells + 0 ≤ 601024; omega, by show slots + 0 ≤ 7293034; omega⟩
  have hr1 : cells + 1 ≤ room_1.cells ∧ slots + 6 ≤ room_1.slots := hr
  have hI := ev_R hRA.1
  have hG := hRA.2.1
  have hnx := hRA.2.2.1.1.2.1
  have hcn := hRA.2.2.1.1.2.2
  have hZ := hRA.invZ
  have hl150 := hRA.2.2.2.2.1
  have hsv0 := ra_sv hRA
  have hEI := hRA.1
  have hRR := EI.R hRA.1
  have hMM := EI.M hRA.1
  have hTl := hRA.tl
  have hSv := hRA.sv
  have h24 := hI.M24
  have h6 := hI.R6
  have hXK := hXK0.kept (H1 := H) (fun a h1 h2 => hS.2.1 a h1 h2)
  have hKW := hKW0.kept (H1 := H) (fun a h1 h2 => hS.2.1 a h1 h2)
  obtain ⟨q1, hq1⟩ : ∃ q : Int32, q = xs (i + 1) := ⟨_, rfl⟩
  rcases cw_c (x := q1) with hw | hw
  · obtain ⟨r, hr48, rfl⟩ := cw_0 hw
    refine lv_aload_n hx hb dL_law_1342 rfl (lv_at hl 2 rfl) ?_
    refine lv_aload_n hx hb dL_law_1343 rfl (lv_at hl 1 rfl) ?_
    refine lv_iload hx hb dL_law_1344 (lv_at hl 0 rfl) ?_
    refine lv_iconst (v := nI 1) hx hb dL_law_1346 (by decide) ?_
    refine kn_add hx hb dL_law_1347 ?_
    refine kx_sld (v := nI r) hx hb hXs hbl hbA hS (by omega) hN9 hq1 dL_law_1348 ?_
    refine lv_aload_n hx hb dL_law_1349 rfl (lv_at hl 4 rfl) ?_
    refine kx_retM (vx_runSW (As := [.ref L, .int (nI r), .ref (L + 367)]) (rest := []) ⟨hx, hb, hml, hown, hts⟩ (k_L_finalValue l D cs L e g e1 g1 nx cn se sg bt nn9 (aW k9) ln pa ft r hI hr48 (L + 367) f (by omega) L (Nat.le_refl L) hfl) (vx_cwSW 3 hts gL_law_L_finalValue rfl rfl rfl (by decide +kernel) ⟨Nat.le_of_ble_eq_true rfl, Nat.le_of_ble_eq_true rfl⟩) (kx_preY hK hN hXK hXN ⟨hHr, hOu⟩) rfl rfl hl.1 rfl (lv_room (Nat.le_of_ble_eq_true rfl)) dL_law_1350 hr0) hS (fun q _ h => rg_lo h) (fun q h => rg_lo h) (fun H locs hP hk hS => ?_)
    obtain ⟨hHr, hOu⟩ := hP
    have hHr : HrC D cs L e g (fnF (cfF e1 e)) (cgM g1 g (Mn e)) nx cn se sg bt nn9 (aW k9) ln pa ft H := hHr
    have hMd := hMd.frame hk (fun q h1 h2 h => by rcases h with h | h <;> omega)
    have hsz : L + 368 ≤ H.size := Nat.le_trans hsz hk.1
    clear hk hXK hKW
    refine lv_istore (lv' := [(5, .int (nI 0)), (4, .int (nI i)), (0, .ref bs), (1, .ref L), (2, .ref (L + 360)), (3, .ref (L + 367))]) hx hb dL_law_1353 hl (by decide) rfl (fun ls hl => ?_)
    refine lv_aload_n hx hb dL_law_1355 rfl (lv_at hl 4 rfl) ?_
    refine lv_aload_n hx hb dL_law_1356 rfl (lv_at hl 2 rfl) ?_
    refine lv_iload hx hb dL_law_1357 (lv_at hl 1 rfl) ?_
    refine lv_iconst (v := nI 1) hx hb dL_law_1359 (by decide) ?_
    refine kn_add hx hb dL_law_1360 ?_
    refine kx_sld (v := nI r) hx hb hXs hbl hbA hS (by omega) hN9 hq1 dL_law_1361 ?_
    refine kx_retM (va_runV (As := [.int (nI r)]) (rest := []) ⟨hx, hb, hml, hown, hts⟩ (k_X8_finalValue l D cs (L + 360) z (nI r) hZ) (cwV 1 hts gL_law_X8_finalValue rfl rfl rfl (by decide +kernel) ⟨Nat.le_of_ble_eq_true rfl, Nat.le_of_ble_eq_true rfl⟩) (kx_preV hK hN hMd.1 rfl hMd) rfl rfl hl.1 rfl (lv_room (Nat.le_of_ble_eq_true rfl)) dL_law_1362 hr0) hS (fun q _ h => by have h3 := h.1; show L ≤ q; omega) (fun q h => by have h3 := h.1; show L ≤ q; omega) (fun H locs hP hk hS => ?_)
    have hHr := hHr.keepR (H1 := H) (fun q h1 h2 => hk.2 q (by omega) (fun h => by have h3 := h.1; have h4 := h.2; omega))
    have hOu := hOu.kept (hk.2 _ hOu.lt (fun h => by have h3 := h.1; have h4 := h.2; omega))
    have hsz : L + 368 ≤ H.size := Nat.le_trans hsz hk.1
    clear hk
    have hMd : MdC D (cs 0) (L + 360) (cpZ (finF (kpt z)) 704 0) H := (by have q9 := hP; rw [if_pos hw] at q9; exact q9)
    refine kx_ci (y := fnF (cfF e1 e) (8 + r)) (by rw [if_pos hw, nn_nI (by omega), ev_fin hEI e1 hr48]) ?_
    refine lv_istore (lv' := [(6, .int (fnF (cfF e1 e) (8 + r))), (5, .int (nI 0)), (4, .int (nI i)), (0, .ref bs), (1, .ref L), (2, .ref (L + 360)), (3, .ref (L + 367))]) hx hb dL_law_1365 hl (by decide) rfl (fun ls hl => ?_)
    refine lv_aload_n hx hb dL_law_1367 rfl (lv_at hl 5 rfl) ?_
    refine kx_retP (va_runV (As := []) (rest := []) ⟨hx, hb, hml, hown, hts⟩ (k_X8_thrown l D cs (L + 360) (cpZ (finF (kpt z)) 704 0)) (cwV 0 hts gL_law_X8_thrown rfl rfl rfl (by decide +kernel) ⟨Nat.le_of_ble_eq_true rfl, Nat.le_of_ble_eq_true rfl⟩) (kx_preV hK hN hMd.1 rfl hMd) rfl rfl hl.1 rfl (lv_room (Nat.le_of_ble_eq_true rfl)) dL_law_1368 hr0) ?_
    refine kx_ci (y := nI 0) (dg_thr (dg_y hEI.2)) ?_
    refine lv_iload hx hb dL_law_1371 (lv_at hl 1 rfl) ?_
    refine lv_icmp_eq (tgt := 1378) hx hb dL_law_1373 (by decide) (fun _ => ?_) (fun h9 => absurd rfl h9)
    refine lv_iload hx hb dL_law_1378 (lv_at hl 1 rfl) ?_
    refine lv_if_ne (tgt := 1395) hx hb dL_law_1380 (by decide) (fun h9 => absurd (show nI 0 = 0 by decide) h9) (fun _ => ?_)
    refine lv_aload_n hx hb dL_law_1383 rfl (lv_at hl 6 rfl) ?_
    refine lv_iconst (v := nI 0) hx hb dL_law_1384 (by decide) ?_
    refine kx_lald hx hb hK hOu 5 rfl (i := 0) (by decide) (by decide) dL_law_1385 ?_
    refine kx_cl (y := (fnF (cfF e1 e) (8 + r)).toInt64) (vp_upd0 _ _) ?_
    refine lv_iload hx hb dL_law_1386 (lv_at hl 0 rfl) ?_
    refine lv_i2l hx hb dL_law_1388 rfl ?_
    refine W.lcmp hx hb dL_law_1389 ?_
    refine kl_if_eq (tgt := 1395) hx hb dL_law_1390 (by decide) (fun _ => ?_) (fun h9 => absurd rfl h9)
    refine lv_goto (tgt := 1607) hx hb dL_law_1395 (by decide) ?_
    exact K _ _ _ _ _ ⟨cpZ (finF (kpt z)) 704 0, _, _, _, _, _, _, _, _, _, _, k9, _, _, _, _, hHr, hOu, hMd, hRA.fin, hk8, hsz⟩ hS (Nat.le_add_right _ _) (Nat.le_add_right _ _) (lv_sub hl [2, 3, 4, 5, 6] rfl)
  · have hwe := cw_1 hw
    refine lv_aload_n hx hb dL_law_1342 rfl (lv_at hl 2 rfl) ?_
    refine lv_aload_n hx hb dL_law_1343 rfl (lv_at hl 1 rfl) ?_
    refine lv_iload hx hb dL_law_1344 (lv_at hl 0 rfl) ?_
    refine lv_iconst (v := nI 1) hx hb dL_law_1346 (by decide) ?_
    refine kn_add hx hb dL_law_1347 ?_
    refine kx_sld (v := q1) hx hb hXs hbl hbA hS (by omega) hN9 hq1 dL_law_1348 ?_
    refine lv_aload_n hx hb dL_law_1349 rfl (lv_at hl 4 rfl) ?_
    refine kx_retN (vx_runSW (As := [.ref L, .int q1, .ref (L + 367)]) (rest := []) ⟨hx, hb, hml, hown, hts⟩ (k_L_finalValueT l D cs L e g e1 g1 nx cn se sg bt nn9 (aW k9) ln pa ft q1 hwe (L + 367) f (by omega) L (Nat.le_refl L) hfl) (vx_cwSW 3 hts gL_law_L_finalValue rfl rfl rfl (by decide +kernel) ⟨Nat.le_of_ble_eq_true rfl, Nat.le_of_ble_eq_true rfl⟩) (kx_preY hK hN hXK hXN ⟨hHr, hOu⟩) rfl rfl hl.1 rfl (lv_room (Nat.le_of_ble_eq_true rfl)) dL_law_1350 hr1) hS (fun q _ h => rg_lo h) (fun q h => rg_lo h) (fun H locs hP hk hS => ?_)
    obtain ⟨hHr, hOu⟩ := hP
    have hHr : HrC D cs L e g e1 g1 nx cn se sg bt nn9 (aW k9) ln pa ft H := hHr
    have hMd := hMd.frame hk (fun q h1 h2 h => by rcases h with h | h <;> omega)
    have hsz : L + 368 ≤ H.size := Nat.le_trans hsz hk.1
    clear hk hXK hKW
    refine lv_istore (lv' := [(5, .int (nI 1)), (4, .int (nI i)), (0, .ref bs), (1, .ref L), (2, .ref (L + 360)), (3, .ref (L + 367))]) hx hb dL_law_1353 hl (by decide) rfl (fun ls hl => ?_)
    refine lv_aload_n hx hb dL_law_1355 rfl (lv_at hl 4 rfl) ?_
    refine lv_aload_n hx hb dL_law_1356 rfl (lv_at hl 2 rfl) ?_
    refine lv_iload hx hb dL_law_1357 (lv_at hl 1 rfl) ?_
    refine lv_iconst (v := nI 1) hx hb dL_law_1359 (by decide) ?_
    refine kn_add hx hb dL_law_1360 ?_
    refine kx_sld (v := q1) hx hb hXs hbl hbA hS (by omega) hN9 hq1 dL_law_1361 ?_
    refine kx_retM (va_runV (As := [.int q1]) (rest := []) ⟨hx, hb, hml, hown, hts⟩ (k_X8_finalValue l D cs (L + 360) z q1 hZ) (cwV 1 hts gL_law_X8_finalValue rfl rfl rfl (by decide +kernel) ⟨Nat.le_of_ble_eq_true rfl, Nat.le_of_ble_eq_true rfl⟩) (kx_preV hK hN hMd.1 rfl hMd) rfl rfl hl.1 rfl (lv_room (Nat.le_of_ble_eq_true rfl)) dL_law_1362 ⟨hr1.1, hr1.2⟩) hS (fun q _ h => by have h3 := h.1; show L ≤ q; omega) (fun q h => by have h3 := h.1; show L ≤ q; omega) (fun H locs hP hk hS => ?_)
    have hHr := hHr.keepR (H1 := H) (fun q h1 h2 => hk.2 q (by omega) (fun h => by have h3 := h.1; have h4 := h.2; omega))
    have hOu := hOu.kept (hk.2 _ hOu.lt (fun h => by have h3 := h.1; have h4 := h.2; omega))
    have hsz : L + 368 ≤ H.size := Nat.le_trans hsz hk.1
    clear hk
    have hMd : MdC D (cs 0) (L + 360) (upd z 4403 (nI 1)) H := (by have q9 := hP; rw [hw, if_neg (by decide)] at q9; exact q9)
    refine kx_ci (y := nI 0) (if_neg (by rw [hw]; decide)) ?_
    refine lv_istore (lv' := [(6, .int (nI 0)), (5, .int (nI 1)), (4, .int (nI i)), (0, .ref bs), (1, .ref L), (2, .ref (L + 360)), (3, .ref (L + 367))]) hx hb dL_law_1365 hl (by decide) rfl (fun ls hl => ?_)
    refine lv_aload_n hx hb dL_law_1367 rfl (lv_at hl 5 rfl) ?_
    refine kx_retP (va_runV (As := []) (rest := []) ⟨hx, hb, hml, hown, hts⟩ (k_X8_thrown l D cs (L + 360) (upd z 4403 (nI 1))) (cwV 0 hts gL_law_X8_thrown rfl rfl rfl (by decide +kernel) ⟨Nat.le_of_ble_eq_true rfl, Nat.le_of_ble_eq_true rfl⟩) (kx_preV hK hN hMd.1 rfl hMd) rfl rfl hl.1 rfl (lv_room (Nat.le_of_ble_eq_true rfl)) dL_law_1368 ⟨hr1.1, hr1.2⟩) ?_
    refine kx_ci (y := nI 1) (th_thr _) ?_
    refine lv_iload hx hb dL_law_1371 (lv_at hl 1 rfl) ?_
    refine lv_icmp_eq (tgt := 1378) hx hb dL_law_1373 (by decide) (fun _ => ?_) (fun h9 => absurd rfl h9)
    refine lv_iload hx hb dL_law_1378 (lv_at hl 1 rfl) ?_
    refine lv_if_ne (tgt := 1395) hx hb dL_law_1380 (by decide) (fun _ => ?_) (fun h9 => absurd h9 (by decide))
    refine lv_goto (tgt := 1607) hx hb dL_law_1395 (by decide) ?_
    exact K _ _ _ _ _ ⟨upd z 4403 (nI 1), _, _, _, _, _, _, _, _, _, _, k9, _, _, _, _, hHr, hOu, hMd, hRA.thr _, hk8, hsz⟩ hS (Nat.le_refl _) (Nat.le_refl _) (lv_sub hl [2, 3, 4, 5, 6] rfl)
set_option maxHeartbeats 2500000 in
set_option maxRecDepth 100000 in
theorem cs_copiedIn {p : Program} {l : Launch} {en : Env} {s : State} {m : MethodId} {below : List Frame} {meth : Method} {c : Code} {D : va_G} {cs : Nat → ClassId} {L : Nat} {aW aS aV : Nat → Nat} {tW tM bs N : Nat} {xs : Nat → Int32} {Q : State → Prop} (G : LwG p l s m c D cs L aW aS aV tW tM bs N xs) {i : Nat} (hi : i + 6 ≤ N) {H : Heap} {locs : List Loc} {cells slots : Nat} (hr : cells + 1 ≤ 601024 ∧ slots + 6 ≤ 7293034) (W0 : LwD D cs L aW H) (hS : va_S (fun q : Nat => L ≤ q) s.heap H locs) {ls : Array Slot} (hl : lv_has ls 8 [(4, .int (nI i)), (0, .ref bs), (1, .ref L), (2, .ref (L + 360)), (3, .ref (L + 367))])
  (K : ∀ (H : Heap) (locs : List Loc) (c1 s1 : Nat) (ls : Array Slot), LwD D cs L aW H → va_S (fun q : Nat => L ≤ q) s.heap H locs → c1 ≤ cells + 1 → s1 ≤ slots + 6 → lv_has ls 8 [(4, .int (nI i)), (0, .ref bs), (1, .ref L), (2, .ref (L + 360)), (3, .ref (L + 367))] → W p l en room_1 s m #[Value.ref bs] below meth c H locs c1 s1 Q (F0 m 1607 ls [])) :
  W p l en room_1 s m #[Value.ref bs] below meth c H locs cells slots Q (F0 m 1398 ls []) := by
  obtain ⟨hx, hb, hml, hown, hts, hK, hN, hKW0, hXK0, hXN, hXs, hbl, hLs, hN9, hfl⟩ := G
  obtain ⟨z, e, g, e1, g1, nx, cn, se, sg, bt, nn9, k9, ln, pa, ft, f, hHr, hOu, hMd, hRA, hk8, hsz⟩ := W0
  have hbA : ¬ (fun q : Nat => L ≤ q) bs := by show ¬ L ≤ bs; omega
  have hr0 : cells + 0 ≤ room_1.cells ∧ slots + 0 ≤ room_1.slots := ⟨by show cells + 0 ≤ 601024; omega, by show slots + 0 ≤ 7293034; omega⟩
  have hr1 : cells + 1 ≤ room_1.cells ∧ slots + 6 ≤ room_1.slots := hr
  have hI := ev_R hRA.1
  have hG := hRA.2.1
  have hnx := hRA.2.2.1.1.2.1
  have hcn := hRA.2.2.1.1.2.2
  have hZ := hRA.invZ
  have hl150 := hRA.2.2.2.2.1
  have hsv0 := ra_sv hRA
  have hEI := hRA.1
  have hRR := EI.R hRA.1
  have hMM := EI.M hRA.1
  have hTl := hRA.tl
  have hSv := hRA.sv
  have h24 := hI.M24
  have h6 := hI.R6
  have hXK := hXK0.kept (H1 := H) (fun a h1 h2 => hS.2.1 a h1 h2)
  have hKW := hKW0.kept (H1 := H) (fun a h1 h2 => hS.2.1 a h1 h2)
  obtain ⟨q1, hq1⟩ : ∃ q : Int32, q = xs (i + 1) := ⟨_, rfl⟩
  rcases mw_c (z := z) (x := q1) with hw | hw
  · obtain ⟨r, hrR, rfl⟩ := mw_0 hEI.2 hw
    refine lv_aload_n hx hb dL_law_1398 rfl (lv_at hl 2 rfl) ?_
    refine lv_aload_n hx hb dL_law_1399 rfl (lv_at hl 1 rfl) ?_
    refine lv_iload hx hb dL_law_1400 (lv_at hl 0 rfl) ?_
    refine lv_iconst (v := nI 1) hx hb dL_law_1402 (by decide) ?_
    refine kn_add hx hb dL_law_1403 ?_
    refine kx_sld (v := nI r) hx hb hXs hbl hbA hS (by omega) hN9 hq1 dL_law_1404 ?_
    refine lv_aload_n hx hb dL_law_1405 rfl (lv_at hl 4 rfl) ?_
    refine kx_retM (vx_runSW (As := [.ref L, .int (nI r), .ref (L + 367)]) (rest := []) ⟨hx, hb, hml, hown, hts⟩ (k_L_copiedIn l D cs L e g e1 g1 nx cn se sg bt nn9 (aW k9) ln pa ft r hI hG (by omega) (L + 367) f (by omega) L (Nat.le_refl L) hfl) (vx_cwSW 3 hts gL_law_L_copiedIn rfl rfl rfl (by decide +kernel) ⟨Nat.le_of_ble_eq_true rfl, Nat.le_of_ble_eq_true rfl⟩) (kx_preY hK hN hXK hXN ⟨hHr, hOu⟩) rfl rfl hl.1 rfl (lv_room (Nat.le_of_ble_eq_true rfl)) dL_law_1406 hr0) hS (fun q _ h => rg_lo h) (fun q h => rg_lo h) (fun H locs hP hk hS => ?_)
    obtain ⟨e1', g1', hHr, hOu⟩ := hP
    have hHr : HrC D cs L e g e1' g1' nx cn se sg bt nn9 (aW k9) ln pa ft H := hHr
    have hMd := hMd.frame hk (fun q h1 h2 h => by rcases h with h | h <;> omega)
    have hsz : L + 368 ≤ H.size := Nat.le_trans hsz hk.1
    clear hk hXK hKW
    refine lv_istore (lv' := [(5, .int (nI 0)), (4, .int (nI i)), (0, .ref bs), (1, .ref L), (2, .ref (L + 360)), (3, .ref (L + 367))]) hx hb dL_law_1409 hl (by decide) rfl (fun ls hl => ?_)
    refine lv_aload_n hx hb dL_law_1411 rfl (lv_at hl 4 rfl) ?_
    refine lv_aload_n hx hb dL_law_1412 rfl (lv_at hl 2 rfl) ?_
    refine lv_iload hx hb dL_law_1413 (lv_at hl 1 rfl) ?_
    refine lv_iconst (v := nI 1) hx hb dL_law_1415 (by decide) ?_
    refine kn_add hx hb dL_law_1416 ?_
    refine kx_sld (v := nI r) hx hb hXs hbl hbA hS (by omega) hN9 hq1 dL_law_1417 ?_
    refine kx_retM (va_runV (As := [.int (nI r)]) (rest := []) ⟨hx, hb, hml, hown, hts⟩ (k_X8_copiedIn l D cs (L + 360) z (nI r) hZ) (cwV 1 hts gL_law_X8_copiedIn rfl rfl rfl (by decide +kernel) ⟨Nat.le_of_ble_eq_true rfl, Nat.le_of_ble_eq_true rfl⟩) (kx_preV hK hN hMd.1 rfl hMd) rfl rfl hl.1 rfl (lv_room (Nat.le_of_ble_eq_true rfl)) dL_law_1418 hr0) hS (fun q _ h => by have h3 := h.1; show L ≤ q; omega) (fun q h => by have h3 := h.1; show L ≤ q; omega) (fun H locs hP hk hS => ?_)
    have hHr := hHr.keepR (H1 := H) (fun q h1 h2 => hk.2 q (by omega) (fun h => by have h3 := h.1; have h4 := h.2; omega))
    have hOu := hOu.kept (hk.2 _ hOu.lt (fun h => by have h3 := h.1; have h4 := h.2; omega))
    have hsz : L + 368 ≤ H.size := Nat.le_trans hsz hk.1
    clear hk
    have hMd : MdC D (cs 0) (L + 360) (cpZ (psF (kpt z) (ciK z r)) 704 0) H := (by have q9 := hP; rw [if_pos hw, nn_nI (by omega)] at q9; exact q9)
    refine kx_ci (y := ctI (cfF e1 e) r) (by rw [if_pos hw, nn_nI (by omega), hRA.ci e1 hrR]) ?_
    refine lv_istore (lv' := [(6, .int (ctI (cfF e1 e) r)), (5, .int (nI 0)), (4, .int (nI i)), (0, .ref bs), (1, .ref L), (2, .ref (L + 360)), (3, .ref (L + 367))]) hx hb dL_law_1421 hl (by decide) rfl (fun ls hl => ?_)
    refine lv_aload_n hx hb dL_law_1423 rfl (lv_at hl 5 rfl) ?_
    refine kx_retP (va_runV (As := []) (rest := []) ⟨hx, hb, hml, hown, hts⟩ (k_X8_thrown l D cs (L + 360) (cpZ (psF (kpt z) (ciK z r)) 704 0)) (cwV 0 hts gL_law_X8_thrown rfl rfl rfl (by decide +kernel) ⟨Nat.le_of_ble_eq_true rfl, Nat.le_of_ble_eq_true rfl⟩) (kx_preV hK hN hMd.1 rfl hMd) rfl rfl hl.1 rfl (lv_room (Nat.le_of_ble_eq_true rfl)) dL_law_1424 hr0) ?_
    refine kx_ci (y := nI 0) (dg_thr (dg_ps hEI.2 _)) ?_
    refine lv_iload hx hb dL_law_1427 (lv_at hl 1 rfl) ?_
    refine lv_icmp_eq (tgt := 1434) hx hb dL_law_1429 (by decide) (fun _ => ?_) (fun h9 => absurd rfl h9)
    refine lv_iload hx hb dL_law_1434 (lv_at hl 1 rfl) ?_
    refine lv_if_ne (tgt := 1451) hx hb dL_law_1436 (by decide) (fun h9 => absurd (show nI 0 = 0 by decide) h9) (fun _ => ?_)
    refine lv_aload_n hx hb dL_law_1439 rfl (lv_at hl 6 rfl) ?_
    refine lv_iconst (v := nI 0) hx hb dL_law_1440 (by decide) ?_
    refine kx_lald hx hb hK hOu 5 rfl (i := 0) (by decide) (by decide) dL_law_1441 ?_
    refine kx_cl (y := (ctI (cfF e1 e) r).toInt64) (vp_upd0 _ _) ?_
    refine lv_iload hx hb dL_law_1442 (lv_at hl 0 rfl) ?_
    refine lv_i2l hx hb dL_law_1444 rfl ?_
    refine W.lcmp hx hb dL_law_1445 ?_
    refine kl_if_eq (tgt := 1451) hx hb dL_law_1446 (by decide) (fun _ => ?_) (fun h9 => absurd rfl h9)
    refine lv_goto (tgt := 1607) hx hb dL_law_1451 (by decide) ?_
    exact K _ _ _ _ _ ⟨cpZ (psF (kpt z) (ciK z r)) 704 0, _, _, _, _, _, _, _, _, _, _, k9, _, _, _, _, hHr, hOu, hMd, ra_ahead hRA _, hk8, hsz⟩ hS (Nat.le_add_right _ _) (Nat.le_add_right _ _) (lv_sub hl [2, 3, 4, 5, 6] rfl)
  · have hwe := mw_1 hw
    refine lv_aload_n hx hb dL_law_1398 rfl (lv_at hl 2 rfl) ?_
    refine lv_aload_n hx hb dL_law_1399 rfl (lv_at hl 1 rfl) ?_
    refine lv_iload hx hb dL_law_1400 (lv_at hl 0 rfl) ?_
    refine lv_iconst (v := nI 1) hx hb dL_law_1402 (by decide) ?_
    refine kn_add hx hb dL_law_1403 ?_
    refine kx_sld (v := q1) hx hb hXs hbl hbA hS (by omega) hN9 hq1 dL_law_1404 ?_
    refine lv_aload_n hx hb dL_law_1405 rfl (lv_at hl 4 rfl) ?_
    refine kx_retN (vx_runSW (As := [.ref L, .int q1, .ref (L + 367)]) (rest := []) ⟨hx, hb, hml, hown, hts⟩ (k_L_copiedInT1 l D cs L e g e1 g1 nx cn se sg bt nn9 (aW k9) ln pa ft q1 hI (by rw [hMM]; exact hwe) (L + 367) f (by omega) L (Nat.le_refl L) hfl) (vx_cwSW 3 hts gL_law_L_copiedIn rfl rfl rfl (by decide +kernel) ⟨Nat.le_of_ble_eq_true rfl, Nat.le_of_ble_eq_true rfl⟩) (kx_preY hK hN hXK hXN ⟨hHr, hOu⟩) rfl rfl hl.1 rfl (lv_room (Nat.le_of_ble_eq_true rfl)) dL_law_1406 hr1) hS (fun q _ h => rg_lo h) (fun q h => rg_lo h) (fun H locs hP hk hS => ?_)
    obtain ⟨hHr, hOu⟩ := hP
    have hHr : HrC D cs L e g e1 g1 nx cn se sg bt nn9 (aW k9) ln pa ft H := hHr
    have hMd := hMd.frame hk (fun q h1 h2 h => by rcases h with h | h <;> omega)
    have hsz : L + 368 ≤ H.size := Nat.le_trans hsz hk.1
    clear hk hXK hKW
    refine lv_istore (lv' := [(5, .int (nI 1)), (4, .int (nI i)), (0, .ref bs), (1, .ref L), (2, .ref (L + 360)), (3, .ref (L + 367))]) hx hb dL_law_1409 hl (by decide) rfl (fun ls hl => ?_)
    refine lv_aload_n hx hb dL_law_1411 rfl (lv_at hl 4 rfl) ?_
    refine lv_aload_n hx hb dL_law_1412 rfl (lv_at hl 2 rfl) ?_
    refine lv_iload hx hb dL_law_1413 (lv_at hl 1 rfl) ?_
    refine lv_iconst (v := nI 1) hx hb dL_law_1415 (by decide) ?_
    refine kn_add hx hb dL_law_1416 ?_
    refine kx_sld (v := q1) hx hb hXs hbl hbA hS (by omega) hN9 hq1 dL_law_1417 ?_
    refine kx_retM (va_runV (As := [.int q1]) (rest := []) ⟨hx, hb, hml, hown, hts⟩ (k_X8_copiedIn l D cs (L + 360) z q1 hZ) (cwV 1 hts gL_law_X8_copiedIn rfl rfl rfl (by decide +kernel) ⟨Nat.le_of_ble_eq_true rfl, Nat.le_of_ble_eq_true rfl⟩) (kx_preV hK hN hMd.1 rfl hMd) rfl rfl hl.1 rfl (lv_room (Nat.le_of_ble_eq_true rfl)) dL_law_1418 ⟨hr1.1, hr1.2⟩) hS (fun q _ h => by have h3 := h.1; show L ≤ q; omega) (fun q h => by have h3 := h.1; show L ≤ q; omega) (fun H locs hP hk hS => ?_)
    have hHr := hHr.keepR (H1 := H) (fun q h1 h2 => hk.2 q (by omega) (fun h => by have h3 := h.1; have h4 := h.2; omega))
    have hOu := hOu.kept (hk.2 _ hOu.lt (fun h => by have h3 := h.1; have h4 := h.2; omega))
    have hsz : L + 368 ≤ H.size := Nat.le_trans hsz hk.1
    clear hk
    have hMd : MdC D (cs 0) (L + 360) (upd z 4403 (nI 1)) H := (by have q9 := hP; rw [hw, if_neg (by decide)] at q9; exact q9)
    refine kx_ci (y := nI 0) (if_neg (by rw [hw]; decide)) ?_
    refine lv_istore (lv' := [(6, .int (nI 0)), (5, .int (nI 1)), (4, .int (nI i)), (0, .ref bs), (1, .ref L), (2, .ref (L + 360)), (3, .ref (L + 367))]) hx hb dL_law_1421 hl (by decide) rfl (fun ls hl => ?_)
    refine lv_aload_n hx hb dL_law_1423 rfl (lv_at hl 5 rfl) ?_
    refine kx_retP (va_runV (As := []) (rest := []) ⟨hx, hb, hml, hown, hts⟩ (k_X8_thrown l D cs (L + 360) (upd z 4403 (nI 1))) (cwV 0 hts gL_law_X8_thrown rfl rfl rfl (by decide +kernel) ⟨Nat.le_of_ble_eq_true rfl, Nat.le_of_ble_eq_true rfl⟩) (kx_preV hK hN hMd.1 rfl hMd) rfl rfl hl.1 rfl (lv_room (Nat.le_of_ble_eq_true rfl)) dL_law_1424 ⟨hr1.1, hr1.2⟩) ?_
    refine kx_ci (y := nI 1) (th_thr _) ?_
    refine lv_iload hx hb dL_law_1427 (lv_at hl 1 rfl) ?_
    refine lv_icmp_eq (tgt := 1434) hx hb dL_law_1429 (by decide) (fun _ => ?_) (fun h9 => absurd rfl h9)
    refine lv_iload hx hb dL_law_1434 (lv_at hl 1 rfl) ?_
    refine lv_if_ne (tgt := 1451) hx hb dL_law_1436 (by decide) (fun _ => ?_) (fun h9 => absurd h9 (by decide))
    refine lv_goto (tgt := 1607) hx hb dL_law_1451 (by decide) ?_
    exact K _ _ _ _ _ ⟨upd z 4403 (nI 1), _, _, _, _, _, _, _, _, _, _, k9, _, _, _, _, hHr, hOu, hMd, hRA.thr _, hk8, hsz⟩ hS (Nat.le_refl _) (Nat.le_refl _) (lv_sub hl [2, 3, 4, 5, 6] rfl)
set_option maxHeartbeats 2500000 in
set_option maxRecDepth 100000 in
theorem cs_stuck {p : Program} {l : Launch} {en : Env} {s : State} {m : MethodId} {below : List Frame} {meth : Method} {c : Code} {D : va_G} {cs : Nat → ClassId} {L : Nat} {aW aS aV : Nat → Nat} {tW tM bs N : Nat} {xs : Nat → Int32} {Q : State → Prop} (G : LwG p l s m c D cs L aW aS aV tW tM bs N xs) {i : Nat} (hi : i + 6 ≤ N) {H : Heap} {locs : List Loc} {cells slots : Nat} (hr : cells + 1 ≤ 601024 ∧ slots + 6 ≤ 7293034) (W0 : LwD D cs L aW H) (hS : va_S (fun q : Nat => L ≤ q) s.heap H locs) {ls : Array Slot} (hl : lv_has ls 8 [(4, .int (nI i)), (0, .ref bs), (1, .ref L), (2, .ref (L + 360)), (3, .ref (L + 367))])
  (K : ∀ (H : Heap) (locs : List Loc) (c1 s1 : Nat) (ls : Array Slot), LwD D cs L aW H → va_S (fun q : Nat => L ≤ q) s.heap H locs → c1 ≤ cells + 1 → s1 ≤ slots + 6 → lv_has ls 8 [(4, .int (nI i)), (0, .ref bs), (1, .ref L), (2, .ref (L + 360)), (3, .ref (L + 367))] → W p l en room_1 s m #[Value.ref bs] below meth c H locs c1 s1 Q (F0 m 1607 ls [])) :
  W p l en room_1 s m #[Value.ref bs] below meth c H locs cells slots Q (F0 m 1454 ls []) := by
  obtain ⟨hx, hb, hml, hown, hts, hK, hN, hKW0, hXK0, hXN, hXs, hbl, hLs, hN9, hfl⟩ := G
  obtain ⟨z, e, g, e1, g1, nx, cn, se, sg, bt, nn9, k9, ln, pa, ft, f, hHr, hOu, hMd, hRA, hk8, hsz⟩ := W0
  have hbA : ¬ (fun q : Nat => L ≤ q) bs := by show ¬ L ≤ bs; omega
  have hr0 : cells + 0 ≤ room_1.cells ∧ slots + 0 ≤ room_1.slots := ⟨by show cells + 0 ≤ 601024; omega, by show slots + 0 ≤ 7293034; omega⟩
  have hr1 : cells + 1 ≤ room_1.cells ∧ slots + 6 ≤ room_1.slots := hr
  have hI := ev_R hRA.1
  have hG := hRA.2.1
  have hnx := hRA.2.2.1.1.2.1
  have hcn := hRA.2.2.1.1.2.2
  have hZ := hRA.invZ
  have hl150 := hRA.2.2.2.2.1
  have hsv0 := ra_sv hRA
  have hEI := hRA.1
  have hRR := EI.R hRA.1
  have hMM := EI.M hRA.1
  have hTl := hRA.tl
  have hSv := hRA.sv
  have h24 := hI.M24
  have h6 := hI.R6
  have hXK := hXK0.kept (H1 := H) (fun a h1 h2 => hS.2.1 a h1 h2)
  have hKW := hKW0.kept (H1 := H) (fun a h1 h2 => hS.2.1 a h1 h2)
  refine lv_aload_n hx hb dL_law_1454 rfl (lv_at hl 2 rfl) ?_
  refine kx_retM (va_runV (As := []) (rest := []) ⟨hx, hb, hml, hown, hts⟩ (k_X7_stuck l D cs L e g e1 g1 nx cn se sg bt nn9 (aW k9) ln pa ft hI hG) (cwV 0 hts gL_law_X7_stuck rfl rfl rfl (by decide +kernel) ⟨Nat.le_of_ble_eq_true rfl, Nat.le_of_ble_eq_true rfl⟩) (kx_preV hK hN hHr.1 rfl hHr) rfl rfl hl.1 rfl (lv_room (Nat.le_of_ble_eq_true rfl)) dL_law_1455 hr0) hS (fun q _ h => h.1) (fun q h => h.1) (fun H locs hP hk hS => ?_)
  obtain ⟨e1', g1', hHr⟩ := hP
  have hHr : HrC D cs L e g e1' g1' nx cn se sg bt nn9 (aW k9) ln pa ft H := hHr
  have hMd := hMd.frame hk (fun q h1 h2 h => by have h3 := h.1; have h4 := h.2; omega)
  have hOu := hOu.kept (hk.2 _ hOu.lt (fun h => by have h3 := h.1; have h4 := h.2; omega))
  have hsz : L + 368 ≤ H.size := Nat.le_trans hsz hk.1
  clear hk
  refine lv_aload_n hx hb dL_law_1458 rfl (lv_at hl 3 rfl) ?_
  refine kx_retM (va_runV (As := []) (rest := [.int (nI (stI (cfF e1 e) e))]) ⟨hx, hb, hml, hown, hts⟩ (k_X8_stuck l D cs (L + 360) z hZ) (cwV 0 hts gL_law_X8_stuck rfl rfl rfl (by decide +kernel) ⟨Nat.le_of_ble_eq_true rfl, Nat.le_of_ble_eq_true rfl⟩) (kx_preV hK hN hMd.1 rfl hMd) rfl rfl hl.1 rfl (lv_room (Nat.le_of_ble_eq_true rfl)) dL_law_1459 hr0) hS (fun q _ h => by have h3 := h.1; show L ≤ q; omega) (fun q h => by have h3 := h.1; show L ≤ q; omega) (fun H locs hP hk hS => ?_)
  have hHr := hHr.keepR (H1 := H) (fun q h1 h2 => hk.2 q (by omega) (fun h => by have h3 := h.1; have h4 := h.2; omega))
  have hOu := hOu.kept (hk.2 _ hOu.lt (fun h => by have h3 := h.1; have h4 := h.2; omega))
  have hsz : L + 368 ≤ H.size := Nat.le_trans hsz hk.1
  clear hk
  have hMd : MdC D (cs 0) (L + 360) (if skB z = true then cpZ (psF (kpt z) 60) 704 0 else t0 z) H := hP
  refine kx_ci (y := nI (stI (cfF e1 e) e)) (by rw [hRA.sk e1]) ?_
  refine lv_icmp_eq (tgt := 1607) hx hb dL_law_1462 (by decide) (fun _ => ?_) (fun h9 => absurd rfl h9)
  exact K _ _ _ _ _ ⟨if skB z = true then cpZ (psF (kpt z) 60) 704 0 else t0 z, _, _, _, _, _, _, _, _, _, _, k9, _, _, _, _, hHr, hOu, hMd, (by split; exact ra_ahead hRA _; exact ra_t0 hRA), hk8, hsz⟩ hS (Nat.le_add_right _ _) (Nat.le_add_right _ _) (lv_sub hl [0, 1, 2, 3, 4] rfl)
set_option maxHeartbeats 2500000 in
set_option maxRecDepth 100000 in
theorem cs_type {p : Program} {l : Launch} {en : Env} {s : State} {m : MethodId} {below : List Frame} {meth : Method} {c : Code} {D : va_G} {cs : Nat → ClassId} {L : Nat} {aW aS aV : Nat → Nat} {tW tM bs N : Nat} {xs : Nat → Int32} {Q : State → Prop} (G : LwG p l s m c D cs L aW aS aV tW tM bs N xs) {i : Nat} (hi : i + 6 ≤ N) {H : Heap} {locs : List Loc} {cells slots : Nat} (hr : cells + 1 ≤ 601024 ∧ slots + 6 ≤ 7293034) (W0 : LwD D cs L aW H) (hS : va_S (fun q : Nat => L ≤ q) s.heap H locs) {ls : Array Slot} (hl : lv_has ls 8 [(4, .int (nI i)), (0, .ref bs), (1, .ref L), (2, .ref (L + 360)), (3, .ref (L + 367))])
  (K : ∀ (H : Heap) (locs : List Loc) (c1 s1 : Nat) (ls : Array Slot), LwD D cs L aW H → va_S (fun q : Nat => L ≤ q) s.heap H locs → c1 ≤ cells + 1 → s1 ≤ slots + 6 → lv_has ls 8 [(4, .int (nI i)), (0, .ref bs), (1, .ref L), (2, .ref (L + 360)), (3, .ref (L + 367))] → W p l en room_1 s m #[Value.ref bs] below meth c H locs c1 s1 Q (F0 m 1607 ls [])) :
  W p l en room_1 s m #[Value.ref bs] below meth c H locs cells slots Q (F0 m 1467 ls []) := by
  obtain ⟨hx, hb, hml, hown, hts, hK, hN, hKW0, hXK0, hXN, hXs, hbl, hLs, hN9, hfl⟩ := G
  obtain ⟨z, e, g, e1, g1, nx, cn, se, sg, bt, nn9, k9, ln, pa, ft, f, hHr, hOu, hMd, hRA, hk8, hsz⟩ := W0
  have hbA : ¬ (fun q : Nat => L ≤ q) bs := by show ¬ L ≤ bs; omega
  have hr0 : cells + 0 ≤ room_1.cells ∧ slots + 0 ≤ room_1.slots := ⟨by show cells + 0 ≤ 601024; omega, by show slots + 0 ≤ 7293034; omega⟩
  have hr1 : cells + 1 ≤ room_1.cells ∧ slots + 6 ≤ room_1.slots := hr
  have hI := ev_R hRA.1
  have hG := hRA.2.1
  have hnx := hRA.2.2.1.1.2.1
  have hcn := hRA.2.2.1.1.2.2
  have hZ := hRA.invZ
  have hl150 := hRA.2.2.2.2.1
  have hsv0 := ra_sv hRA
  have hEI := hRA.1
  have hRR := EI.R hRA.1
  have hMM := EI.M hRA.1
  have hTl := hRA.tl
  have hSv := hRA.sv
  have h24 := hI.M24
  have h6 := hI.R6
  have hXK := hXK0.kept (H1 := H) (fun a h1 h2 => hS.2.1 a h1 h2)
  have hKW := hKW0.kept (H1 := H) (fun a h1 h2 => hS.2.1 a h1 h2)
  obtain ⟨q1, hq1⟩ : ∃ q : Int32, q = xs (i + 1) := ⟨_, rfl⟩
  rcases tw_c (z := z) (x := q1) with hw | hw | hw
  · obtain ⟨r, hr127, rfl, hlt⟩ := tw_0 (by rw [hTl]; exact hl150) hw
    rw [hTl] at hlt
    refine lv_aload_n hx hb dL_law_1467 rfl (lv_at hl 2 rfl) ?_
    refine lv_aload_n hx hb dL_law_1468 rfl (lv_at hl 1 rfl) ?_
    refine lv_iload hx hb dL_law_1469 (lv_at hl 0 rfl) ?_
    refine lv_iconst (v := nI 1) hx hb dL_law_1471 (by decide) ?_
    refine kn_add hx hb dL_law_1472 ?_
    refine kx_sld (v := nI r) hx hb hXs hbl hbA hS (by omega) hN9 hq1 dL_law_1473 ?_
    refine lv_aload_n hx hb dL_law_1474 rfl (lv_at hl 4 rfl) ?_
    refine kx_retM (vx_runSW (As := [.ref L, .int (nI r), .ref (L + 367)]) (rest := []) ⟨hx, hb, hml, hown, hts⟩ (k_L_type l D cs L e g e1 g1 nx cn se sg bt nn9 (aW k9) ln pa ft r hr127 hlt (L + 367) f (by omega) L (Nat.le_refl L) hfl) (vx_cwSW 3 hts gL_law_L_type rfl rfl rfl (by decide +kernel) ⟨Nat.le_of_ble_eq_true rfl, Nat.le_of_ble_eq_true rfl⟩) (kx_preY hK hN hXK hXN ⟨hHr, hOu⟩) rfl rfl hl.1 rfl (lv_room (Nat.le_of_ble_eq_true rfl)) dL_law_1475 hr0) hS (fun q _ h => rg_lo h) (fun q h => rg_lo h) (fun H locs hP hk hS => ?_)
    obtain ⟨hHr, hOu⟩ := hP
    have hHr : HrC D cs L e g e1 g1 nx cn se sg (upd bt ln (nI r)) nn9 (aW k9) (ln + 1) pa ft H := hHr
    have hMd := hMd.frame hk (fun q h1 h2 h => by rcases h with h | h <;> omega)
    have hsz : L + 368 ≤ H.size := Nat.le_trans hsz hk.1
    clear hk hXK hKW
    refine lv_istore (lv' := [(5, .int (nI 0)), (4, .int (nI i)), (0, .ref bs), (1, .ref L), (2, .ref (L + 360)), (3, .ref (L + 367))]) hx hb dL_law_1478 hl (by decide) rfl (fun ls hl => ?_)
    refine lv_aload_n hx hb dL_law_1480 rfl (lv_at hl 4 rfl) ?_
    refine lv_aload_n hx hb dL_law_1481 rfl (lv_at hl 2 rfl) ?_
    refine lv_iload hx hb dL_law_1482 (lv_at hl 1 rfl) ?_
    refine lv_iconst (v := nI 1) hx hb dL_law_1484 (by decide) ?_
    refine kn_add hx hb dL_law_1485 ?_
    refine kx_sld (v := nI r) hx hb hXs hbl hbA hS (by omega) hN9 hq1 dL_law_1486 ?_
    refine kx_retM (va_runV (As := [.int (nI r)]) (rest := []) ⟨hx, hb, hml, hown, hts⟩ (k_X8_type l D cs (L + 360) z (nI r) hZ) (cwV 1 hts gL_law_X8_type rfl rfl rfl (by decide +kernel) ⟨Nat.le_of_ble_eq_true rfl, Nat.le_of_ble_eq_true rfl⟩) (kx_preV hK hN hMd.1 rfl hMd) rfl rfl hl.1 rfl (lv_room (Nat.le_of_ble_eq_true rfl)) dL_law_1487 hr0) hS (fun q _ h => by have h3 := h.1; show L ≤ q; omega) (fun q h => by have h3 := h.1; show L ≤ q; omega) (fun H locs hP hk hS => ?_)
    have hHr := hHr.keepR (H1 := H) (fun q h1 h2 => hk.2 q (by omega) (fun h => by have h3 := h.1; have h4 := h.2; omega))
    have hOu := hOu.kept (hk.2 _ hOu.lt (fun h => by have h3 := h.1; have h4 := h.2; omega))
    have hsz : L + 368 ≤ H.size := Nat.le_trans hsz hk.1
    clear hk
    have hMd : MdC D (cs 0) (L + 360) (tyF z (nI r)) H := (by have q9 := hP; rw [if_pos hw] at q9; exact q9)
    refine kx_ci (y := nI (ln + 1)) (by rw [if_pos hw, hTl]) ?_
    refine lv_istore (lv' := [(6, .int (nI (ln + 1))), (5, .int (nI 0)), (4, .int (nI i)), (0, .ref bs), (1, .ref L), (2, .ref (L + 360)), (3, .ref (L + 367))]) hx hb dL_law_1490 hl (by decide) rfl (fun ls hl => ?_)
    refine lv_aload_n hx hb dL_law_1492 rfl (lv_at hl 5 rfl) ?_
    refine kx_retP (va_runV (As := []) (rest := []) ⟨hx, hb, hml, hown, hts⟩ (k_X8_thrown l D cs (L + 360) (tyF z (nI r))) (cwV 0 hts gL_law_X8_thrown rfl rfl rfl (by decide +kernel) ⟨Nat.le_of_ble_eq_true rfl, Nat.le_of_ble_eq_true rfl⟩) (kx_preV hK hN hMd.1 rfl hMd) rfl rfl hl.1 rfl (lv_room (Nat.le_of_ble_eq_true rfl)) dL_law_1493 hr0) ?_
    refine kx_ci (y := nI 0) (ty_thr (by rw [hTl]; exact hlt) _) ?_
    refine lv_iload hx hb dL_law_1496 (lv_at hl 1 rfl) ?_
    refine lv_icmp_eq (tgt := 1503) hx hb dL_law_1498 (by decide) (fun _ => ?_) (fun h9 => absurd rfl h9)
    refine lv_iload hx hb dL_law_1503 (lv_at hl 1 rfl) ?_
    refine lv_if_ne (tgt := 1520) hx hb dL_law_1505 (by decide) (fun h9 => absurd (show nI 0 = 0 by decide) h9) (fun _ => ?_)
    refine lv_aload_n hx hb dL_law_1508 rfl (lv_at hl 6 rfl) ?_
    refine lv_iconst (v := nI 0) hx hb dL_law_1509 (by decide) ?_
    refine kx_lald hx hb hK hOu 5 rfl (i := 0) (by decide) (by decide) dL_law_1510 ?_
    refine kx_cl (y := (nI (ln + 1)).toInt64) (vp_upd0 _ _) ?_
    refine lv_iload hx hb dL_law_1511 (lv_at hl 0 rfl) ?_
    refine lv_i2l hx hb dL_law_1513 rfl ?_
    refine W.lcmp hx hb dL_law_1514 ?_
    refine kl_if_eq (tgt := 1520) hx hb dL_law_1515 (by decide) (fun _ => ?_) (fun h9 => absurd rfl h9)
    refine lv_goto (tgt := 1607) hx hb dL_law_1520 (by decide) ?_
    exact K _ _ _ _ _ ⟨tyF z (nI r), _, _, _, _, _, _, _, _, _, _, k9, _, _, _, _, hHr, hOu, hMd, hRA.type hlt _, hk8, hsz⟩ hS (Nat.le_add_right _ _) (Nat.le_add_right _ _) (lv_sub hl [2, 3, 4, 5, 6] rfl)
  · have hwe := tw_1 hw
    refine lv_aload_n hx hb dL_law_1467 rfl (lv_at hl 2 rfl) ?_
    refine lv_aload_n hx hb dL_law_1468 rfl (lv_at hl 1 rfl) ?_
    refine lv_iload hx hb dL_law_1469 (lv_at hl 0 rfl) ?_
    refine lv_iconst (v := nI 1) hx hb dL_law_1471 (by decide) ?_
    refine kn_add hx hb dL_law_1472 ?_
    refine kx_sld (v := q1) hx hb hXs hbl hbA hS (by omega) hN9 hq1 dL_law_1473 ?_
    refine lv_aload_n hx hb dL_law_1474 rfl (lv_at hl 4 rfl) ?_
    refine kx_retN (vx_runSW (As := [.ref L, .int q1, .ref (L + 367)]) (rest := []) ⟨hx, hb, hml, hown, hts⟩ (k_L_typeT1 l D cs L e g e1 g1 nx cn se sg bt nn9 (aW k9) ln pa ft q1 hwe (L + 367) f (by omega) L (Nat.le_refl L) hfl) (vx_cwSW 3 hts gL_law_L_type rfl rfl rfl (by decide +kernel) ⟨Nat.le_of_ble_eq_true rfl, Nat.le_of_ble_eq_true rfl⟩) (kx_preY hK hN hXK hXN ⟨hHr, hOu⟩) rfl rfl hl.1 rfl (lv_room (Nat.le_of_ble_eq_true rfl)) dL_law_1475 hr1) hS (fun q _ h => rg_lo h) (fun q h => rg_lo h) (fun H locs hP hk hS => ?_)
    obtain ⟨hHr, hOu⟩ := hP
    have hHr : HrC D cs L e g e1 g1 nx cn se sg bt nn9 (aW k9) ln pa ft H := hHr
    have hMd := hMd.frame hk (fun q h1 h2 h => by rcases h with h | h <;> omega)
    have hsz : L + 368 ≤ H.size := Nat.le_trans hsz hk.1
    clear hk hXK hKW
    refine lv_istore (lv' := [(5, .int (nI 1)), (4, .int (nI i)), (0, .ref bs), (1, .ref L), (2, .ref (L + 360)), (3, .ref (L + 367))]) hx hb dL_law_1478 hl (by decide) rfl (fun ls hl => ?_)
    refine lv_aload_n hx hb dL_law_1480 rfl (lv_at hl 4 rfl) ?_
    refine lv_aload_n hx hb dL_law_1481 rfl (lv_at hl 2 rfl) ?_
    refine lv_iload hx hb dL_law_1482 (lv_at hl 1 rfl) ?_
    refine lv_iconst (v := nI 1) hx hb dL_law_1484 (by decide) ?_
    refine kn_add hx hb dL_law_1485 ?_
    refine kx_sld (v := q1) hx hb hXs hbl hbA hS (by omega) hN9 hq1 dL_law_1486 ?_
    refine kx_retM (va_runV (As := [.int q1]) (rest := []) ⟨hx, hb, hml, hown, hts⟩ (k_X8_type l D cs (L + 360) z q1 hZ) (cwV 1 hts gL_law_X8_type rfl rfl rfl (by decide +kernel) ⟨Nat.le_of_ble_eq_true rfl, Nat.le_of_ble_eq_true rfl⟩) (kx_preV hK hN hMd.1 rfl hMd) rfl rfl hl.1 rfl (lv_room (Nat.le_of_ble_eq_true rfl)) dL_law_1487 ⟨hr1.1, hr1.2⟩) hS (fun q _ h => by have h3 := h.1; show L ≤ q; omega) (fun q h => by have h3 := h.1; show L ≤ q; omega) (fun H locs hP hk hS => ?_)
    have hHr := hHr.keepR (H1 := H) (fun q h1 h2 => hk.2 q (by omega) (fun h => by have h3 := h.1; have h4 := h.2; omega))
    have hOu := hOu.kept (hk.2 _ hOu.lt (fun h => by have h3 := h.1; have h4 := h.2; omega))
    have hsz : L + 368 ≤ H.size := Nat.le_trans hsz hk.1
    clear hk
    have hMd : MdC D (cs 0) (L + 360) (upd z 4403 (nI 1)) H := (by have q9 := hP; rw [hw, if_neg (by decide)] at q9; exact q9)
    refine kx_ci (y := nI 0) (if_neg (by rw [hw]; decide)) ?_
    refine lv_istore (lv' := [(6, .int (nI 0)), (5, .int (nI 1)), (4, .int (nI i)), (0, .ref bs), (1, .ref L), (2, .ref (L + 360)), (3, .ref (L + 367))]) hx hb dL_law_1490 hl (by decide) rfl (fun ls hl => ?_)
    refine lv_aload_n hx hb dL_law_1492 rfl (lv_at hl 5 rfl) ?_
    refine kx_retP (va_runV (As := []) (rest := []) ⟨hx, hb, hml, hown, hts⟩ (k_X8_thrown l D cs (L + 360) (upd z 4403 (nI 1))) (cwV 0 hts gL_law_X8_thrown rfl rfl rfl (by decide +kernel) ⟨Nat.le_of_ble_eq_true rfl, Nat.le_of_ble_eq_true rfl⟩) (kx_preV hK hN hMd.1 rfl hMd) rfl rfl hl.1 rfl (lv_room (Nat.le_of_ble_eq_true rfl)) dL_law_1493 ⟨hr1.1, hr1.2⟩) ?_
    refine kx_ci (y := nI 1) (th_thr _) ?_
    refine lv_iload hx hb dL_law_1496 (lv_at hl 1 rfl) ?_
    refine lv_icmp_eq (tgt := 1503) hx hb dL_law_1498 (by decide) (fun _ => ?_) (fun h9 => absurd rfl h9)
    refine lv_iload hx hb dL_law_1503 (lv_at hl 1 rfl) ?_
    refine lv_if_ne (tgt := 1520) hx hb dL_law_1505 (by decide) (fun _ => ?_) (fun h9 => absurd h9 (by decide))
    refine lv_goto (tgt := 1607) hx hb dL_law_1520 (by decide) ?_
    exact K _ _ _ _ _ ⟨upd z 4403 (nI 1), _, _, _, _, _, _, _, _, _, _, k9, _, _, _, _, hHr, hOu, hMd, hRA.thr _, hk8, hsz⟩ hS (Nat.le_refl _) (Nat.le_refl _) (lv_sub hl [2, 3, 4, 5, 6] rfl)
  · obtain ⟨r, hr127, rfl, hwe⟩ := tw_2 hw
    refine lv_aload_n hx hb dL_law_1467 rfl (lv_at hl 2 rfl) ?_
    refine lv_aload_n hx hb dL_law_1468 rfl (lv_at hl 1 rfl) ?_
    refine lv_iload hx hb dL_law_1469 (lv_at hl 0 rfl) ?_
    refine lv_iconst (v := nI 1) hx hb dL_law_1471 (by decide) ?_
    refine kn_add hx hb dL_law_1472 ?_
    refine kx_sld (v := nI r) hx hb hXs hbl hbA hS (by omega) hN9 hq1 dL_law_1473 ?_
    refine lv_aload_n hx hb dL_law_1474 rfl (lv_at hl 4 rfl) ?_
    refine kx_retN (vx_runSW (As := [.ref L, .int (nI r), .ref (L + 367)]) (rest := []) ⟨hx, hb, hml, hown, hts⟩ (k_L_typeT2 l D cs L e g e1 g1 nx cn se sg bt nn9 (aW k9) ln pa ft r hr127 (by omega) hl150 (L + 367) f (by omega) L (Nat.le_refl L) hfl) (vx_cwSW 3 hts gL_law_L_type rfl rfl rfl (by decide +kernel) ⟨Nat.le_of_ble_eq_true rfl, Nat.le_of_ble_eq_true rfl⟩) (kx_preY hK hN hXK hXN ⟨hHr, hOu⟩) rfl rfl hl.1 rfl (lv_room (Nat.le_of_ble_eq_true rfl)) dL_law_1475 hr1) hS (fun q _ h => rg_lo h) (fun q h => rg_lo h) (fun H locs hP hk hS => ?_)
    obtain ⟨hHr, hOu⟩ := hP
    have hHr : HrC D cs L e g e1 g1 nx cn se sg bt nn9 (aW k9) ln pa ft H := hHr
    have hMd := hMd.frame hk (fun q h1 h2 h => by rcases h with h | h <;> omega)
    have hsz : L + 368 ≤ H.size := Nat.le_trans hsz hk.1
    clear hk hXK hKW
    refine lv_istore (lv' := [(5, .int (nI 2)), (4, .int (nI i)), (0, .ref bs), (1, .ref L), (2, .ref (L + 360)), (3, .ref (L + 367))]) hx hb dL_law_1478 hl (by decide) rfl (fun ls hl => ?_)
    refine lv_aload_n hx hb dL_law_1480 rfl (lv_at hl 4 rfl) ?_
    refine lv_aload_n hx hb dL_law_1481 rfl (lv_at hl 2 rfl) ?_
    refine lv_iload hx hb dL_law_1482 (lv_at hl 1 rfl) ?_
    refine lv_iconst (v := nI 1) hx hb dL_law_1484 (by decide) ?_
    refine kn_add hx hb dL_law_1485 ?_
    refine kx_sld (v := nI r) hx hb hXs hbl hbA hS (by omega) hN9 hq1 dL_law_1486 ?_
    refine kx_retM (va_runV (As := [.int (nI r)]) (rest := []) ⟨hx, hb, hml, hown, hts⟩ (k_X8_type l D cs (L + 360) z (nI r) hZ) (cwV 1 hts gL_law_X8_type rfl rfl rfl (by decide +kernel) ⟨Nat.le_of_ble_eq_true rfl, Nat.le_of_ble_eq_true rfl⟩) (kx_preV hK hN hMd.1 rfl hMd) rfl rfl hl.1 rfl (lv_room (Nat.le_of_ble_eq_true rfl)) dL_law_1487 ⟨hr1.1, hr1.2⟩) hS (fun q _ h => by have h3 := h.1; show L ≤ q; omega) (fun q h => by have h3 := h.1; show L ≤ q; omega) (fun H locs hP hk hS => ?_)
    have hHr := hHr.keepR (H1 := H) (fun q h1 h2 => hk.2 q (by omega) (fun h => by have h3 := h.1; have h4 := h.2; omega))
    have hOu := hOu.kept (hk.2 _ hOu.lt (fun h => by have h3 := h.1; have h4 := h.2; omega))
    have hsz : L + 368 ≤ H.size := Nat.le_trans hsz hk.1
    clear hk
    have hMd : MdC D (cs 0) (L + 360) (upd z 4403 (nI 2)) H := (by have q9 := hP; rw [hw, if_neg (by decide)] at q9; exact q9)
    refine kx_ci (y := nI 0) (if_neg (by rw [hw]; decide)) ?_
    refine lv_istore (lv' := [(6, .int (nI 0)), (5, .int (nI 2)), (4, .int (nI i)), (0, .ref bs), (1, .ref L), (2, .ref (L + 360)), (3, .ref (L + 367))]) hx hb dL_law_1490 hl (by decide) rfl (fun ls hl => ?_)
    refine lv_aload_n hx hb dL_law_1492 rfl (lv_at hl 5 rfl) ?_
    refine kx_retP (va_runV (As := []) (rest := []) ⟨hx, hb, hml, hown, hts⟩ (k_X8_thrown l D cs (L + 360) (upd z 4403 (nI 2))) (cwV 0 hts gL_law_X8_thrown rfl rfl rfl (by decide +kernel) ⟨Nat.le_of_ble_eq_true rfl, Nat.le_of_ble_eq_true rfl⟩) (kx_preV hK hN hMd.1 rfl hMd) rfl rfl hl.1 rfl (lv_room (Nat.le_of_ble_eq_true rfl)) dL_law_1493 ⟨hr1.1, hr1.2⟩) ?_
    refine kx_ci (y := nI 2) (th_thr _) ?_
    refine lv_iload hx hb dL_law_1496 (lv_at hl 1 rfl) ?_
    refine lv_icmp_eq (tgt := 1503) hx hb dL_law_1498 (by decide) (fun _ => ?_) (fun h9 => absurd rfl h9)
    refine lv_iload hx hb dL_law_1503 (lv_at hl 1 rfl) ?_
    refine lv_if_ne (tgt := 1520) hx hb dL_law_1505 (by decide) (fun _ => ?_) (fun h9 => absurd h9 (by decide))
    refine lv_goto (tgt := 1607) hx hb dL_law_1520 (by decide) ?_
    exact K _ _ _ _ _ ⟨upd z 4403 (nI 2), _, _, _, _, _, _, _, _, _, _, k9, _, _, _, _, hHr, hOu, hMd, hRA.thr _, hk8, hsz⟩ hS (Nat.le_refl _) (Nat.le_refl _) (lv_sub hl [2, 3, 4, 5, 6] rfl)
