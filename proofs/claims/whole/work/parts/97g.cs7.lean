/-! the law's calls, kinds 23 to 26 -/
set_option maxHeartbeats 2500000 in
set_option maxRecDepth 100000 in
theorem cs_clearCommands {p : Program} {l : Launch} {en : Env} {s : State} {m : MethodId} {below : List Frame} {meth : Method} {c : Code} {D : va_G} {cs : Nat → ClassId} {L : Nat} {aW aS aV : Nat → Nat} {tW tM bs N : Nat} {xs : Nat → Int32} {Q : State → Prop} (G : LwG p l s m c D cs L aW aS aV tW tM bs N xs) {i : Nat} (hi : i + 6 ≤ N) {H : Heap} {locs : List Loc} {cells slots : Nat} (hr : cells + 1 ≤ 601024 ∧ slots + 6 ≤ 7293034) (W0 : LwD D cs L aW H) (hS : va_S (fun q : Nat => L ≤ q) s.heap H locs) {ls : Array Slot} (hl : lv_has ls 8 [(4, .int (nI i)), (0, .ref bs), (1, .ref L), (2, .ref (L + 360)), (3, .ref (L + 367))])
  (K : ∀ (H : Heap) (locs : List Loc) (c1 s1 : Nat) (ls : Array Slot), LwD D cs L aW H → va_S (fun q : Nat => L ≤ q) s.heap H locs → c1 ≤ cells + 1 → s1 ≤ slots + 6 → lv_has ls 8 [(4, .int (nI i)), (0, .ref bs), (1, .ref L), (2, .ref (L + 360)), (3, .ref (L + 367))] → W p l en room_1 s m #[Value.ref bs] below meth c H locs c1 s1 Q (F0 m 1607 ls [])) :
  W p l en room_1 s m #[Value.ref bs] below meth c H locs cells slots Q (F0 m 1523 ls []) := by
  obtain ⟨hx, hb, hml, hown, hts, hK, hN, hKW0, hXK0, hXN, hXs, hbl, hLs, hN9, hfl⟩ := G
  obtain ⟨z, e, g, e1, g1, nx, cn, se, sg, bt, nn9, k9, ln, pa, ft, f, hHr, hOu, hMd, hRA, hk8, hsz⟩ := W0
  have hbA : ¬ (fun q : Nat => L ≤ q) bs := by show ¬ L ≤ bs; omega
  have hr0 : cells + 0 ≤ room_1.cells ∧ slots + 0 ≤ room_1.slots := ⟨by show cells + 0 ≤ 601024; omega, by show slots + 0 ≤ 7293034; omega⟩
  have hr1 : cells + 1 ≤ room_1.cells ∧ slots + 6 ≤ room_1.slots := hr
  have hI := ev_R hRA.1
  have hG := hRA.2.1
  have hnx := hRA.2.2.1.1.2.1
  have hcn := hRA.2.2.1.1.2.2
  have hZ := hRA.invZ
  have hl150 := hRA.2.2.2.2.1
  have hsv0 := ra_sv hRA
  have hEI := hRA.1
  have hRR := EI.R hRA.1
  have hMM := EI.M hRA.1
  have hTl := hRA.tl
  have hSv := hRA.sv
  have h24 := hI.M24
  have h6 := hI.R6
  have hXK := hXK0.kept (H1 := H) (fun a h1 h2 => hS.2.1 a h1 h2)
  have hKW := hKW0.kept (H1 := H) (fun a h1 h2 => hS.2.1 a h1 h2)
  refine lv_aload_n hx hb dL_law_1523 rfl (lv_at hl 2 rfl) ?_
  refine kx_retM (va_runV (As := []) (rest := []) ⟨hx, hb, hml, hown, hts⟩ (k_X7_clearCommands l D cs L e g e1 g1 nx cn se sg bt nn9 (aW k9) ln pa ft hl150) (cwV 0 hts gL_law_X7_clearCommands rfl rfl rfl (by decide +kernel) ⟨Nat.le_of_ble_eq_true rfl, Nat.le_of_ble_eq_true rfl⟩) (kx_preV hK hN hHr.1 rfl hHr) rfl rfl hl.1 rfl (lv_room (Nat.le_of_ble_eq_true rfl)) dL_law_1524 hr0) hS (fun q _ h => h.1) (fun q h => h.1) (fun H locs hP hk hS => ?_)
  have hHr := hP
  have hHr : HrC D cs L e g e1 g1 nx cn se sg bt nn9 (aW k9) 0 pa ft H := hHr
  have hMd := hMd.frame hk (fun q h1 h2 h => by have h3 := h.1; have h4 := h.2; omega)
  have hOu := hOu.kept (hk.2 _ hOu.lt (fun h => by have h3 := h.1; have h4 := h.2; omega))
  have hsz : L + 368 ≤ H.size := Nat.le_trans hsz hk.1
  clear hk
  refine lv_aload_n hx hb dL_law_1527 rfl (lv_at hl 3 rfl) ?_
  refine kx_retM (va_runV (As := []) (rest := [.int (nI ln)]) ⟨hx, hb, hml, hown, hts⟩ (k_X8_clearCommands l D cs (L + 360) z hZ) (cwV 0 hts gL_law_X8_clearCommands rfl rfl rfl (by decide +kernel) ⟨Nat.le_of_ble_eq_true rfl, Nat.le_of_ble_eq_true rfl⟩) (kx_preV hK hN hMd.1 rfl hMd) rfl rfl hl.1 rfl (lv_room (Nat.le_of_ble_eq_true rfl)) dL_law_1528 hr0) hS (fun q _ h => by have h3 := h.1; show L ≤ q; omega) (fun q h => by have h3 := h.1; show L ≤ q; omega) (fun H locs hP hk hS => ?_)
  have hHr := hHr.keepR (H1 := H) (fun q h1 h2 => hk.2 q (by omega) (fun h => by have h3 := h.1; have h4 := h.2; omega))
  have hOu := hOu.kept (hk.2 _ hOu.lt (fun h => by have h3 := h.1; have h4 := h.2; omega))
  have hsz : L + 368 ≤ H.size := Nat.le_trans hsz hk.1
  clear hk
  have hMd : MdC D (cs 0) (L + 360) (upd (t0 z) 4405 (nI 0)) H := hP
  refine kx_ci (y := nI ln) (by rw [hTl]) ?_
  refine lv_icmp_eq (tgt := 1607) hx hb dL_law_1531 (by decide) (fun _ => ?_) (fun h9 => absurd rfl h9)
  exact K _ _ _ _ _ ⟨upd (t0 z) 4405 (nI 0), _, _, _, _, _, _, _, _, _, _, k9, _, _, _, _, hHr, hOu, hMd, hRA.clear, hk8, hsz⟩ hS (Nat.le_add_right _ _) (Nat.le_add_right _ _) (lv_sub hl [0, 1, 2, 3, 4] rfl)
set_option maxHeartbeats 2500000 in
set_option maxRecDepth 100000 in
theorem cs_runCommands {p : Program} {l : Launch} {en : Env} {s : State} {m : MethodId} {below : List Frame} {meth : Method} {c : Code} {D : va_G} {cs : Nat → ClassId} {L : Nat} {aW aS aV : Nat → Nat} {tW tM bs N : Nat} {xs : Nat → Int32} {Q : State → Prop} (G : LwG p l s m c D cs L aW aS aV tW tM bs N xs) {i : Nat} (hi : i + 6 ≤ N) {H : Heap} {locs : List Loc} {cells slots : Nat} (hr : cells + 1 ≤ 601024 ∧ slots + 6 ≤ 7293034) (W0 : LwD D cs L aW H) (hS : va_S (fun q : Nat => L ≤ q) s.heap H locs) {ls : Array Slot} (hl : lv_has ls 8 [(4, .int (nI i)), (0, .ref bs), (1, .ref L), (2, .ref (L + 360)), (3, .ref (L + 367))])
  (K : ∀ (H : Heap) (locs : List Loc) (c1 s1 : Nat) (ls : Array Slot), LwD D cs L aW H → va_S (fun q : Nat => L ≤ q) s.heap H locs → c1 ≤ cells + 1 → s1 ≤ slots + 6 → lv_has ls 8 [(4, .int (nI i)), (0, .ref bs), (1, .ref L), (2, .ref (L + 360)), (3, .ref (L + 367))] → W p l en room_1 s m #[Value.ref bs] below meth c H locs c1 s1 Q (F0 m 1607 ls [])) :
  W p l en room_1 s m #[Value.ref bs] below meth c H locs cells slots Q (F0 m 1536 ls []) := by
  obtain ⟨hx, hb, hml, hown, hts, hK, hN, hKW0, hXK0, hXN, hXs, hbl, hLs, hN9, hfl⟩ := G
  obtain ⟨z, e, g, e1, g1, nx, cn, se, sg, bt, nn9, k9, ln, pa, ft, f, hHr, hOu, hMd, hRA, hk8, hsz⟩ := W0
  have hbA : ¬ (fun q : Nat => L ≤ q) bs := by show ¬ L ≤ bs; omega
  have hr0 : cells + 0 ≤ room_1.cells ∧ slots + 0 ≤ room_1.slots := ⟨by show cells + 0 ≤ 601024; omega, by show slots + 0 ≤ 7293034; omega⟩
  have hr1 : cells + 1 ≤ room_1.cells ∧ slots + 6 ≤ room_1.slots := hr
  have hI := ev_R hRA.1
  have hG := hRA.2.1
  have hnx := hRA.2.2.1.1.2.1
  have hcn := hRA.2.2.1.1.2.2
  have hZ := hRA.invZ
  have hl150 := hRA.2.2.2.2.1
  have hsv0 := ra_sv hRA
  have hEI := hRA.1
  have hRR := EI.R hRA.1
  have hMM := EI.M hRA.1
  have hTl := hRA.tl
  have hSv := hRA.sv
  have h24 := hI.M24
  have h6 := hI.R6
  have hXK := hXK0.kept (H1 := H) (fun a h1 h2 => hS.2.1 a h1 h2)
  have hKW := hKW0.kept (H1 := H) (fun a h1 h2 => hS.2.1 a h1 h2)
  refine lv_aload_n hx hb dL_law_1536 rfl (lv_at hl 2 rfl) ?_
  refine kx_retM (va_runV (As := []) (rest := []) ⟨hx, hb, hml, hown, hts⟩ (k_X7_runCommands l D cs L e g e1 g1 nx cn se sg bt nn9 (aW k9) ln pa ft L aW aS aV tW tM k9 hk8 rfl hI hG hnx hcn hl150 (Nat.le_refl L)) (cwV 0 hts gL_law_X7_runCommands rfl rfl rfl (by decide +kernel) ⟨Nat.le_of_ble_eq_true rfl, Nat.le_of_ble_eq_true rfl⟩) (kx_preWV hK hN hKW hHr.1 rfl hHr) rfl rfl hl.1 rfl (lv_room (Nat.le_of_ble_eq_true rfl)) dL_law_1537 hr0) hS (fun q _ h => h.1) (fun q h => h.1) (fun H locs hP hk hS => ?_)
  obtain ⟨e', g', nx', cn', se', sg', nn', k', pa', ft', hRC, hk8', hpa', hHr⟩ := hP
  have hHr : HrC D cs L e' g' e1 g1 nx' cn' se' sg' bt nn' (aW k') ln pa' ft' H := hHr
  have hMd := hMd.frame hk (fun q h1 h2 h => by have h3 := h.1; have h4 := h.2; omega)
  have hOu := hOu.kept (hk.2 _ hOu.lt (fun h => by have h3 := h.1; have h4 := h.2; omega))
  have hsz : L + 368 ≤ H.size := Nat.le_trans hsz hk.1
  clear hk
  refine lv_aload_n hx hb dL_law_1540 rfl (lv_at hl 3 rfl) ?_
  refine kx_retM (va_runV (As := []) (rest := [.int (rcC e bt ln)]) ⟨hx, hb, hml, hown, hts⟩ (k_X8_runCommands l D cs (L + 360) z bt ln (ra_t0 hRA).txt hZ) (cwV 0 hts gL_law_X8_runCommands rfl rfl rfl (by decide +kernel) ⟨Nat.le_of_ble_eq_true rfl, Nat.le_of_ble_eq_true rfl⟩) (kx_preV hK hN hMd.1 rfl hMd) rfl rfl hl.1 rfl (lv_room (Nat.le_of_ble_eq_true rfl)) dL_law_1541 hr0) hS (fun q _ h => by have h3 := h.1; show L ≤ q; omega) (fun q h => by have h3 := h.1; show L ≤ q; omega) (fun H locs hP hk hS => ?_)
  have hHr := hHr.keepR (H1 := H) (fun q h1 h2 => hk.2 q (by omega) (fun h => by have h3 := h.1; have h4 := h.2; omega))
  have hOu := hOu.kept (hk.2 _ hOu.lt (fun h => by have h3 := h.1; have h4 := h.2; omega))
  have hsz : L + 368 ≤ H.size := Nat.le_trans hsz hk.1
  clear hk
  obtain ⟨y, hMd, hRc⟩ := hP
  refine kx_ci (y := rcC e bt ln) (hRA.rc.symm) ?_
  refine lv_icmp_eq (tgt := 1607) hx hb dL_law_1544 (by decide) (fun _ => ?_) (fun h9 => absurd rfl h9)
  exact K _ _ _ _ _ ⟨y, _, _, _, _, _, _, _, _, _, _, k', _, _, _, _, hHr, hOu, hMd, hRA.run hRc hRC, hk8', hsz⟩ hS (Nat.le_add_right _ _) (Nat.le_add_right _ _) (lv_sub hl [0, 1, 2, 3, 4] rfl)
set_option maxHeartbeats 2500000 in
set_option maxRecDepth 100000 in
theorem cs_undo {p : Program} {l : Launch} {en : Env} {s : State} {m : MethodId} {below : List Frame} {meth : Method} {c : Code} {D : va_G} {cs : Nat → ClassId} {L : Nat} {aW aS aV : Nat → Nat} {tW tM bs N : Nat} {xs : Nat → Int32} {Q : State → Prop} (G : LwG p l s m c D cs L aW aS aV tW tM bs N xs) {i : Nat} (hi : i + 6 ≤ N) {H : Heap} {locs : List Loc} {cells slots : Nat} (hr : cells + 1 ≤ 601024 ∧ slots + 6 ≤ 7293034) (W0 : LwD D cs L aW H) (hS : va_S (fun q : Nat => L ≤ q) s.heap H locs) {ls : Array Slot} (hl : lv_has ls 8 [(4, .int (nI i)), (0, .ref bs), (1, .ref L), (2, .ref (L + 360)), (3, .ref (L + 367))])
  (K : ∀ (H : Heap) (locs : List Loc) (c1 s1 : Nat) (ls : Array Slot), LwD D cs L aW H → va_S (fun q : Nat => L ≤ q) s.heap H locs → c1 ≤ cells + 1 → s1 ≤ slots + 6 → lv_has ls 8 [(4, .int (nI i)), (0, .ref bs), (1, .ref L), (2, .ref (L + 360)), (3, .ref (L + 367))] → W p l en room_1 s m #[Value.ref bs] below meth c H locs c1 s1 Q (F0 m 1607 ls [])) :
  W p l en room_1 s m #[Value.ref bs] below meth c H locs cells slots Q (F0 m 1549 ls []) := by
  obtain ⟨hx, hb, hml, hown, hts, hK, hN, hKW0, hXK0, hXN, hXs, hbl, hLs, hN9, hfl⟩ := G
  obtain ⟨z, e, g, e1, g1, nx, cn, se, sg, bt, nn9, k9, ln, pa, ft, f, hHr, hOu, hMd, hRA, hk8, hsz⟩ := W0
  have hbA : ¬ (fun q : Nat => L ≤ q) bs := by show ¬ L ≤ bs; omega
  have hr0 : cells + 0 ≤ room_1.cells ∧ slots + 0 ≤ room_1.slots := ⟨by show cells + 0 ≤ 601024; omega, by show slots + 0 ≤ 7293034; omega⟩
  have hr1 : cells + 1 ≤ room_1.cells ∧ slots + 6 ≤ room_1.slots := hr
  have hI := ev_R hRA.1
  have hG := hRA.2.1
  have hnx := hRA.2.2.1.1.2.1
  have hcn := hRA.2.2.1.1.2.2
  have hZ := hRA.invZ
  have hl150 := hRA.2.2.2.2.1
  have hsv0 := ra_sv hRA
  have hEI := hRA.1
  have hRR := EI.R hRA.1
  have hMM := EI.M hRA.1
  have hTl := hRA.tl
  have hSv := hRA.sv
  have h24 := hI.M24
  have h6 := hI.R6
  have hXK := hXK0.kept (H1 := H) (fun a h1 h2 => hS.2.1 a h1 h2)
  have hKW := hKW0.kept (H1 := H) (fun a h1 h2 => hS.2.1 a h1 h2)
  rcases uw_c (z := z) with hw | hw
  · have hc1 : 1 ≤ cn := by rw [← hSv]; exact uw_0 hw
    refine lv_aload_n hx hb dL_law_1549 rfl (lv_at hl 2 rfl) ?_
    refine lv_aload_n hx hb dL_law_1550 rfl (lv_at hl 4 rfl) ?_
    refine kx_retM (vx_runSW (As := [.ref L, .ref (L + 367)]) (rest := []) ⟨hx, hb, hml, hown, hts⟩ (k_L_undo l D cs L e g e1 g1 nx cn se sg bt nn9 (aW k9) ln pa ft ((nx + 3) % 4) rfl (ra_undoI hRA hc1) hnx hcn hc1 (L + 367) f (by omega) L (Nat.le_refl L) hfl) (vx_cwSW 2 hts gL_law_L_undo rfl rfl rfl (by decide +kernel) ⟨Nat.le_of_ble_eq_true rfl, Nat.le_of_ble_eq_true rfl⟩) (kx_preY hK hN hXK hXN ⟨hHr, hOu⟩) rfl rfl hl.1 rfl (lv_room (Nat.le_of_ble_eq_true rfl)) dL_law_1551 hr0) hS (fun q _ h => rg_lo h) (fun q h => rg_lo h) (fun H locs hP hk hS => ?_)
    obtain ⟨hHr, hOu⟩ := hP
    have hHr : HrC D cs L (cfF e (se ((nx + 3) % 4))) (cgM g (sg ((nx + 3) % 4)) (Mn (se ((nx + 3) % 4)))) e1 g1 ((nx + 3) % 4) (cn - 1) se sg bt nn9 (aW k9) ln pa ft H := hHr
    have hMd := hMd.frame hk (fun q h1 h2 h => by rcases h with h | h <;> omega)
    have hsz : L + 368 ≤ H.size := Nat.le_trans hsz hk.1
    clear hk hXK hKW
    refine lv_istore (lv' := [(5, .int (nI 0)), (4, .int (nI i)), (0, .ref bs), (1, .ref L), (2, .ref (L + 360)), (3, .ref (L + 367))]) hx hb dL_law_1554 hl (by decide) rfl (fun ls hl => ?_)
    refine lv_aload_n hx hb dL_law_1556 rfl (lv_at hl 4 rfl) ?_
    refine kx_retM (va_runV (As := []) (rest := []) ⟨hx, hb, hml, hown, hts⟩ (k_X8_undo l D cs (L + 360) z hZ) (cwV 0 hts gL_law_X8_undo rfl rfl rfl (by decide +kernel) ⟨Nat.le_of_ble_eq_true rfl, Nat.le_of_ble_eq_true rfl⟩) (kx_preV hK hN hMd.1 rfl hMd) rfl rfl hl.1 rfl (lv_room (Nat.le_of_ble_eq_true rfl)) dL_law_1557 hr0) hS (fun q _ h => by have h3 := h.1; show L ≤ q; omega) (fun q h => by have h3 := h.1; show L ≤ q; omega) (fun H locs hP hk hS => ?_)
    have hHr := hHr.keepR (H1 := H) (fun q h1 h2 => hk.2 q (by omega) (fun h => by have h3 := h.1; have h4 := h.2; omega))
    have hOu := hOu.kept (hk.2 _ hOu.lt (fun h => by have h3 := h.1; have h4 := h.2; omega))
    have hsz : L + 368 ≤ H.size := Nat.le_trans hsz hk.1
    clear hk
    have hMd : MdC D (cs 0) (L + 360) (udF z) H := (by have q9 := hP; rw [if_pos hw] at q9; exact q9)
    refine kx_ci (y := nI (cn - 1)) (by rw [if_pos hw, hSv]) ?_
    refine lv_istore (lv' := [(6, .int (nI (cn - 1))), (5, .int (nI 0)), (4, .int (nI i)), (0, .ref bs), (1, .ref L), (2, .ref (L + 360)), (3, .ref (L + 367))]) hx hb dL_law_1560 hl (by decide) rfl (fun ls hl => ?_)
    refine lv_aload_n hx hb dL_law_1562 rfl (lv_at hl 5 rfl) ?_
    refine kx_retP (va_runV (As := []) (rest := []) ⟨hx, hb, hml, hown, hts⟩ (k_X8_thrown l D cs (L + 360) (udF z)) (cwV 0 hts gL_law_X8_thrown rfl rfl rfl (by decide +kernel) ⟨Nat.le_of_ble_eq_true rfl, Nat.le_of_ble_eq_true rfl⟩) (kx_preV hK hN hMd.1 rfl hMd) rfl rfl hl.1 rfl (lv_room (Nat.le_of_ble_eq_true rfl)) dL_law_1563 hr0) ?_
    refine kx_ci (y := nI 0) (ud_thr) ?_
    refine lv_iload hx hb dL_law_1566 (lv_at hl 1 rfl) ?_
    refine lv_icmp_eq (tgt := 1573) hx hb dL_law_1568 (by decide) (fun _ => ?_) (fun h9 => absurd rfl h9)
    refine lv_iload hx hb dL_law_1573 (lv_at hl 1 rfl) ?_
    refine lv_if_ne (tgt := 1590) hx hb dL_law_1575 (by decide) (fun h9 => absurd (show nI 0 = 0 by decide) h9) (fun _ => ?_)
    refine lv_aload_n hx hb dL_law_1578 rfl (lv_at hl 6 rfl) ?_
    refine lv_iconst (v := nI 0) hx hb dL_law_1579 (by decide) ?_
    refine kx_lald hx hb hK hOu 5 rfl (i := 0) (by decide) (by decide) dL_law_1580 ?_
    refine kx_cl (y := (nI (cn - 1)).toInt64) (vp_upd0 _ _) ?_
    refine lv_iload hx hb dL_law_1581 (lv_at hl 0 rfl) ?_
    refine lv_i2l hx hb dL_law_1583 rfl ?_
    refine W.lcmp hx hb dL_law_1584 ?_
    refine kl_if_eq (tgt := 1590) hx hb dL_law_1585 (by decide) (fun _ => ?_) (fun h9 => absurd rfl h9)
    refine lv_goto (tgt := 1607) hx hb dL_law_1590 (by decide) ?_
    exact K _ _ _ _ _ ⟨udF z, _, _, _, _, _, _, _, _, _, _, k9, _, _, _, _, hHr, hOu, hMd, hRA.undo hc1, hk8, hsz⟩ hS (Nat.le_add_right _ _) (Nat.le_add_right _ _) (lv_sub hl [2, 3, 4, 5, 6] rfl)
  · have hw := hw
    refine lv_aload_n hx hb dL_law_1549 rfl (lv_at hl 2 rfl) ?_
    refine lv_aload_n hx hb dL_law_1550 rfl (lv_at hl 4 rfl) ?_
    refine kx_retN (vx_runSW (As := [.ref L, .ref (L + 367)]) (rest := []) ⟨hx, hb, hml, hown, hts⟩ (k_L_undoT l D cs L e g e1 g1 nx cn se sg bt nn9 (aW k9) ln pa ft (by rw [← hSv]; exact uw_1 hw) (L + 367) f (by omega) L (Nat.le_refl L) hfl) (vx_cwSW 2 hts gL_law_L_undo rfl rfl rfl (by decide +kernel) ⟨Nat.le_of_ble_eq_true rfl, Nat.le_of_ble_eq_true rfl⟩) (kx_preY hK hN hXK hXN ⟨hHr, hOu⟩) rfl rfl hl.1 rfl (lv_room (Nat.le_of_ble_eq_true rfl)) dL_law_1551 hr1) hS (fun q _ h => rg_lo h) (fun q h => rg_lo h) (fun H locs hP hk hS => ?_)
    obtain ⟨hHr, hOu⟩ := hP
    have hHr : HrC D cs L e g e1 g1 nx cn se sg bt nn9 (aW k9) ln pa ft H := hHr
    have hMd := hMd.frame hk (fun q h1 h2 h => by rcases h with h | h <;> omega)
    have hsz : L + 368 ≤ H.size := Nat.le_trans hsz hk.1
    clear hk hXK hKW
    refine lv_istore (lv' := [(5, .int (nI 1)), (4, .int (nI i)), (0, .ref bs), (1, .ref L), (2, .ref (L + 360)), (3, .ref (L + 367))]) hx hb dL_law_1554 hl (by decide) rfl (fun ls hl => ?_)
    refine lv_aload_n hx hb dL_law_1556 rfl (lv_at hl 4 rfl) ?_
    refine kx_retM (va_runV (As := []) (rest := []) ⟨hx, hb, hml, hown, hts⟩ (k_X8_undo l D cs (L + 360) z hZ) (cwV 0 hts gL_law_X8_undo rfl rfl rfl (by decide +kernel) ⟨Nat.le_of_ble_eq_true rfl, Nat.le_of_ble_eq_true rfl⟩) (kx_preV hK hN hMd.1 rfl hMd) rfl rfl hl.1 rfl (lv_room (Nat.le_of_ble_eq_true rfl)) dL_law_1557 ⟨hr1.1, hr1.2⟩) hS (fun q _ h => by have h3 := h.1; show L ≤ q; omega) (fun q h => by have h3 := h.1; show L ≤ q; omega) (fun H locs hP hk hS => ?_)
    have hHr := hHr.keepR (H1 := H) (fun q h1 h2 => hk.2 q (by omega) (fun h => by have h3 := h.1; have h4 := h.2; omega))
    have hOu := hOu.kept (hk.2 _ hOu.lt (fun h => by have h3 := h.1; have h4 := h.2; omega))
    have hsz : L + 368 ≤ H.size := Nat.le_trans hsz hk.1
    clear hk
    have hMd : MdC D (cs 0) (L + 360) (upd z 4403 (nI 1)) H := (by have q9 := hP; rw [hw, if_neg (by decide)] at q9; exact q9)
    refine kx_ci (y := nI 0) (if_neg (by rw [hw]; decide)) ?_
    refine lv_istore (lv' := [(6, .int (nI 0)), (5, .int (nI 1)), (4, .int (nI i)), (0, .ref bs), (1, .ref L), (2, .ref (L + 360)), (3, .ref (L + 367))]) hx hb dL_law_1560 hl (by decide) rfl (fun ls hl => ?_)
    refine lv_aload_n hx hb dL_law_1562 rfl (lv_at hl 5 rfl) ?_
    refine kx_retP (va_runV (As := []) (rest := []) ⟨hx, hb, hml, hown, hts⟩ (k_X8_thrown l D cs (L + 360) (upd z 4403 (nI 1))) (cwV 0 hts gL_law_X8_thrown rfl rfl rfl (by decide +kernel) ⟨Nat.le_of_ble_eq_true rfl, Nat.le_of_ble_eq_true rfl⟩) (kx_preV hK hN hMd.1 rfl hMd) rfl rfl hl.1 rfl (lv_room (Nat.le_of_ble_eq_true rfl)) dL_law_1563 ⟨hr1.1, hr1.2⟩) ?_
    refine kx_ci (y := nI 1) (th_thr _) ?_
    refine lv_iload hx hb dL_law_1566 (lv_at hl 1 rfl) ?_
    refine lv_icmp_eq (tgt := 1573) hx hb dL_law_1568 (by decide) (fun _ => ?_) (fun h9 => absurd rfl h9)
    refine lv_iload hx hb dL_law_1573 (lv_at hl 1 rfl) ?_
    refine lv_if_ne (tgt := 1590) hx hb dL_law_1575 (by decide) (fun _ => ?_) (fun h9 => absurd h9 (by decide))
    refine lv_goto (tgt := 1607) hx hb dL_law_1590 (by decide) ?_
    exact K _ _ _ _ _ ⟨upd z 4403 (nI 1), _, _, _, _, _, _, _, _, _, _, k9, _, _, _, _, hHr, hOu, hMd, hRA.thr _, hk8, hsz⟩ hS (Nat.le_refl _) (Nat.le_refl _) (lv_sub hl [2, 3, 4, 5, 6] rfl)
set_option maxHeartbeats 2500000 in
set_option maxRecDepth 100000 in
theorem cs_digest {p : Program} {l : Launch} {en : Env} {s : State} {m : MethodId} {below : List Frame} {meth : Method} {c : Code} {D : va_G} {cs : Nat → ClassId} {L : Nat} {aW aS aV : Nat → Nat} {tW tM bs N : Nat} {xs : Nat → Int32} {Q : State → Prop} (G : LwG p l s m c D cs L aW aS aV tW tM bs N xs) {i : Nat} (hi : i + 6 ≤ N) {H : Heap} {locs : List Loc} {cells slots : Nat} (hr : cells + 1 ≤ 601024 ∧ slots + 6 ≤ 7293034) (W0 : LwD D cs L aW H) (hS : va_S (fun q : Nat => L ≤ q) s.heap H locs) {ls : Array Slot} (hl : lv_has ls 8 [(4, .int (nI i)), (0, .ref bs), (1, .ref L), (2, .ref (L + 360)), (3, .ref (L + 367))])
  (K : ∀ (H : Heap) (locs : List Loc) (c1 s1 : Nat) (ls : Array Slot), LwD D cs L aW H → va_S (fun q : Nat => L ≤ q) s.heap H locs → c1 ≤ cells + 1 → s1 ≤ slots + 6 → lv_has ls 8 [(4, .int (nI i)), (0, .ref bs), (1, .ref L), (2, .ref (L + 360)), (3, .ref (L + 367))] → W p l en room_1 s m #[Value.ref bs] below meth c H locs c1 s1 Q (F0 m 1607 ls [])) :
  W p l en room_1 s m #[Value.ref bs] below meth c H locs cells slots Q (F0 m 1593 ls []) := by
  obtain ⟨hx, hb, hml, hown, hts, hK, hN, hKW0, hXK0, hXN, hXs, hbl, hLs, hN9, hfl⟩ := G
  obtain ⟨z, e, g, e1, g1, nx, cn, se, sg, bt, nn9, k9, ln, pa, ft, f, hHr, hOu, hMd, hRA, hk8, hsz⟩ := W0
  have hbA : ¬ (fun q : Nat => L ≤ q) bs := by show ¬ L ≤ bs; omega
  have hr0 : cells + 0 ≤ room_1.cells ∧ slots + 0 ≤ room_1.slots := ⟨by show cells + 0 ≤ 601024; omega, by show slots + 0 ≤ 7293034; omega⟩
  have hr1 : cells + 1 ≤ room_1.cells ∧ slots + 6 ≤ room_1.slots := hr
  have hI := ev_R hRA.1
  have hG := hRA.2.1
  have hnx := hRA.2.2.1.1.2.1
  have hcn := hRA.2.2.1.1.2.2
  have hZ := hRA.invZ
  have hl150 := hRA.2.2.2.2.1
  have hsv0 := ra_sv hRA
  have hEI := hRA.1
  have hRR := EI.R hRA.1
  have hMM := EI.M hRA.1
  have hTl := hRA.tl
  have hSv := hRA.sv
  have h24 := hI.M24
  have h6 := hI.R6
  have hXK := hXK0.kept (H1 := H) (fun a h1 h2 => hS.2.1 a h1 h2)
  have hKW := hKW0.kept (H1 := H) (fun a h1 h2 => hS.2.1 a h1 h2)
  refine lv_aload_n hx hb dL_law_1593 rfl (lv_at hl 2 rfl) ?_
  refine kx_retM (va_runV (As := []) (rest := []) ⟨hx, hb, hml, hown, hts⟩ (k_X7_digest l D cs L e g e1 g1 nx cn se sg bt nn9 (aW k9) ln pa ft hI hG) (cwV 0 hts gL_law_X7_digest rfl rfl rfl (by decide +kernel) ⟨Nat.le_of_ble_eq_true rfl, Nat.le_of_ble_eq_true rfl⟩) (kx_preV hK hN hHr.1 rfl hHr) rfl rfl hl.1 rfl (lv_room (Nat.le_of_ble_eq_true rfl)) dL_law_1594 hr0) hS (fun q _ h => h.1) (fun q h => h.1) (fun H locs hP hk hS => ?_)
  obtain ⟨y', hE9, hHr⟩ := hP
  have hHr : HrC D cs L y' g (fnF (cfF e1 e)) (cgM g1 g (Mn e)) nx cn se sg bt nn9 (aW k9) ln pa ft H := hHr
  have hMd := hMd.frame hk (fun q h1 h2 h => by have h3 := h.1; have h4 := h.2; omega)
  have hOu := hOu.kept (hk.2 _ hOu.lt (fun h => by have h3 := h.1; have h4 := h.2; omega))
  have hsz : L + 368 ≤ H.size := Nat.le_trans hsz hk.1
  clear hk
  refine lv_aload_n hx hb dL_law_1597 rfl (lv_at hl 3 rfl) ?_
  refine kx_retM (va_runV (As := []) (rest := [.long (dgFc e (fnF (cfF e1 e)) ln (nI cn))]) ⟨hx, hb, hml, hown, hts⟩ (k_X8_digest l D cs (L + 360) z hZ) (cwV 0 hts gL_law_X8_digest rfl rfl rfl (by decide +kernel) ⟨Nat.le_of_ble_eq_true rfl, Nat.le_of_ble_eq_true rfl⟩) (kx_preV hK hN hMd.1 rfl hMd) rfl rfl hl.1 rfl (lv_room (Nat.le_of_ble_eq_true rfl)) dL_law_1598 hr0) hS (fun q _ h => by have h3 := h.1; show L ≤ q; omega) (fun q h => by have h3 := h.1; show L ≤ q; omega) (fun H locs hP hk hS => ?_)
  have hHr := hHr.keepR (H1 := H) (fun q h1 h2 => hk.2 q (by omega) (fun h => by have h3 := h.1; have h4 := h.2; omega))
  have hOu := hOu.kept (hk.2 _ hOu.lt (fun h => by have h3 := h.1; have h4 := h.2; omega))
  have hsz : L + 368 ≤ H.size := Nat.le_trans hsz hk.1
  clear hk
  obtain ⟨y, hMd, hDg⟩ := hP
  refine kx_cl (y := dgFc e (fnF (cfF e1 e)) ln (nI cn)) ((hRA.dg e1).symm) ?_
  refine W.lcmp hx hb dL_law_1601 ?_
  refine kl_if_eq (tgt := 1607) hx hb dL_law_1602 (by decide) (fun _ => ?_) (fun h9 => absurd rfl h9)
  exact K _ _ _ _ _ ⟨y, _, _, _, _, _, _, _, _, _, _, k9, _, _, _, _, hHr, hOu, hMd, (hRA.dgp hDg).alike hE9, hk8, hsz⟩ hS (Nat.le_add_right _ _) (Nat.le_add_right _ _) (lv_sub hl [0, 1, 2, 3, 4] rfl)
