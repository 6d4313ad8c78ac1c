/-! the law's calls, kinds 4 to 6 -/
set_option maxHeartbeats 2500000 in
set_option maxRecDepth 100000 in
theorem cs_move {p : Program} {l : Launch} {en : Env} {s : State} {m : MethodId} {below : List Frame} {meth : Method} {c : Code} {D : va_G} {cs : Nat → ClassId} {L : Nat} {aW aS aV : Nat → Nat} {tW tM bs N : Nat} {xs : Nat → Int32} {Q : State → Prop} (G : LwG p l s m c D cs L aW aS aV tW tM bs N xs) {i : Nat} (hi : i + 6 ≤ N) {H : Heap} {locs : List Loc} {cells slots : Nat} (hr : cells + 1 ≤ 601024 ∧ slots + 6 ≤ 7293034) (W0 : LwD D cs L aW H) (hS : va_S (fun q : Nat => L ≤ q) s.heap H locs) {ls : Array Slot} (hl : lv_has ls 8 [(4, .int (nI i)), (0, .ref bs), (1, .ref L), (2, .ref (L + 360)), (3, .ref (L + 367))])
  (K : ∀ (H : Heap) (locs : List Loc) (c1 s1 : Nat) (ls : Array Slot), LwD D cs L aW H → va_S (fun q : Nat => L ≤ q) s.heap H locs → c1 ≤ cells + 1 → s1 ≤ slots + 6 → lv_has ls 8 [(4, .int (nI i)), (0, .ref bs), (1, .ref L), (2, .ref (L + 360)), (3, .ref (L + 367))] → W p l en room_1 s m #[Value.ref bs] below meth c H locs c1 s1 Q (F0 m 1607 ls [])) :
  W p l en room_1 s m #[Value.ref bs] below meth c H locs cells slots Q (F0 m 448 ls []) := by
  obtain ⟨hx, hb, hml, hown, hts, hK, hN, hKW0, hXK0, hXN, hXs, hbl, hLs, hN9, hfl⟩ := G
  obtain ⟨z, e, g, e1, g1, nx, cn, se, sg, bt, nn9, k9, ln, pa, ft, f, hHr, hOu, hMd, hRA, hk8, hsz⟩ := W0
  have hbA : ¬ (fun q : Nat => L ≤ q) bs := by show ¬ L ≤ bs; omega
  have hr0 : cells + 0 ≤ room_1.cells ∧ slots + 0 ≤ room_1.slots := ⟨by show cells + 0 ≤ 601024; omega, by show slots + 0 ≤ 7293034; omega⟩
  have hr1 : cells + 1 ≤ room_1.cells ∧ slots + 6 ≤ room_1.slots := hr
  have hI := ev_R hRA.1
  have hG := hRA.2.1
  have hnx := hRA.2.2.1.1.2.1
  have hcn := hRA.2.2.1.1.2.2
  have hZ := hRA.invZ
  have hl150 := hRA.2.2.2.2.1
  have hsv0 := ra_sv hRA
  have hEI := hRA.1
  have hRR := EI.R hRA.1
  have hMM := EI.M hRA.1
  have hTl := hRA.tl
  have hSv := hRA.sv
  have h24 := hI.M24
  have h6 := hI.R6
  have hXK := hXK0.kept (H1 := H) (fun a h1 h2 => hS.2.1 a h1 h2)
  have hKW := hKW0.kept (H1 := H) (fun a h1 h2 => hS.2.1 a h1 h2)
  obtain ⟨q1, hq1⟩ : ∃ q : Int32, q = xs (i + 1) := ⟨_, rfl⟩
  obtain ⟨q2, hq2⟩ : ∃ q : Int32, q = xs (i + 2) := ⟨_, rfl⟩
  obtain ⟨q3, hq3⟩ : ∃ q : Int32, q = xs (i + 3) := ⟨_, rfl⟩
  obtain ⟨q4, hq4⟩ : ∃ q : Int32, q = xs (i + 4) := ⟨_, rfl⟩
  obtain ⟨q5, hq5⟩ : ∃ q : Int32, q = xs (i + 5) := ⟨_, rfl⟩
  rcases (show wmv z q1 q2 q3 q4 q5 = 0 ∨ wmv z q1 q2 q3 q4 q5 = 1 ∨ wmv z q1 q2 q3 q4 q5 = 2 ∨ wmv z q1 q2 q3 q4 q5 = 3 by have h9 := wmv_4 z q1 q2 q3 q4 q5; omega) with hw | hw | hw | hw
  · obtain ⟨qf, qa, qt, qb, qn, rfl, rfl, rfl, rfl, rfl, hf, ht, ha, hb9, hn, hM24, hwe, hee, hRs⟩ := hRA.sMove hw
    refine lv_aload_n hx hb dL_law_448 rfl (lv_at hl 2 rfl) ?_
    refine lv_aload_n hx hb dL_law_449 rfl (lv_at hl 1 rfl) ?_
    refine lv_iload hx hb dL_law_450 (lv_at hl 0 rfl) ?_
    refine lv_iconst (v := nI 1) hx hb dL_law_452 (by decide) ?_
    refine kn_add hx hb dL_law_453 ?_
    refine kx_sld (v := nI qf) hx hb hXs hbl hbA hS (by omega) hN9 hq1 dL_law_454 ?_
    refine lv_aload_n hx hb dL_law_455 rfl (lv_at hl 1 rfl) ?_
    refine lv_iload hx hb dL_law_456 (lv_at hl 0 rfl) ?_
    refine lv_iconst (v := nI 2) hx hb dL_law_458 (by decide) ?_
    refine kn_add hx hb dL_law_459 ?_
    refine kx_sld (v := nI qa) hx hb hXs hbl hbA hS (by omega) hN9 hq2 dL_law_460 ?_
    refine lv_aload_n hx hb dL_law_461 rfl (lv_at hl 1 rfl) ?_
    refine lv_iload hx hb dL_law_462 (lv_at hl 0 rfl) ?_
    refine lv_iconst (v := nI 3) hx hb dL_law_464 (by decide) ?_
    refine kn_add hx hb dL_law_465 ?_
    refine kx_sld (v := nI qt) hx hb hXs hbl hbA hS (by omega) hN9 hq3 dL_law_466 ?_
    refine lv_aload_n hx hb dL_law_467 rfl (lv_at hl 1 rfl) ?_
    refine lv_iload hx hb dL_law_468 (lv_at hl 0 rfl) ?_
    refine lv_iconst (v := nI 4) hx hb dL_law_470 (by decide) ?_
    refine kn_add hx hb dL_law_471 ?_
    refine kx_sld (v := nI qb) hx hb hXs hbl hbA hS (by omega) hN9 hq4 dL_law_472 ?_
    refine lv_aload_n hx hb dL_law_473 rfl (lv_at hl 1 rfl) ?_
    refine lv_iload hx hb dL_law_474 (lv_at hl 0 rfl) ?_
    refine lv_iconst (v := nI 5) hx hb dL_law_476 (by decide) ?_
    refine kn_add hx hb dL_law_477 ?_
    refine kx_sld (v := nI qn) hx hb hXs hbl hbA hS (by omega) hN9 hq5 dL_law_478 ?_
    refine lv_aload_n hx hb dL_law_479 rfl (lv_at hl 4 rfl) ?_
    refine kx_retM (vx_runSW (As := [.ref L, .int (nI qf), .int (nI qa), .int (nI qt), .int (nI qb), .int (nI qn), .ref (L + 367)]) (rest := []) ⟨hx, hb, hml, hown, hts⟩ (k_L_move l D cs L e g e1 g1 nx cn se sg bt nn9 (aW k9) ln pa ft qf qa qt qb qn hI hnx hcn hwe hM24 hf ht ha hb9 hn (L + 367) f (by omega) L (Nat.le_refl L) hfl) (vx_cwSW 7 hts gL_law_L_move rfl rfl rfl (by decide +kernel) ⟨Nat.le_of_ble_eq_true rfl, Nat.le_of_ble_eq_true rfl⟩) (kx_preY hK hN hXK hXN ⟨hHr, hOu⟩) rfl rfl hl.1 rfl (lv_room (Nat.le_of_ble_eq_true rfl)) dL_law_480 hr0) hS (fun q _ h => rg_lo h) (fun q h => rg_lo h) (fun H locs hP hk hS => ?_)
    obtain ⟨hHr, hOu⟩ := hP
    have hHr : HrC D cs L (pmF e (nI qf) (nI qa) (nI qt) (nI qb) (nI qn)) (pmG e g qf qa qt qb qn) e1 g1 ((nx + 1) % 4) (min (cn + 1) 4) (hsE se nx (cfF (se nx) e)) (hsG sg nx (cgM (sg nx) g (Mn e))) bt nn9 (aW k9) ln pa ft H := hHr
    have hMd := hMd.frame hk (fun q h1 h2 h => by rcases h with h | h <;> omega)
    have hsz : L + 368 ≤ H.size := Nat.le_trans hsz hk.1
    clear hk hXK hKW
    refine lv_istore (lv' := [(5, .int (nI 0)), (4, .int (nI i)), (0, .ref bs), (1, .ref L), (2, .ref (L + 360)), (3, .ref (L + 367))]) hx hb dL_law_483 hl (by decide) rfl (fun ls hl => ?_)
    refine lv_aload_n hx hb dL_law_485 rfl (lv_at hl 4 rfl) ?_
    refine lv_aload_n hx hb dL_law_486 rfl (lv_at hl 2 rfl) ?_
    refine lv_iload hx hb dL_law_487 (lv_at hl 1 rfl) ?_
    refine lv_iconst (v := nI 1) hx hb dL_law_489 (by decide) ?_
    refine kn_add hx hb dL_law_490 ?_
    refine kx_sld (v := nI qf) hx hb hXs hbl hbA hS (by omega) hN9 hq1 dL_law_491 ?_
    refine lv_aload_n hx hb dL_law_492 rfl (lv_at hl 2 rfl) ?_
    refine lv_iload hx hb dL_law_493 (lv_at hl 1 rfl) ?_
    refine lv_iconst (v := nI 2) hx hb dL_law_495 (by decide) ?_
    refine kn_add hx hb dL_law_496 ?_
    refine kx_sld (v := nI qa) hx hb hXs hbl hbA hS (by omega) hN9 hq2 dL_law_497 ?_
    refine lv_aload_n hx hb dL_law_498 rfl (lv_at hl 2 rfl) ?_
    refine lv_iload hx hb dL_law_499 (lv_at hl 1 rfl) ?_
    refine lv_iconst (v := nI 3) hx hb dL_law_501 (by decide) ?_
    refine kn_add hx hb dL_law_502 ?_
    refine kx_sld (v := nI qt) hx hb hXs hbl hbA hS (by omega) hN9 hq3 dL_law_503 ?_
    refine lv_aload_n hx hb dL_law_504 rfl (lv_at hl 2 rfl) ?_
    refine lv_iload hx hb dL_law_505 (lv_at hl 1 rfl) ?_
    refine lv_iconst (v := nI 4) hx hb dL_law_507 (by decide) ?_
    refine kn_add hx hb dL_law_508 ?_
    refine kx_sld (v := nI qb) hx hb hXs hbl hbA hS (by omega) hN9 hq4 dL_law_509 ?_
    refine lv_aload_n hx hb dL_law_510 rfl (lv_at hl 2 rfl) ?_
    refine lv_iload hx hb dL_law_511 (lv_at hl 1 rfl) ?_
    refine lv_iconst (v := nI 5) hx hb dL_law_513 (by decide) ?_
    refine kn_add hx hb dL_law_514 ?_
    refine kx_sld (v := nI qn) hx hb hXs hbl hbA hS (by omega) hN9 hq5 dL_law_515 ?_
    refine kx_retM (va_runV (As := [.int (nI qf), .int (nI qa), .int (nI qt), .int (nI qb), .int (nI qn)]) (rest := []) ⟨hx, hb, hml, hown, hts⟩ (k_X8_move l D cs (L + 360) z (nI qf) (nI qa) (nI qt) (nI qb) (nI qn) hZ) (cwV 5 hts gL_law_X8_move rfl rfl rfl (by decide +kernel) ⟨Nat.le_of_ble_eq_true rfl, Nat.le_of_ble_eq_true rfl⟩) (kx_preV hK hN hMd.1 rfl hMd) rfl rfl hl.1 rfl (lv_room (Nat.le_of_ble_eq_true rfl)) dL_law_516 hr0) hS (fun q _ h => by have h3 := h.1; show L ≤ q; omega) (fun q h => by have h3 := h.1; show L ≤ q; omega) (fun H locs hP hk hS => ?_)
    have hHr := hHr.keepR (H1 := H) (fun q h1 h2 => hk.2 q (by omega) (fun h => by have h3 := h.1; have h4 := h.2; omega))
    have hOu := hOu.kept (hk.2 _ hOu.lt (fun h => by have h3 := h.1; have h4 := h.2; omega))
    have hsz : L + 368 ≤ H.size := Nat.le_trans hsz hk.1
    clear hk
    have hMd : MdC D (cs 0) (L + 360) (pmF (svT z) (nI qf) (nI qa) (nI qt) (nI qb) (nI qn)) H := (by have q9 := hP; rw [if_pos hw] at q9; exact q9)
    refine kx_ci (y := nI (Mn e)) (by rw [if_pos hw, hee]) ?_
    refine lv_istore (lv' := [(6, .int (nI (Mn e))), (5, .int (nI 0)), (4, .int (nI i)), (0, .ref bs), (1, .ref L), (2, .ref (L + 360)), (3, .ref (L + 367))]) hx hb dL_law_519 hl (by decide) rfl (fun ls hl => ?_)
    refine lv_aload_n hx hb dL_law_521 rfl (lv_at hl 5 rfl) ?_
    refine kx_retP (va_runV (As := []) (rest := []) ⟨hx, hb, hml, hown, hts⟩ (k_X8_thrown l D cs (L + 360) (pmF (svT z) (nI qf) (nI qa) (nI qt) (nI qb) (nI qn))) (cwV 0 hts gL_law_X8_thrown rfl rfl rfl (by decide +kernel) ⟨Nat.le_of_ble_eq_true rfl, Nat.le_of_ble_eq_true rfl⟩) (kx_preV hK hN hMd.1 rfl hMd) rfl rfl hl.1 rfl (lv_room (Nat.le_of_ble_eq_true rfl)) dL_law_522 hr0) ?_
    refine kx_ci (y := nI 0) ((fr_pm (z := svT z) _ _ _ _ _ (by rw [svT_M, ← hee]; exact hM24) 4403 (by omega)).trans hsv0) ?_
    refine lv_iload hx hb dL_law_525 (lv_at hl 1 rfl) ?_
    refine lv_icmp_eq (tgt := 532) hx hb dL_law_527 (by decide) (fun _ => ?_) (fun h9 => absurd rfl h9)
    refine lv_iload hx hb dL_law_532 (lv_at hl 1 rfl) ?_
    refine lv_if_ne (tgt := 549) hx hb dL_law_534 (by decide) (fun h9 => absurd (show nI 0 = 0 by decide) h9) (fun _ => ?_)
    refine lv_aload_n hx hb dL_law_537 rfl (lv_at hl 6 rfl) ?_
    refine lv_iconst (v := nI 0) hx hb dL_law_538 (by decide) ?_
    refine kx_lald hx hb hK hOu 5 rfl (i := 0) (by decide) (by decide) dL_law_539 ?_
    refine kx_cl (y := (nI (Mn e)).toInt64) (vp_upd0 _ _) ?_
    refine lv_iload hx hb dL_law_540 (lv_at hl 0 rfl) ?_
    refine lv_i2l hx hb dL_law_542 rfl ?_
    refine W.lcmp hx hb dL_law_543 ?_
    refine kl_if_eq (tgt := 549) hx hb dL_law_544 (by decide) (fun _ => ?_) (fun h9 => absurd rfl h9)
    refine lv_goto (tgt := 1607) hx hb dL_law_549 (by decide) ?_
    exact K _ _ _ _ _ ⟨pmF (svT z) (nI qf) (nI qa) (nI qt) (nI qb) (nI qn), _, _, _, _, _, _, _, _, _, _, k9, _, _, _, _, hHr, hOu, hMd, hRs, hk8, hsz⟩ hS (Nat.le_add_right _ _) (Nat.le_add_right _ _) (lv_sub hl [2, 3, 4, 5, 6] rfl)
  · have hwe := (hRA.e_wmv q1 q2 q3 q4 q5).trans hw
    refine lv_aload_n hx hb dL_law_448 rfl (lv_at hl 2 rfl) ?_
    refine lv_aload_n hx hb dL_law_449 rfl (lv_at hl 1 rfl) ?_
    refine lv_iload hx hb dL_law_450 (lv_at hl 0 rfl) ?_
    refine lv_iconst (v := nI 1) hx hb dL_law_452 (by decide) ?_
    refine kn_add hx hb dL_law_453 ?_
    refine kx_sld (v := q1) hx hb hXs hbl hbA hS (by omega) hN9 hq1 dL_law_454 ?_
    refine lv_aload_n hx hb dL_law_455 rfl (lv_at hl 1 rfl) ?_
    refine lv_iload hx hb dL_law_456 (lv_at hl 0 rfl) ?_
    refine lv_iconst (v := nI 2) hx hb dL_law_458 (by decide) ?_
    refine kn_add hx hb dL_law_459 ?_
    refine kx_sld (v := q2) hx hb hXs hbl hbA hS (by omega) hN9 hq2 dL_law_460 ?_
    refine lv_aload_n hx hb dL_law_461 rfl (lv_at hl 1 rfl) ?_
    refine lv_iload hx hb dL_law_462 (lv_at hl 0 rfl) ?_
    refine lv_iconst (v := nI 3) hx hb dL_law_464 (by decide) ?_
    refine kn_add hx hb dL_law_465 ?_
    refine kx_sld (v := q3) hx hb hXs hbl hbA hS (by omega) hN9 hq3 dL_law_466 ?_
    refine lv_aload_n hx hb dL_law_467 rfl (lv_at hl 1 rfl) ?_
    refine lv_iload hx hb dL_law_468 (lv_at hl 0 rfl) ?_
    refine lv_iconst (v := nI 4) hx hb dL_law_470 (by decide) ?_
    refine kn_add hx hb dL_law_471 ?_
    refine kx_sld (v := q4) hx hb hXs hbl hbA hS (by omega) hN9 hq4 dL_law_472 ?_
    refine lv_aload_n hx hb dL_law_473 rfl (lv_at hl 1 rfl) ?_
    refine lv_iload hx hb dL_law_474 (lv_at hl 0 rfl) ?_
    refine lv_iconst (v := nI 5) hx hb dL_law_476 (by decide) ?_
    refine kn_add hx hb dL_law_477 ?_
    refine kx_sld (v := q5) hx hb hXs hbl hbA hS (by omega) hN9 hq5 dL_law_478 ?_
    refine lv_aload_n hx hb dL_law_479 rfl (lv_at hl 4 rfl) ?_
    refine kx_retN (vx_runSW (As := [.ref L, .int q1, .int q2, .int q3, .int q4, .int q5, .ref (L + 367)]) (rest := []) ⟨hx, hb, hml, hown, hts⟩ (k_L_moveT1 l D cs L e g e1 g1 nx cn se sg bt nn9 (aW k9) ln pa ft q1 q2 q3 q4 q5 hI hwe (L + 367) f (by omega) L (Nat.le_refl L) hfl) (vx_cwSW 7 hts gL_law_L_move rfl rfl rfl (by decide +kernel) ⟨Nat.le_of_ble_eq_true rfl, Nat.le_of_ble_eq_true rfl⟩) (kx_preY hK hN hXK hXN ⟨hHr, hOu⟩) rfl rfl hl.1 rfl (lv_room (Nat.le_of_ble_eq_true rfl)) dL_law_480 hr1) hS (fun q _ h => rg_lo h) (fun q h => rg_lo h) (fun H locs hP hk hS => ?_)
    obtain ⟨hHr, hOu⟩ := hP
    have hHr : HrC D cs L e g e1 g1 nx cn se sg bt nn9 (aW k9) ln pa ft H := hHr
    have hMd := hMd.frame hk (fun q h1 h2 h => by rcases h with h | h <;> omega)
    have hsz : L + 368 ≤ H.size := Nat.le_trans hsz hk.1
    clear hk hXK hKW
    refine lv_istore (lv' := [(5, .int (nI 1)), (4, .int (nI i)), (0, .ref bs), (1, .ref L), (2, .ref (L + 360)), (3, .ref (L + 367))]) hx hb dL_law_483 hl (by decide) rfl (fun ls hl => ?_)
    refine lv_aload_n hx hb dL_law_485 rfl (lv_at hl 4 rfl) ?_
    refine lv_aload_n hx hb dL_law_486 rfl (lv_at hl 2 rfl) ?_
    refine lv_iload hx hb dL_law_487 (lv_at hl 1 rfl) ?_
    refine lv_iconst (v := nI 1) hx hb dL_law_489 (by decide) ?_
    refine kn_add hx hb dL_law_490 ?_
    refine kx_sld (v := q1) hx hb hXs hbl hbA hS (by omega) hN9 hq1 dL_law_491 ?_
    refine lv_aload_n hx hb dL_law_492 rfl (lv_at hl 2 rfl) ?_
    refine lv_iload hx hb dL_law_493 (lv_at hl 1 rfl) ?_
    refine lv_iconst (v := nI 2) hx hb dL_law_495 (by decide) ?_
    refine kn_add hx hb dL_law_496 ?_
    refine kx_sld (v := q2) hx hb hXs hbl hbA hS (by omega) hN9 hq2 dL_law_497 ?_
    refine lv_aload_n hx hb dL_law_498 rfl (lv_at hl 2 rfl) ?_
    refine lv_iload hx hb dL_law_499 (lv_at hl 1 rfl) ?_
    refine lv_iconst (v := nI 3) hx hb dL_law_501 (by decide) ?_
    refine kn_add hx hb dL_law_502 ?_
    refine kx_sld (v := q3) hx hb hXs hbl hbA hS (by omega) hN9 hq3 dL_law_503 ?_
    refine lv_aload_n hx hb dL_law_504 rfl (lv_at hl 2 rfl) ?_
    refine lv_iload hx hb dL_law_505 (lv_at hl 1 rfl) ?_
    refine lv_iconst (v := nI 4) hx hb dL_law_507 (by decide) ?_
    refine kn_add hx hb dL_law_508 ?_
    refine kx_sld (v := q4) hx hb hXs hbl hbA hS (by omega) hN9 hq4 dL_law_509 ?_
    refine lv_aload_n hx hb dL_law_510 rfl (lv_at hl 2 rfl) ?_
    refine lv_iload hx hb dL_law_511 (lv_at hl 1 rfl) ?_
    refine lv_iconst (v := nI 5) hx hb dL_law_513 (by decide) ?_
    refine kn_add hx hb dL_law_514 ?_
    refine kx_sld (v := q5) hx hb hXs hbl hbA hS (by omega) hN9 hq5 dL_law_515 ?_
    refine kx_retM (va_runV (As := [.int q1, .int q2, .int q3, .int q4, .int q5]) (rest := []) ⟨hx, hb, hml, hown, hts⟩ (k_X8_move l D cs (L + 360) z q1 q2 q3 q4 q5 hZ) (cwV 5 hts gL_law_X8_move rfl rfl rfl (by decide +kernel) ⟨Nat.le_of_ble_eq_true rfl, Nat.le_of_ble_eq_true rfl⟩) (kx_preV hK hN hMd.1 rfl hMd) rfl rfl hl.1 rfl (lv_room (Nat.le_of_ble_eq_true rfl)) dL_law_516 ⟨hr1.1, hr1.2⟩) hS (fun q _ h => by have h3 := h.1; show L ≤ q; omega) (fun q h => by have h3 := h.1; show L ≤ q; omega) (fun H locs hP hk hS => ?_)
    have hHr := hHr.keepR (H1 := H) (fun q h1 h2 => hk.2 q (by omega) (fun h => by have h3 := h.1; have h4 := h.2; omega))
    have hOu := hOu.kept (hk.2 _ hOu.lt (fun h => by have h3 := h.1; have h4 := h.2; omega))
    have hsz : L + 368 ≤ H.size := Nat.le_trans hsz hk.1
    clear hk
    have hMd : MdC D (cs 0) (L + 360) (upd z 4403 (nI 1)) H := (by have q9 := hP; rw [hw, if_neg (by decide)] at q9; exact q9)
    refine kx_ci (y := nI 0) (if_neg (by rw [hw]; decide)) ?_
    refine lv_istore (lv' := [(6, .int (nI 0)), (5, .int (nI 1)), (4, .int (nI i)), (0, .ref bs), (1, .ref L), (2, .ref (L + 360)), (3, .ref (L + 367))]) hx hb dL_law_519 hl (by decide) rfl (fun ls hl => ?_)
    refine lv_aload_n hx hb dL_law_521 rfl (lv_at hl 5 rfl) ?_
    refine kx_retP (va_runV (As := []) (rest := []) ⟨hx, hb, hml, hown, hts⟩ (k_X8_thrown l D cs (L + 360) (upd z 4403 (nI 1))) (cwV 0 hts gL_law_X8_thrown rfl rfl rfl (by decide +kernel) ⟨Nat.le_of_ble_eq_true rfl, Nat.le_of_ble_eq_true rfl⟩) (kx_preV hK hN hMd.1 rfl hMd) rfl rfl hl.1 rfl (lv_room (Nat.le_of_ble_eq_true rfl)) dL_law_522 ⟨hr1.1, hr1.2⟩) ?_
    refine kx_ci (y := nI 1) (th_thr _) ?_
    refine lv_iload hx hb dL_law_525 (lv_at hl 1 rfl) ?_
    refine lv_icmp_eq (tgt := 532) hx hb dL_law_527 (by decide) (fun _ => ?_) (fun h9 => absurd rfl h9)
    refine lv_iload hx hb dL_law_532 (lv_at hl 1 rfl) ?_
    refine lv_if_ne (tgt := 549) hx hb dL_law_534 (by decide) (fun _ => ?_) (fun h9 => absurd h9 (by decide))
    refine lv_goto (tgt := 1607) hx hb dL_law_549 (by decide) ?_
    exact K _ _ _ _ _ ⟨upd z 4403 (nI 1), _, _, _, _, _, _, _, _, _, _, k9, _, _, _, _, hHr, hOu, hMd, hRA.thr _, hk8, hsz⟩ hS (Nat.le_refl _) (Nat.le_refl _) (lv_sub hl [2, 3, 4, 5, 6] rfl)
  · have hwe := (hRA.e_wmv q1 q2 q3 q4 q5).trans hw
    refine lv_aload_n hx hb dL_law_448 rfl (lv_at hl 2 rfl) ?_
    refine lv_aload_n hx hb dL_law_449 rfl (lv_at hl 1 rfl) ?_
    refine lv_iload hx hb dL_law_450 (lv_at hl 0 rfl) ?_
    refine lv_iconst (v := nI 1) hx hb dL_law_452 (by decide) ?_
    refine kn_add hx hb dL_law_453 ?_
    refine kx_sld (v := q1) hx hb hXs hbl hbA hS (by omega) hN9 hq1 dL_law_454 ?_
    refine lv_aload_n hx hb dL_law_455 rfl (lv_at hl 1 rfl) ?_
    refine lv_iload hx hb dL_law_456 (lv_at hl 0 rfl) ?_
    refine lv_iconst (v := nI 2) hx hb dL_law_458 (by decide) ?_
    refine kn_add hx hb dL_law_459 ?_
    refine kx_sld (v := q2) hx hb hXs hbl hbA hS (by omega) hN9 hq2 dL_law_460 ?_
    refine lv_aload_n hx hb dL_law_461 rfl (lv_at hl 1 rfl) ?_
    refine lv_iload hx hb dL_law_462 (lv_at hl 0 rfl) ?_
    refine lv_iconst (v := nI 3) hx hb dL_law_464 (by decide) ?_
    refine kn_add hx hb dL_law_465 ?_
    refine kx_sld (v := q3) hx hb hXs hbl hbA hS (by omega) hN9 hq3 dL_law_466 ?_
    refine lv_aload_n hx hb dL_law_467 rfl (lv_at hl 1 rfl) ?_
    refine lv_iload hx hb dL_law_468 (lv_at hl 0 rfl) ?_
    refine lv_iconst (v := nI 4) hx hb dL_law_470 (by decide) ?_
    refine kn_add hx hb dL_law_471 ?_
    refine kx_sld (v := q4) hx hb hXs hbl hbA hS (by omega) hN9 hq4 dL_law_472 ?_
    refine lv_aload_n hx hb dL_law_473 rfl (lv_at hl 1 rfl) ?_
    refine lv_iload hx hb dL_law_474 (lv_at hl 0 rfl) ?_
    refine lv_iconst (v := nI 5) hx hb dL_law_476 (by decide) ?_
    refine kn_add hx hb dL_law_477 ?_
    refine kx_sld (v := q5) hx hb hXs hbl hbA hS (by omega) hN9 hq5 dL_law_478 ?_
    refine lv_aload_n hx hb dL_law_479 rfl (lv_at hl 4 rfl) ?_
    refine kx_retN (vx_runSW (As := [.ref L, .int q1, .int q2, .int q3, .int q4, .int q5, .ref (L + 367)]) (rest := []) ⟨hx, hb, hml, hown, hts⟩ (k_L_moveT2 l D cs L e g e1 g1 nx cn se sg bt nn9 (aW k9) ln pa ft q1 q2 q3 q4 q5 hI hwe (L + 367) f (by omega) L (Nat.le_refl L) hfl) (vx_cwSW 7 hts gL_law_L_move rfl rfl rfl (by decide +kernel) ⟨Nat.le_of_ble_eq_true rfl, Nat.le_of_ble_eq_true rfl⟩) (kx_preY hK hN hXK hXN ⟨hHr, hOu⟩) rfl rfl hl.1 rfl (lv_room (Nat.le_of_ble_eq_true rfl)) dL_law_480 hr1) hS (fun q _ h => rg_lo h) (fun q h => rg_lo h) (fun H locs hP hk hS => ?_)
    obtain ⟨hHr, hOu⟩ := hP
    have hHr : HrC D cs L e g e1 g1 nx cn se sg bt nn9 (aW k9) ln pa ft H := hHr
    have hMd := hMd.frame hk (fun q h1 h2 h => by rcases h with h | h <;> omega)
    have hsz : L + 368 ≤ H.size := Nat.le_trans hsz hk.1
    clear hk hXK hKW
    refine lv_istore (lv' := [(5, .int (nI 2)), (4, .int (nI i)), (0, .ref bs), (1, .ref L), (2, .ref (L + 360)), (3, .ref (L + 367))]) hx hb dL_law_483 hl (by decide) rfl (fun ls hl => ?_)
    refine lv_aload_n hx hb dL_law_485 rfl (lv_at hl 4 rfl) ?_
    refine lv_aload_n hx hb dL_law_486 rfl (lv_at hl 2 rfl) ?_
    refine lv_iload hx hb dL_law_487 (lv_at hl 1 rfl) ?_
    refine lv_iconst (v := nI 1) hx hb dL_law_489 (by decide) ?_
    refine kn_add hx hb dL_law_490 ?_
    refine kx_sld (v := q1) hx hb hXs hbl hbA hS (by omega) hN9 hq1 dL_law_491 ?_
    refine lv_aload_n hx hb dL_law_492 rfl (lv_at hl 2 rfl) ?_
    refine lv_iload hx hb dL_law_493 (lv_at hl 1 rfl) ?_
    refine lv_iconst (v := nI 2) hx hb dL_law_495 (by decide) ?_
    refine kn_add hx hb dL_law_496 ?_
    refine kx_sld (v := q2) hx hb hXs hbl hbA hS (by omega) hN9 hq2 dL_law_497 ?_
    refine lv_aload_n hx hb dL_law_498 rfl (lv_at hl 2 rfl) ?_
    refine lv_iload hx hb dL_law_499 (lv_at hl 1 rfl) ?_
    refine lv_iconst (v := nI 3) hx hb dL_law_501 (by decide) ?_
    refine kn_add hx hb dL_law_502 ?_
    refine kx_sld (v := q3) hx hb hXs hbl hbA hS (by omega) hN9 hq3 dL_law_503 ?_
    refine lv_aload_n hx hb dL_law_504 rfl (lv_at hl 2 rfl) ?_
    refine lv_iload hx hb dL_law_505 (lv_at hl 1 rfl) ?_
    refine lv_iconst (v := nI 4) hx hb dL_law_507 (by decide) ?_
    refine kn_add hx hb dL_law_508 ?_
    refine kx_sld (v := q4) hx hb hXs hbl hbA hS (by omega) hN9 hq4 dL_law_509 ?_
    refine lv_aload_n hx hb dL_law_510 rfl (lv_at hl 2 rfl) ?_
    refine lv_iload hx hb dL_law_511 (lv_at hl 1 rfl) ?_
    refine lv_iconst (v := nI 5) hx hb dL_law_513 (by decide) ?_
    refine kn_add hx hb dL_law_514 ?_
    refine kx_sld (v := q5) hx hb hXs hbl hbA hS (by omega) hN9 hq5 dL_law_515 ?_
    refine kx_retM (va_runV (As := [.int q1, .int q2, .int q3, .int q4, .int q5]) (rest := []) ⟨hx, hb, hml, hown, hts⟩ (k_X8_move l D cs (L + 360) z q1 q2 q3 q4 q5 hZ) (cwV 5 hts gL_law_X8_move rfl rfl rfl (by decide +kernel) ⟨Nat.le_of_ble_eq_true rfl, Nat.le_of_ble_eq_true rfl⟩) (kx_preV hK hN hMd.1 rfl hMd) rfl rfl hl.1 rfl (lv_room (Nat.le_of_ble_eq_true rfl)) dL_law_516 ⟨hr1.1, hr1.2⟩) hS (fun q _ h => by have h3 := h.1; show L ≤ q; omega) (fun q h => by have h3 := h.1; show L ≤ q; omega) (fun H locs hP hk hS => ?_)
    have hHr := hHr.keepR (H1 := H) (fun q h1 h2 => hk.2 q (by omega) (fun h => by have h3 := h.1; have h4 := h.2; omega))
    have hOu := hOu.kept (hk.2 _ hOu.lt (fun h => by have h3 := h.1; have h4 := h.2; omega))
    have hsz : L + 368 ≤ H.size := Nat.le_trans hsz hk.1
    clear hk
    have hMd : MdC D (cs 0) (L + 360) (upd z 4403 (nI 2)) H := (by have q9 := hP; rw [hw, if_neg (by decide)] at q9; exact q9)
    refine kx_ci (y := nI 0) (if_neg (by rw [hw]; decide)) ?_
    refine lv_istore (lv' := [(6, .int (nI 0)), (5, .int (nI 2)), (4, .int (nI i)), (0, .ref bs), (1, .ref L), (2, .ref (L + 360)), (3, .ref (L + 367))]) hx hb dL_law_519 hl (by decide) rfl (fun ls hl => ?_)
    refine lv_aload_n hx hb dL_law_521 rfl (lv_at hl 5 rfl) ?_
    refine kx_retP (va_runV (As := []) (rest := []) ⟨hx, hb, hml, hown, hts⟩ (k_X8_thrown l D cs (L + 360) (upd z 4403 (nI 2))) (cwV 0 hts gL_law_X8_thrown rfl rfl rfl (by decide +kernel) ⟨Nat.le_of_ble_eq_true rfl, Nat.le_of_ble_eq_true rfl⟩) (kx_preV hK hN hMd.1 rfl hMd) rfl rfl hl.1 rfl (lv_room (Nat.le_of_ble_eq_true rfl)) dL_law_522 ⟨hr1.1, hr1.2⟩) ?_
    refine kx_ci (y := nI 2) (th_thr _) ?_
    refine lv_iload hx hb dL_law_525 (lv_at hl 1 rfl) ?_
    refine lv_icmp_eq (tgt := 532) hx hb dL_law_527 (by decide) (fun _ => ?_) (fun h9 => absurd rfl h9)
    refine lv_iload hx hb dL_law_532 (lv_at hl 1 rfl) ?_
    refine lv_if_ne (tgt := 549) hx hb dL_law_534 (by decide) (fun _ => ?_) (fun h9 => absurd h9 (by decide))
    refine lv_goto (tgt := 1607) hx hb dL_law_549 (by decide) ?_
    exact K _ _ _ _ _ ⟨upd z 4403 (nI 2), _, _, _, _, _, _, _, _, _, _, k9, _, _, _, _, hHr, hOu, hMd, hRA.thr _, hk8, hsz⟩ hS (Nat.le_refl _) (Nat.le_refl _) (lv_sub hl [2, 3, 4, 5, 6] rfl)
  · have hwe := (hRA.e_wmv q1 q2 q3 q4 q5).trans hw
    refine lv_aload_n hx hb dL_law_448 rfl (lv_at hl 2 rfl) ?_
    refine lv_aload_n hx hb dL_law_449 rfl (lv_at hl 1 rfl) ?_
    refine lv_iload hx hb dL_law_450 (lv_at hl 0 rfl) ?_
    refine lv_iconst (v := nI 1) hx hb dL_law_452 (by decide) ?_
    refine kn_add hx hb dL_law_453 ?_
    refine kx_sld (v := q1) hx hb hXs hbl hbA hS (by omega) hN9 hq1 dL_law_454 ?_
    refine lv_aload_n hx hb dL_law_455 rfl (lv_at hl 1 rfl) ?_
    refine lv_iload hx hb dL_law_456 (lv_at hl 0 rfl) ?_
    refine lv_iconst (v := nI 2) hx hb dL_law_458 (by decide) ?_
    refine kn_add hx hb dL_law_459 ?_
    refine kx_sld (v := q2) hx hb hXs hbl hbA hS (by omega) hN9 hq2 dL_law_460 ?_
    refine lv_aload_n hx hb dL_law_461 rfl (lv_at hl 1 rfl) ?_
    refine lv_iload hx hb dL_law_462 (lv_at hl 0 rfl) ?_
    refine lv_iconst (v := nI 3) hx hb dL_law_464 (by decide) ?_
    refine kn_add hx hb dL_law_465 ?_
    refine kx_sld (v := q3) hx hb hXs hbl hbA hS (by omega) hN9 hq3 dL_law_466 ?_
    refine lv_aload_n hx hb dL_law_467 rfl (lv_at hl 1 rfl) ?_
    refine lv_iload hx hb dL_law_468 (lv_at hl 0 rfl) ?_
    refine lv_iconst (v := nI 4) hx hb dL_law_470 (by decide) ?_
    refine kn_add hx hb dL_law_471 ?_
    refine kx_sld (v := q4) hx hb hXs hbl hbA hS (by omega) hN9 hq4 dL_law_472 ?_
    refine lv_aload_n hx hb dL_law_473 rfl (lv_at hl 1 rfl) ?_
    refine lv_iload hx hb dL_law_474 (lv_at hl 0 rfl) ?_
    refine lv_iconst (v := nI 5) hx hb dL_law_476 (by decide) ?_
    refine kn_add hx hb dL_law_477 ?_
    refine kx_sld (v := q5) hx hb hXs hbl hbA hS (by omega) hN9 hq5 dL_law_478 ?_
    refine lv_aload_n hx hb dL_law_479 rfl (lv_at hl 4 rfl) ?_
    refine kx_retN (vx_runSW (As := [.ref L, .int q1, .int q2, .int q3, .int q4, .int q5, .ref (L + 367)]) (rest := []) ⟨hx, hb, hml, hown, hts⟩ (k_L_moveT3 l D cs L e g e1 g1 nx cn se sg bt nn9 (aW k9) ln pa ft q1 q2 q3 q4 q5 hI hwe (L + 367) f (by omega) L (Nat.le_refl L) hfl) (vx_cwSW 7 hts gL_law_L_move rfl rfl rfl (by decide +kernel) ⟨Nat.le_of_ble_eq_true rfl, Nat.le_of_ble_eq_true rfl⟩) (kx_preY hK hN hXK hXN ⟨hHr, hOu⟩) rfl rfl hl.1 rfl (lv_room (Nat.le_of_ble_eq_true rfl)) dL_law_480 hr1) hS (fun q _ h => rg_lo h) (fun q h => rg_lo h) (fun H locs hP hk hS => ?_)
    obtain ⟨hHr, hOu⟩ := hP
    have hHr : HrC D cs L e g e1 g1 nx cn se sg bt nn9 (aW k9) ln pa ft H := hHr
    have hMd := hMd.frame hk (fun q h1 h2 h => by rcases h with h | h <;> omega)
    have hsz : L + 368 ≤ H.size := Nat.le_trans hsz hk.1
    clear hk hXK hKW
    refine lv_istore (lv' := [(5, .int (nI 3)), (4, .int (nI i)), (0, .ref bs), (1, .ref L), (2, .ref (L + 360)), (3, .ref (L + 367))]) hx hb dL_law_483 hl (by decide) rfl (fun ls hl => ?_)
    refine lv_aload_n hx hb dL_law_485 rfl (lv_at hl 4 rfl) ?_
    refine lv_aload_n hx hb dL_law_486 rfl (lv_at hl 2 rfl) ?_
    refine lv_iload hx hb dL_law_487 (lv_at hl 1 rfl) ?_
    refine lv_iconst (v := nI 1) hx hb dL_law_489 (by decide) ?_
    refine kn_add hx hb dL_law_490 ?_
    refine kx_sld (v := q1) hx hb hXs hbl hbA hS (by omega) hN9 hq1 dL_law_491 ?_
    refine lv_aload_n hx hb dL_law_492 rfl (lv_at hl 2 rfl) ?_
    refine lv_iload hx hb dL_law_493 (lv_at hl 1 rfl) ?_
    refine lv_iconst (v := nI 2) hx hb dL_law_495 (by decide) ?_
    refine kn_add hx hb dL_law_496 ?_
    refine kx_sld (v := q2) hx hb hXs hbl hbA hS (by omega) hN9 hq2 dL_law_497 ?_
    refine lv_aload_n hx hb dL_law_498 rfl (lv_at hl 2 rfl) ?_
    refine lv_iload hx hb dL_law_499 (lv_at hl 1 rfl) ?_
    refine lv_iconst (v := nI 3) hx hb dL_law_501 (by decide) ?_
    refine kn_add hx hb dL_law_502 ?_
    refine kx_sld (v := q3) hx hb hXs hbl hbA hS (by omega) hN9 hq3 dL_law_503 ?_
    refine lv_aload_n hx hb dL_law_504 rfl (lv_at hl 2 rfl) ?_
    refine lv_iload hx hb dL_law_505 (lv_at hl 1 rfl) ?_
    refine lv_iconst (v := nI 4) hx hb dL_law_507 (by decide) ?_
    refine kn_add hx hb dL_law_508 ?_
    refine kx_sld (v := q4) hx hb hXs hbl hbA hS (by omega) hN9 hq4 dL_law_509 ?_
    refine lv_aload_n hx hb dL_law_510 rfl (lv_at hl 2 rfl) ?_
    refine lv_iload hx hb dL_law_511 (lv_at hl 1 rfl) ?_
    refine lv_iconst (v := nI 5) hx hb dL_law_513 (by decide) ?_
    refine kn_add hx hb dL_law_514 ?_
    refine kx_sld (v := q5) hx hb hXs hbl hbA hS (by omega) hN9 hq5 dL_law_515 ?_
    refine kx_retM (va_runV (As := [.int q1, .int q2, .int q3, .int q4, .int q5]) (rest := []) ⟨hx, hb, hml, hown, hts⟩ (k_X8_move l D cs (L + 360) z q1 q2 q3 q4 q5 hZ) (cwV 5 hts gL_law_X8_move rfl rfl rfl (by decide +kernel) ⟨Nat.le_of_ble_eq_true rfl, Nat.le_of_ble_eq_true rfl⟩) (kx_preV hK hN hMd.1 rfl hMd) rfl rfl hl.1 rfl (lv_room (Nat.le_of_ble_eq_true rfl)) dL_law_516 ⟨hr1.1, hr1.2⟩) hS (fun q _ h => by have h3 := h.1; show L ≤ q; omega) (fun q h => by have h3 := h.1; show L ≤ q; omega) (fun H locs hP hk hS => ?_)
    have hHr := hHr.keepR (H1 := H) (fun q h1 h2 => hk.2 q (by omega) (fun h => by have h3 := h.1; have h4 := h.2; omega))
    have hOu := hOu.kept (hk.2 _ hOu.lt (fun h => by have h3 := h.1; have h4 := h.2; omega))
    have hsz : L + 368 ≤ H.size := Nat.le_trans hsz hk.1
    clear hk
    have hMd : MdC D (cs 0) (L + 360) (upd z 4403 (nI 3)) H := (by have q9 := hP; rw [hw, if_neg (by decide)] at q9; exact q9)
    refine kx_ci (y := nI 0) (if_neg (by rw [hw]; decide)) ?_
    refine lv_istore (lv' := [(6, .int (nI 0)), (5, .int (nI 3)), (4, .int (nI i)), (0, .ref bs), (1, .ref L), (2, .ref (L + 360)), (3, .ref (L + 367))]) hx hb dL_law_519 hl (by decide) rfl (fun ls hl => ?_)
    refine lv_aload_n hx hb dL_law_521 rfl (lv_at hl 5 rfl) ?_
    refine kx_retP (va_runV (As := []) (rest := []) ⟨hx, hb, hml, hown, hts⟩ (k_X8_thrown l D cs (L + 360) (upd z 4403 (nI 3))) (cwV 0 hts gL_law_X8_thrown rfl rfl rfl (by decide +kernel) ⟨Nat.le_of_ble_eq_true rfl, Nat.le_of_ble_eq_true rfl⟩) (kx_preV hK hN hMd.1 rfl hMd) rfl rfl hl.1 rfl (lv_room (Nat.le_of_ble_eq_true rfl)) dL_law_522 ⟨hr1.1, hr1.2⟩) ?_
    refine kx_ci (y := nI 3) (th_thr _) ?_
    refine lv_iload hx hb dL_law_525 (lv_at hl 1 rfl) ?_
    refine lv_icmp_eq (tgt := 532) hx hb dL_law_527 (by decide) (fun _ => ?_) (fun h9 => absurd rfl h9)
    refine lv_iload hx hb dL_law_532 (lv_at hl 1 rfl) ?_
    refine lv_if_ne (tgt := 549) hx hb dL_law_534 (by decide) (fun _ => ?_) (fun h9 => absurd h9 (by decide))
    refine lv_goto (tgt := 1607) hx hb dL_law_549 (by decide) ?_
    exact K _ _ _ _ _ ⟨upd z 4403 (nI 3), _, _, _, _, _, _, _, _, _, _, k9, _, _, _, _, hHr, hOu, hMd, hRA.thr _, hk8, hsz⟩ hS (Nat.le_refl _) (Nat.le_refl _) (lv_sub hl [2, 3, 4, 5, 6] rfl)
set_option maxHeartbeats 2500000 in
set_option maxRecDepth 100000 in
theorem cs_sign {p : Program} {l : Launch} {en : Env} {s : State} {m : MethodId} {below : List Frame} {meth : Method} {c : Code} {D : va_G} {cs : Nat → ClassId} {L : Nat} {aW aS aV : Nat → Nat} {tW tM bs N : Nat} {xs : Nat → Int32} {Q : State → Prop} (G : LwG p l s m c D cs L aW aS aV tW tM bs N xs) {i : Nat} (hi : i + 6 ≤ N) {H : Heap} {locs : List Loc} {cells slots : Nat} (hr : cells + 1 ≤ 601024 ∧ slots + 6 ≤ 7293034) (W0 : LwD D cs L aW H) (hS : va_S (fun q : Nat => L ≤ q) s.heap H locs) {ls : Array Slot} (hl : lv_has ls 8 [(4, .int (nI i)), (0, .ref bs), (1, .ref L), (2, .ref (L + 360)), (3, .ref (L + 367))])
  (K : ∀ (H : Heap) (locs : List Loc) (c1 s1 : Nat) (ls : Array Slot), LwD D cs L aW H → va_S (fun q : Nat => L ≤ q) s.heap H locs → c1 ≤ cells + 1 → s1 ≤ slots + 6 → lv_has ls 8 [(4, .int (nI i)), (0, .ref bs), (1, .ref L), (2, .ref (L + 360)), (3, .ref (L + 367))] → W p l en room_1 s m #[Value.ref bs] below meth c H locs c1 s1 Q (F0 m 1607 ls [])) :
  W p l en room_1 s m #[Value.ref bs] below meth c H locs cells slots Q (F0 m 552 ls []) := by
  obtain ⟨hx, hb, hml, hown, hts, hK, hN, hKW0, hXK0, hXN, hXs, hbl, hLs, hN9, hfl⟩ := G
  obtain ⟨z, e, g, e1, g1, nx, cn, se, sg, bt, nn9, k9, ln, pa, ft, f, hHr, hOu, hMd, hRA, hk8, hsz⟩ := W0
  have hbA : ¬ (fun q : Nat => L ≤ q) bs := by show ¬ L ≤ bs; omega
  have hr0 : cells + 0 ≤ room_1.cells ∧ slots + 0 ≤ room_1.slots := ⟨by show cells + 0 ≤ 601024; omega, by show slots + 0 ≤ 7293034; omega⟩
  have hr1 : cells + 1 ≤ room_1.cells ∧ slots + 6 ≤ room_1.slots := hr
  have hI := ev_R hRA.1
  have hG := hRA.2.1
  have hnx := hRA.2.2.1.1.2.1
  have hcn := hRA.2.2.1.1.2.2
  have hZ := hRA.invZ
  have hl150 := hRA.2.2.2.2.1
  have hsv0 := ra_sv hRA
  have hEI := hRA.1
  have hRR := EI.R hRA.1
  have hMM := EI.M hRA.1
  have hTl := hRA.tl
  have hSv := hRA.sv
  have h24 := hI.M24
  have h6 := hI.R6
  have hXK := hXK0.kept (H1 := H) (fun a h1 h2 => hS.2.1 a h1 h2)
  have hKW := hKW0.kept (H1 := H) (fun a h1 h2 => hS.2.1 a h1 h2)
  obtain ⟨q1, hq1⟩ : ∃ q : Int32, q = xs (i + 1) := ⟨_, rfl⟩
  rcases (show wsg z q1 = 0 ∨ wsg z q1 = 1 ∨ wsg z q1 = 2 by have h9 := wsg_3 (z := z) (x := q1); omega) with hw | hw | hw
  · obtain ⟨r, rfl, hrR, hfM, hwe, hee, hRs⟩ := hRA.sSign hw
    refine lv_aload_n hx hb dL_law_552 rfl (lv_at hl 2 rfl) ?_
    refine lv_aload_n hx hb dL_law_553 rfl (lv_at hl 1 rfl) ?_
    refine lv_iload hx hb dL_law_554 (lv_at hl 0 rfl) ?_
    refine lv_iconst (v := nI 1) hx hb dL_law_556 (by decide) ?_
    refine kn_add hx hb dL_law_557 ?_
    refine kx_sld (v := nI r) hx hb hXs hbl hbA hS (by omega) hN9 hq1 dL_law_558 ?_
    refine lv_aload_n hx hb dL_law_559 rfl (lv_at hl 4 rfl) ?_
    refine kx_retM (vx_runSW (As := [.ref L, .int (nI r), .ref (L + 367)]) (rest := []) ⟨hx, hb, hml, hown, hts⟩ (k_L_sign l D cs L e g e1 g1 nx cn se sg bt nn9 (aW k9) ln pa ft r hI hnx hcn hwe hrR hfM (L + 367) f (by omega) L (Nat.le_refl L) hfl) (vx_cwSW 3 hts gL_law_L_sign rfl rfl rfl (by decide +kernel) ⟨Nat.le_of_ble_eq_true rfl, Nat.le_of_ble_eq_true rfl⟩) (kx_preY hK hN hXK hXN ⟨hHr, hOu⟩) rfl rfl hl.1 rfl (lv_room (Nat.le_of_ble_eq_true rfl)) dL_law_560 hr0) hS (fun q _ h => rg_lo h) (fun q h => rg_lo h) (fun H locs hP hk hS => ?_)
    obtain ⟨hHr, hOu⟩ := hP
    have hHr : HrC D cs L (signF e (fcN e r)) g e1 g1 ((nx + 1) % 4) (min (cn + 1) 4) (hsE se nx (cfF (se nx) e)) (hsG sg nx (cgM (sg nx) g (Mn e))) bt nn9 (aW k9) ln pa ft H := hHr
    have hMd := hMd.frame hk (fun q h1 h2 h => by rcases h with h | h <;> omega)
    have hsz : L + 368 ≤ H.size := Nat.le_trans hsz hk.1
    clear hk hXK hKW
    refine lv_istore (lv' := [(5, .int (nI 0)), (4, .int (nI i)), (0, .ref bs), (1, .ref L), (2, .ref (L + 360)), (3, .ref (L + 367))]) hx hb dL_law_563 hl (by decide) rfl (fun ls hl => ?_)
    refine lv_aload_n hx hb dL_law_565 rfl (lv_at hl 4 rfl) ?_
    refine lv_aload_n hx hb dL_law_566 rfl (lv_at hl 2 rfl) ?_
    refine lv_iload hx hb dL_law_567 (lv_at hl 1 rfl) ?_
    refine lv_iconst (v := nI 1) hx hb dL_law_569 (by decide) ?_
    refine kn_add hx hb dL_law_570 ?_
    refine kx_sld (v := nI r) hx hb hXs hbl hbA hS (by omega) hN9 hq1 dL_law_571 ?_
    refine kx_retM (va_runV (As := [.int (nI r)]) (rest := []) ⟨hx, hb, hml, hown, hts⟩ (k_X8_sign l D cs (L + 360) z (nI r) hZ) (cwV 1 hts gL_law_X8_sign rfl rfl rfl (by decide +kernel) ⟨Nat.le_of_ble_eq_true rfl, Nat.le_of_ble_eq_true rfl⟩) (kx_preV hK hN hMd.1 rfl hMd) rfl rfl hl.1 rfl (lv_room (Nat.le_of_ble_eq_true rfl)) dL_law_572 hr0) hS (fun q _ h => by have h3 := h.1; show L ≤ q; omega) (fun q h => by have h3 := h.1; show L ≤ q; omega) (fun H locs hP hk hS => ?_)
    have hHr := hHr.keepR (H1 := H) (fun q h1 h2 => hk.2 q (by omega) (fun h => by have h3 := h.1; have h4 := h.2; omega))
    have hOu := hOu.kept (hk.2 _ hOu.lt (fun h => by have h3 := h.1; have h4 := h.2; omega))
    have hsz : L + 368 ≤ H.size := Nat.le_trans hsz hk.1
    clear hk
    have hMd : MdC D (cs 0) (L + 360) (signF (svT z) (fcN z r)) H := (by have q9 := hP; rw [if_pos hw, nn_nI (by omega)] at q9; exact q9)
    refine kx_ci (y := nI (fcN e r)) (by rw [if_pos hw, nn_nI (by omega), hee]) ?_
    refine lv_istore (lv' := [(6, .int (nI (fcN e r))), (5, .int (nI 0)), (4, .int (nI i)), (0, .ref bs), (1, .ref L), (2, .ref (L + 360)), (3, .ref (L + 367))]) hx hb dL_law_575 hl (by decide) rfl (fun ls hl => ?_)
    refine lv_aload_n hx hb dL_law_577 rfl (lv_at hl 5 rfl) ?_
    refine kx_retP (va_runV (As := []) (rest := []) ⟨hx, hb, hml, hown, hts⟩ (k_X8_thrown l D cs (L + 360) (signF (svT z) (fcN z r))) (cwV 0 hts gL_law_X8_thrown rfl rfl rfl (by decide +kernel) ⟨Nat.le_of_ble_eq_true rfl, Nat.le_of_ble_eq_true rfl⟩) (kx_preV hK hN hMd.1 rfl hMd) rfl rfl hl.1 rfl (lv_room (Nat.le_of_ble_eq_true rfl)) dL_law_578 hr0) ?_
    refine kx_ci (y := nI 0) ((fr_sign (svT z) (m := fcN z r) (by rw [← hee]; omega) 4403 (by omega)).trans hsv0) ?_
    refine lv_iload hx hb dL_law_581 (lv_at hl 1 rfl) ?_
    refine lv_icmp_eq (tgt := 588) hx hb dL_law_583 (by decide) (fun _ => ?_) (fun h9 => absurd rfl h9)
    refine lv_iload hx hb dL_law_588 (lv_at hl 1 rfl) ?_
    refine lv_if_ne (tgt := 605) hx hb dL_law_590 (by decide) (fun h9 => absurd (show nI 0 = 0 by decide) h9) (fun _ => ?_)
    refine lv_aload_n hx hb dL_law_593 rfl (lv_at hl 6 rfl) ?_
    refine lv_iconst (v := nI 0) hx hb dL_law_594 (by decide) ?_
    refine kx_lald hx hb hK hOu 5 rfl (i := 0) (by decide) (by decide) dL_law_595 ?_
    refine kx_cl (y := (nI (fcN e r)).toInt64) (vp_upd0 _ _) ?_
    refine lv_iload hx hb dL_law_596 (lv_at hl 0 rfl) ?_
    refine lv_i2l hx hb dL_law_598 rfl ?_
    refine W.lcmp hx hb dL_law_599 ?_
    refine kl_if_eq (tgt := 605) hx hb dL_law_600 (by decide) (fun _ => ?_) (fun h9 => absurd rfl h9)
    refine lv_goto (tgt := 1607) hx hb dL_law_605 (by decide) ?_
    exact K _ _ _ _ _ ⟨signF (svT z) (fcN z r), _, _, _, _, _, _, _, _, _, _, k9, _, _, _, _, hHr, hOu, hMd, hRs, hk8, hsz⟩ hS (Nat.le_add_right _ _) (Nat.le_add_right _ _) (lv_sub hl [2, 3, 4, 5, 6] rfl)
  · have hwe : c23 (wsg e q1) = 1 := by rw [(hRA.e_wsg q1).trans hw]; rfl
    refine lv_aload_n hx hb dL_law_552 rfl (lv_at hl 2 rfl) ?_
    refine lv_aload_n hx hb dL_law_553 rfl (lv_at hl 1 rfl) ?_
    refine lv_iload hx hb dL_law_554 (lv_at hl 0 rfl) ?_
    refine lv_iconst (v := nI 1) hx hb dL_law_556 (by decide) ?_
    refine kn_add hx hb dL_law_557 ?_
    refine kx_sld (v := q1) hx hb hXs hbl hbA hS (by omega) hN9 hq1 dL_law_558 ?_
    refine lv_aload_n hx hb dL_law_559 rfl (lv_at hl 4 rfl) ?_
    refine kx_retN (vx_runSW (As := [.ref L, .int q1, .ref (L + 367)]) (rest := []) ⟨hx, hb, hml, hown, hts⟩ (k_L_signT1 l D cs L e g e1 g1 nx cn se sg bt nn9 (aW k9) ln pa ft q1 hI hwe (L + 367) f (by omega) L (Nat.le_refl L) hfl) (vx_cwSW 3 hts gL_law_L_sign rfl rfl rfl (by decide +kernel) ⟨Nat.le_of_ble_eq_true rfl, Nat.le_of_ble_eq_true rfl⟩) (kx_preY hK hN hXK hXN ⟨hHr, hOu⟩) rfl rfl hl.1 rfl (lv_room (Nat.le_of_ble_eq_true rfl)) dL_law_560 hr1) hS (fun q _ h => rg_lo h) (fun q h => rg_lo h) (fun H locs hP hk hS => ?_)
    obtain ⟨hHr, hOu⟩ := hP
    have hHr : HrC D cs L e g e1 g1 nx cn se sg bt nn9 (aW k9) ln pa ft H := hHr
    have hMd := hMd.frame hk (fun q h1 h2 h => by rcases h with h | h <;> omega)
    have hsz : L + 368 ≤ H.size := Nat.le_trans hsz hk.1
    clear hk hXK hKW
    refine lv_istore (lv' := [(5, .int (nI 1)), (4, .int (nI i)), (0, .ref bs), (1, .ref L), (2, .ref (L + 360)), (3, .ref (L + 367))]) hx hb dL_law_563 hl (by decide) rfl (fun ls hl => ?_)
    refine lv_aload_n hx hb dL_law_565 rfl (lv_at hl 4 rfl) ?_
    refine lv_aload_n hx hb dL_law_566 rfl (lv_at hl 2 rfl) ?_
    refine lv_iload hx hb dL_law_567 (lv_at hl 1 rfl) ?_
    refine lv_iconst (v := nI 1) hx hb dL_law_569 (by decide) ?_
    refine kn_add hx hb dL_law_570 ?_
    refine kx_sld (v := q1) hx hb hXs hbl hbA hS (by omega) hN9 hq1 dL_law_571 ?_
    refine kx_retM (va_runV (As := [.int q1]) (rest := []) ⟨hx, hb, hml, hown, hts⟩ (k_X8_sign l D cs (L + 360) z q1 hZ) (cwV 1 hts gL_law_X8_sign rfl rfl rfl (by decide +kernel) ⟨Nat.le_of_ble_eq_true rfl, Nat.le_of_ble_eq_true rfl⟩) (kx_preV hK hN hMd.1 rfl hMd) rfl rfl hl.1 rfl (lv_room (Nat.le_of_ble_eq_true rfl)) dL_law_572 ⟨hr1.1, hr1.2⟩) hS (fun q _ h => by have h3 := h.1; show L ≤ q; omega) (fun q h => by have h3 := h.1; show L ≤ q; omega) (fun H locs hP hk hS => ?_)
    have hHr := hHr.keepR (H1 := H) (fun q h1 h2 => hk.2 q (by omega) (fun h => by have h3 := h.1; have h4 := h.2; omega))
    have hOu := hOu.kept (hk.2 _ hOu.lt (fun h => by have h3 := h.1; have h4 := h.2; omega))
    have hsz : L + 368 ≤ H.size := Nat.le_trans hsz hk.1
    clear hk
    have hMd : MdC D (cs 0) (L + 360) (upd z 4403 (nI 1)) H := (by have q9 := hP; rw [hw, if_neg (by decide)] at q9; exact q9)
    refine kx_ci (y := nI 0) (if_neg (by rw [hw]; decide)) ?_
    refine lv_istore (lv' := [(6, .int (nI 0)), (5, .int (nI 1)), (4, .int (nI i)), (0, .ref bs), (1, .ref L), (2, .ref (L + 360)), (3, .ref (L + 367))]) hx hb dL_law_575 hl (by decide) rfl (fun ls hl => ?_)
    refine lv_aload_n hx hb dL_law_577 rfl (lv_at hl 5 rfl) ?_
    refine kx_retP (va_runV (As := []) (rest := []) ⟨hx, hb, hml, hown, hts⟩ (k_X8_thrown l D cs (L + 360) (upd z 4403 (nI 1))) (cwV 0 hts gL_law_X8_thrown rfl rfl rfl (by decide +kernel) ⟨Nat.le_of_ble_eq_true rfl, Nat.le_of_ble_eq_true rfl⟩) (kx_preV hK hN hMd.1 rfl hMd) rfl rfl hl.1 rfl (lv_room (Nat.le_of_ble_eq_true rfl)) dL_law_578 ⟨hr1.1, hr1.2⟩) ?_
    refine kx_ci (y := nI 1) (th_thr _) ?_
    refine lv_iload hx hb dL_law_581 (lv_at hl 1 rfl) ?_
    refine lv_icmp_eq (tgt := 588) hx hb dL_law_583 (by decide) (fun _ => ?_) (fun h9 => absurd rfl h9)
    refine lv_iload hx hb dL_law_588 (lv_at hl 1 rfl) ?_
    refine lv_if_ne (tgt := 605) hx hb dL_law_590 (by decide) (fun _ => ?_) (fun h9 => absurd h9 (by decide))
    refine lv_goto (tgt := 1607) hx hb dL_law_605 (by decide) ?_
    exact K _ _ _ _ _ ⟨upd z 4403 (nI 1), _, _, _, _, _, _, _, _, _, _, k9, _, _, _, _, hHr, hOu, hMd, hRA.thr _, hk8, hsz⟩ hS (Nat.le_refl _) (Nat.le_refl _) (lv_sub hl [2, 3, 4, 5, 6] rfl)
  · have hwe : c23 (wsg e q1) = 3 := by rw [(hRA.e_wsg q1).trans hw]; rfl
    refine lv_aload_n hx hb dL_law_552 rfl (lv_at hl 2 rfl) ?_
    refine lv_aload_n hx hb dL_law_553 rfl (lv_at hl 1 rfl) ?_
    refine lv_iload hx hb dL_law_554 (lv_at hl 0 rfl) ?_
    refine lv_iconst (v := nI 1) hx hb dL_law_556 (by decide) ?_
    refine kn_add hx hb dL_law_557 ?_
    refine kx_sld (v := q1) hx hb hXs hbl hbA hS (by omega) hN9 hq1 dL_law_558 ?_
    refine lv_aload_n hx hb dL_law_559 rfl (lv_at hl 4 rfl) ?_
    refine kx_retN (vx_runSW (As := [.ref L, .int q1, .ref (L + 367)]) (rest := []) ⟨hx, hb, hml, hown, hts⟩ (k_L_signT3 l D cs L e g e1 g1 nx cn se sg bt nn9 (aW k9) ln pa ft q1 hI hwe (L + 367) f (by omega) L (Nat.le_refl L) hfl) (vx_cwSW 3 hts gL_law_L_sign rfl rfl rfl (by decide +kernel) ⟨Nat.le_of_ble_eq_true rfl, Nat.le_of_ble_eq_true rfl⟩) (kx_preY hK hN hXK hXN ⟨hHr, hOu⟩) rfl rfl hl.1 rfl (lv_room (Nat.le_of_ble_eq_true rfl)) dL_law_560 hr1) hS (fun q _ h => rg_lo h) (fun q h => rg_lo h) (fun H locs hP hk hS => ?_)
    obtain ⟨hHr, hOu⟩ := hP
    have hHr : HrC D cs L e g e1 g1 nx cn se sg bt nn9 (aW k9) ln pa ft H := hHr
    have hMd := hMd.frame hk (fun q h1 h2 h => by rcases h with h | h <;> omega)
    have hsz : L + 368 ≤ H.size := Nat.le_trans hsz hk.1
    clear hk hXK hKW
    refine lv_istore (lv' := [(5, .int (nI 2)), (4, .int (nI i)), (0, .ref bs), (1, .ref L), (2, .ref (L + 360)), (3, .ref (L + 367))]) hx hb dL_law_563 hl (by decide) rfl (fun ls hl => ?_)
    refine lv_aload_n hx hb dL_law_565 rfl (lv_at hl 4 rfl) ?_
    refine lv_aload_n hx hb dL_law_566 rfl (lv_at hl 2 rfl) ?_
    refine lv_iload hx hb dL_law_567 (lv_at hl 1 rfl) ?_
    refine lv_iconst (v := nI 1) hx hb dL_law_569 (by decide) ?_
    refine kn_add hx hb dL_law_570 ?_
    refine kx_sld (v := q1) hx hb hXs hbl hbA hS (by omega) hN9 hq1 dL_law_571 ?_
    refine kx_retM (va_runV (As := [.int q1]) (rest := []) ⟨hx, hb, hml, hown, hts⟩ (k_X8_sign l D cs (L + 360) z q1 hZ) (cwV 1 hts gL_law_X8_sign rfl rfl rfl (by decide +kernel) ⟨Nat.le_of_ble_eq_true rfl, Nat.le_of_ble_eq_true rfl⟩) (kx_preV hK hN hMd.1 rfl hMd) rfl rfl hl.1 rfl (lv_room (Nat.le_of_ble_eq_true rfl)) dL_law_572 ⟨hr1.1, hr1.2⟩) hS (fun q _ h => by have h3 := h.1; show L ≤ q; omega) (fun q h => by have h3 := h.1; show L ≤ q; omega) (fun H locs hP hk hS => ?_)
    have hHr := hHr.keepR (H1 := H) (fun q h1 h2 => hk.2 q (by omega) (fun h => by have h3 := h.1; have h4 := h.2; omega))
    have hOu := hOu.kept (hk.2 _ hOu.lt (fun h => by have h3 := h.1; have h4 := h.2; omega))
    have hsz : L + 368 ≤ H.size := Nat.le_trans hsz hk.1
    clear hk
    have hMd : MdC D (cs 0) (L + 360) (upd z 4403 (nI 2)) H := (by have q9 := hP; rw [hw, if_neg (by decide)] at q9; exact q9)
    refine kx_ci (y := nI 0) (if_neg (by rw [hw]; decide)) ?_
    refine lv_istore (lv' := [(6, .int (nI 0)), (5, .int (nI 2)), (4, .int (nI i)), (0, .ref bs), (1, .ref L), (2, .ref (L + 360)), (3, .ref (L + 367))]) hx hb dL_law_575 hl (by decide) rfl (fun ls hl => ?_)
    refine lv_aload_n hx hb dL_law_577 rfl (lv_at hl 5 rfl) ?_
    refine kx_retP (va_runV (As := []) (rest := []) ⟨hx, hb, hml, hown, hts⟩ (k_X8_thrown l D cs (L + 360) (upd z 4403 (nI 2))) (cwV 0 hts gL_law_X8_thrown rfl rfl rfl (by decide +kernel) ⟨Nat.le_of_ble_eq_true rfl, Nat.le_of_ble_eq_true rfl⟩) (kx_preV hK hN hMd.1 rfl hMd) rfl rfl hl.1 rfl (lv_room (Nat.le_of_ble_eq_true rfl)) dL_law_578 ⟨hr1.1, hr1.2⟩) ?_
    refine kx_ci (y := nI 2) (th_thr _) ?_
    refine lv_iload hx hb dL_law_581 (lv_at hl 1 rfl) ?_
    refine lv_icmp_eq (tgt := 588) hx hb dL_law_583 (by decide) (fun _ => ?_) (fun h9 => absurd rfl h9)
    refine lv_iload hx hb dL_law_588 (lv_at hl 1 rfl) ?_
    refine lv_if_ne (tgt := 605) hx hb dL_law_590 (by decide) (fun _ => ?_) (fun h9 => absurd h9 (by decide))
    refine lv_goto (tgt := 1607) hx hb dL_law_605 (by decide) ?_
    exact K _ _ _ _ _ ⟨upd z 4403 (nI 2), _, _, _, _, _, _, _, _, _, _, k9, _, _, _, _, hHr, hOu, hMd, hRA.thr _, hk8, hsz⟩ hS (Nat.le_refl _) (Nat.le_refl _) (lv_sub hl [2, 3, 4, 5, 6] rfl)
set_option maxHeartbeats 2500000 in
set_option maxRecDepth 100000 in
theorem cs_strike {p : Program} {l : Launch} {en : Env} {s : State} {m : MethodId} {below : List Frame} {meth : Method} {c : Code} {D : va_G} {cs : Nat → ClassId} {L : Nat} {aW aS aV : Nat → Nat} {tW tM bs N : Nat} {xs : Nat → Int32} {Q : State → Prop} (G : LwG p l s m c D cs L aW aS aV tW tM bs N xs) {i : Nat} (hi : i + 6 ≤ N) {H : Heap} {locs : List Loc} {cells slots : Nat} (hr : cells + 1 ≤ 601024 ∧ slots + 6 ≤ 7293034) (W0 : LwD D cs L aW H) (hS : va_S (fun q : Nat => L ≤ q) s.heap H locs) {ls : Array Slot} (hl : lv_has ls 8 [(4, .int (nI i)), (0, .ref bs), (1, .ref L), (2, .ref (L + 360)), (3, .ref (L + 367))])
  (K : ∀ (H : Heap) (locs : List Loc) (c1 s1 : Nat) (ls : Array Slot), LwD D cs L aW H → va_S (fun q : Nat => L ≤ q) s.heap H locs → c1 ≤ cells + 1 → s1 ≤ slots + 6 → lv_has ls 8 [(4, .int (nI i)), (0, .ref bs), (1, .ref L), (2, .ref (L + 360)), (3, .ref (L + 367))] → W p l en room_1 s m #[Value.ref bs] below meth c H locs c1 s1 Q (F0 m 1607 ls [])) :
  W p l en room_1 s m #[Value.ref bs] below meth c H locs cells slots Q (F0 m 608 ls []) := by
  obtain ⟨hx, hb, hml, hown, hts, hK, hN, hKW0, hXK0, hXN, hXs, hbl, hLs, hN9, hfl⟩ := G
  obtain ⟨z, e, g, e1, g1, nx, cn, se, sg, bt, nn9, k9, ln, pa, ft, f, hHr, hOu, hMd, hRA, hk8, hsz⟩ := W0
  have hbA : ¬ (fun q : Nat => L ≤ q) bs := by show ¬ L ≤ bs; omega
  have hr0 : cells + 0 ≤ room_1.cells ∧ slots + 0 ≤ room_1.slots := ⟨by show cells + 0 ≤ 601024; omega, by show slots + 0 ≤ 7293034; omega⟩
  have hr1 : cells + 1 ≤ room_1.cells ∧ slots + 6 ≤ room_1.slots := hr
  have hI := ev_R hRA.1
  have hG := hRA.2.1
  have hnx := hRA.2.2.1.1.2.1
  have hcn := hRA.2.2.1.1.2.2
  have hZ := hRA.invZ
  have hl150 := hRA.2.2.2.2.1
  have hsv0 := ra_sv hRA
  have hEI := hRA.1
  have hRR := EI.R hRA.1
  have hMM := EI.M hRA.1
  have hTl := hRA.tl
  have hSv := hRA.sv
  have h24 := hI.M24
  have h6 := hI.R6
  have hXK := hXK0.kept (H1 := H) (fun a h1 h2 => hS.2.1 a h1 h2)
  have hKW := hKW0.kept (H1 := H) (fun a h1 h2 => hS.2.1 a h1 h2)
  obtain ⟨q1, hq1⟩ : ∃ q : Int32, q = xs (i + 1) := ⟨_, rfl⟩
  obtain ⟨q2, hq2⟩ : ∃ q : Int32, q = xs (i + 2) := ⟨_, rfl⟩
  rcases (show ∃ y : Bool, (y = true ↔ ¬ q2 = 0) by exact ⟨!decide (q2 = 0), by simp⟩) with ⟨y, hy⟩
  rcases (show wst z q1 (bI y) = 0 ∨ wst z q1 (bI y) = 1 ∨ wst z q1 (bI y) = 2 by have h9 := wst_3 (z := z) (x := q1) (y := bI y); omega) with hw | hw | hw
  · obtain ⟨r, rfl, hrR, hwe, hee, hRs⟩ := hRA.sStrike hw
    refine lv_aload_n hx hb dL_law_608 rfl (lv_at hl 2 rfl) ?_
    refine lv_aload_n hx hb dL_law_609 rfl (lv_at hl 1 rfl) ?_
    refine lv_iload hx hb dL_law_610 (lv_at hl 0 rfl) ?_
    refine lv_iconst (v := nI 1) hx hb dL_law_612 (by decide) ?_
    refine kn_add hx hb dL_law_613 ?_
    refine kx_sld (v := nI r) hx hb hXs hbl hbA hS (by omega) hN9 hq1 dL_law_614 ?_
    refine lv_aload_n hx hb dL_law_615 rfl (lv_at hl 1 rfl) ?_
    refine lv_iload hx hb dL_law_616 (lv_at hl 0 rfl) ?_
    refine lv_iconst (v := nI 2) hx hb dL_law_618 (by decide) ?_
    refine kn_add hx hb dL_law_619 ?_
    refine kx_sld hx hb hXs hbl hbA hS (by omega) hN9 hq2 dL_law_620 ?_
    have hJ : W p l en room_1 s m #[Value.ref bs] below meth c H locs cells slots Q (F0 m 629 ls (.int (bI y) :: [.int (nI r), .ref L])) → W p l en room_1 s m #[Value.ref bs] below meth c H locs cells slots Q (F0 m 621 ls (.int q2 :: [.int (nI r), .ref L])) := fun kk => by
      refine lv_if_eq (tgt := 628) hx hb dL_law_621 (by decide) (fun h9 => ?_) (fun h9 => ?_)
      · have hy0 : y = false := by cases y with
          | false => rfl
          | true => exact absurd h9 (hy.mp rfl)
        refine lv_iconst (v := nI 0) hx hb dL_law_628 (by decide) ?_
        rw [hy0] at kk; exact kk
      · have hy1 : y = true := hy.mpr h9
        refine lv_iconst (v := nI 1) hx hb dL_law_624 (by decide) ?_
        refine lv_goto (tgt := 629) hx hb dL_law_625 (by decide) ?_
        rw [hy1] at kk; exact kk
    refine hJ ?_
    clear hJ
    refine lv_aload_n hx hb dL_law_629 rfl (lv_at hl 4 rfl) ?_
    refine kx_retM (vx_runSW (As := [.ref L, .int (nI r), .int (bI y), .ref (L + 367)]) (rest := []) ⟨hx, hb, hml, hown, hts⟩ (k_L_strike l D cs L e g e1 g1 nx cn se sg bt nn9 (aW k9) ln pa ft r y hI hnx hcn hwe hrR (L + 367) f (by omega) L (Nat.le_refl L) hfl) (vx_cwSW 4 hts gL_law_L_strike rfl rfl rfl (by decide +kernel) ⟨Nat.le_of_ble_eq_true rfl, Nat.le_of_ble_eq_true rfl⟩) (kx_preY hK hN hXK hXN ⟨hHr, hOu⟩) rfl rfl hl.1 rfl (lv_room (Nat.le_of_ble_eq_true rfl)) dL_law_630 hr0) hS (fun q _ h => rg_lo h) (fun q h => rg_lo h) (fun H locs hP hk hS => ?_)
    obtain ⟨hHr, hOu⟩ := hP
    have hHr : HrC D cs L (upd e (56 + 4 * r + 3) (bI y)) g e1 g1 ((nx + 1) % 4) (min (cn + 1) 4) (hsE se nx (cfF (se nx) e)) (hsG sg nx (cgM (sg nx) g (Mn e))) bt nn9 (aW k9) ln pa ft H := hHr
    have hMd := hMd.frame hk (fun q h1 h2 h => by rcases h with h | h <;> omega)
    have hsz : L + 368 ≤ H.size := Nat.le_trans hsz hk.1
    clear hk hXK hKW
    refine lv_istore (lv' := [(5, .int (nI 0)), (4, .int (nI i)), (0, .ref bs), (1, .ref L), (2, .ref (L + 360)), (3, .ref (L + 367))]) hx hb dL_law_633 hl (by decide) rfl (fun ls hl => ?_)
    refine lv_aload_n hx hb dL_law_635 rfl (lv_at hl 4 rfl) ?_
    refine lv_aload_n hx hb dL_law_636 rfl (lv_at hl 2 rfl) ?_
    refine lv_iload hx hb dL_law_637 (lv_at hl 1 rfl) ?_
    refine lv_iconst (v := nI 1) hx hb dL_law_639 (by decide) ?_
    refine kn_add hx hb dL_law_640 ?_
    refine kx_sld (v := nI r) hx hb hXs hbl hbA hS (by omega) hN9 hq1 dL_law_641 ?_
    refine lv_aload_n hx hb dL_law_642 rfl (lv_at hl 2 rfl) ?_
    refine lv_iload hx hb dL_law_643 (lv_at hl 1 rfl) ?_
    refine lv_iconst (v := nI 2) hx hb dL_law_645 (by decide) ?_
    refine kn_add hx hb dL_law_646 ?_
    refine kx_sld hx hb hXs hbl hbA hS (by omega) hN9 hq2 dL_law_647 ?_
    have hJ : W p l en room_1 s m #[Value.ref bs] below meth c H locs cells slots Q (F0 m 656 ls (.int (bI y) :: [.int (nI r), .ref (L + 360)])) → W p l en room_1 s m #[Value.ref bs] below meth c H locs cells slots Q (F0 m 648 ls (.int q2 :: [.int (nI r), .ref (L + 360)])) := fun kk => by
      refine lv_if_eq (tgt := 655) hx hb dL_law_648 (by decide) (fun h9 => ?_) (fun h9 => ?_)
      · have hy0 : y = false := by cases y with
          | false => rfl
          | true => exact absurd h9 (hy.mp rfl)
        refine lv_iconst (v := nI 0) hx hb dL_law_655 (by decide) ?_
        rw [hy0] at kk; exact kk
      · have hy1 : y = true := hy.mpr h9
        refine lv_iconst (v := nI 1) hx hb dL_law_651 (by decide) ?_
        refine lv_goto (tgt := 656) hx hb dL_law_652 (by decide) ?_
        rw [hy1] at kk; exact kk
    refine hJ ?_
    clear hJ
    refine kx_retM (va_runV (As := [.int (nI r), .int (bI y)]) (rest := []) ⟨hx, hb, hml, hown, hts⟩ (k_X8_strike l D cs (L + 360) z (nI r) y hZ) (cwV 2 hts gL_law_X8_strike rfl rfl rfl (by decide +kernel) ⟨Nat.le_of_ble_eq_true rfl, Nat.le_of_ble_eq_true rfl⟩) (kx_preV hK hN hMd.1 rfl hMd) rfl rfl hl.1 rfl (lv_room (Nat.le_of_ble_eq_true rfl)) dL_law_656 hr0) hS (fun q _ h => by have h3 := h.1; show L ≤ q; omega) (fun q h => by have h3 := h.1; show L ≤ q; omega) (fun H locs hP hk hS => ?_)
    have hHr := hHr.keepR (H1 := H) (fun q h1 h2 => hk.2 q (by omega) (fun h => by have h3 := h.1; have h4 := h.2; omega))
    have hOu := hOu.kept (hk.2 _ hOu.lt (fun h => by have h3 := h.1; have h4 := h.2; omega))
    have hsz : L + 368 ≤ H.size := Nat.le_trans hsz hk.1
    clear hk
    have hMd : MdC D (cs 0) (L + 360) (upd (svT z) (56 + 4 * r + 3) (bI y)) H := (by have q9 := hP; rw [if_pos hw, nn_nI (by omega)] at q9; exact q9)
    refine kx_ci (y := nI (cpN e r)) (by rw [if_pos hw, nn_nI (by omega), hee]) ?_
    refine lv_istore (lv' := [(6, .int (nI (cpN e r))), (5, .int (nI 0)), (4, .int (nI i)), (0, .ref bs), (1, .ref L), (2, .ref (L + 360)), (3, .ref (L + 367))]) hx hb dL_law_659 hl (by decide) rfl (fun ls hl => ?_)
    refine lv_aload_n hx hb dL_law_661 rfl (lv_at hl 5 rfl) ?_
    refine kx_retP (va_runV (As := []) (rest := []) ⟨hx, hb, hml, hown, hts⟩ (k_X8_thrown l D cs (L + 360) (upd (svT z) (56 + 4 * r + 3) (bI y))) (cwV 0 hts gL_law_X8_thrown rfl rfl rfl (by decide +kernel) ⟨Nat.le_of_ble_eq_true rfl, Nat.le_of_ble_eq_true rfl⟩) (kx_preV hK hN hMd.1 rfl hMd) rfl rfl hl.1 rfl (lv_room (Nat.le_of_ble_eq_true rfl)) dL_law_662 hr0) ?_
    refine kx_ci (y := nI 0) ((fr_upd (svT z) (by omega) (bI y) 4403 (by omega)).trans hsv0) ?_
    refine lv_iload hx hb dL_law_665 (lv_at hl 1 rfl) ?_
    refine lv_icmp_eq (tgt := 672) hx hb dL_law_667 (by decide) (fun _ => ?_) (fun h9 => absurd rfl h9)
    refine lv_iload hx hb dL_law_672 (lv_at hl 1 rfl) ?_
    refine lv_if_ne (tgt := 689) hx hb dL_law_674 (by decide) (fun h9 => absurd (show nI 0 = 0 by decide) h9) (fun _ => ?_)
    refine lv_aload_n hx hb dL_law_677 rfl (lv_at hl 6 rfl) ?_
    refine lv_iconst (v := nI 0) hx hb dL_law_678 (by decide) ?_
    refine kx_lald hx hb hK hOu 5 rfl (i := 0) (by decide) (by decide) dL_law_679 ?_
    refine kx_cl (y := (nI (cpN e r)).toInt64) (vp_upd0 _ _) ?_
    refine lv_iload hx hb dL_law_680 (lv_at hl 0 rfl) ?_
    refine lv_i2l hx hb dL_law_682 rfl ?_
    refine W.lcmp hx hb dL_law_683 ?_
    refine kl_if_eq (tgt := 689) hx hb dL_law_684 (by decide) (fun _ => ?_) (fun h9 => absurd rfl h9)
    refine lv_goto (tgt := 1607) hx hb dL_law_689 (by decide) ?_
    exact K _ _ _ _ _ ⟨upd (svT z) (56 + 4 * r + 3) (bI y), _, _, _, _, _, _, _, _, _, _, k9, _, _, _, _, hHr, hOu, hMd, hRs, hk8, hsz⟩ hS (Nat.le_add_right _ _) (Nat.le_add_right _ _) (lv_sub hl [2, 3, 4, 5, 6] rfl)
  · have hwe : c23 (wst e q1 (bI y)) = 1 := by rw [(hRA.e_wst q1 y).trans hw]; rfl
    refine lv_aload_n hx hb dL_law_608 rfl (lv_at hl 2 rfl) ?_
    refine lv_aload_n hx hb dL_law_609 rfl (lv_at hl 1 rfl) ?_
    refine lv_iload hx hb dL_law_610 (lv_at hl 0 rfl) ?_
    refine lv_iconst (v := nI 1) hx hb dL_law_612 (by decide) ?_
    refine kn_add hx hb dL_law_613 ?_
    refine kx_sld (v := q1) hx hb hXs hbl hbA hS (by omega) hN9 hq1 dL_law_614 ?_
    refine lv_aload_n hx hb dL_law_615 rfl (lv_at hl 1 rfl) ?_
    refine lv_iload hx hb dL_law_616 (lv_at hl 0 rfl) ?_
    refine lv_iconst (v := nI 2) hx hb dL_law_618 (by decide) ?_
    refine kn_add hx hb dL_law_619 ?_
    refine kx_sld hx hb hXs hbl hbA hS (by omega) hN9 hq2 dL_law_620 ?_
    have hJ : W p l en room_1 s m #[Value.ref bs] below meth c H locs cells slots Q (F0 m 629 ls (.int (bI y) :: [.int q1, .ref L])) → W p l en room_1 s m #[Value.ref bs] below meth c H locs cells slots Q (F0 m 621 ls (.int q2 :: [.int q1, .ref L])) := fun kk => by
      refine lv_if_eq (tgt := 628) hx hb dL_law_621 (by decide) (fun h9 => ?_) (fun h9 => ?_)
      · have hy0 : y = false := by cases y with
          | false => rfl
          | true => exact absurd h9 (hy.mp rfl)
        refine lv_iconst (v := nI 0) hx hb dL_law_628 (by decide) ?_
        rw [hy0] at kk; exact kk
      · have hy1 : y = true := hy.mpr h9
        refine lv_iconst (v := nI 1) hx hb dL_law_624 (by decide) ?_
        refine lv_goto (tgt := 629) hx hb dL_law_625 (by decide) ?_
        rw [hy1] at kk; exact kk
    refine hJ ?_
    clear hJ
    refine lv_aload_n hx hb dL_law_629 rfl (lv_at hl 4 rfl) ?_
    refine kx_retN (vx_runSW (As := [.ref L, .int q1, .int (bI y), .ref (L + 367)]) (rest := []) ⟨hx, hb, hml, hown, hts⟩ (k_L_strikeT1 l D cs L e g e1 g1 nx cn se sg bt nn9 (aW k9) ln pa ft q1 y hI hwe (L + 367) f (by omega) L (Nat.le_refl L) hfl) (vx_cwSW 4 hts gL_law_L_strike rfl rfl rfl (by decide +kernel) ⟨Nat.le_of_ble_eq_true rfl, Nat.le_of_ble_eq_true rfl⟩) (kx_preY hK hN hXK hXN ⟨hHr, hOu⟩) rfl rfl hl.1 rfl (lv_room (Nat.le_of_ble_eq_true rfl)) dL_law_630 hr1) hS (fun q _ h => rg_lo h) (fun q h => rg_lo h) (fun H locs hP hk hS => ?_)
    obtain ⟨hHr, hOu⟩ := hP
    have hHr : HrC D cs L e g e1 g1 nx cn se sg bt nn9 (aW k9) ln pa ft H := hHr
    have hMd := hMd.frame hk (fun q h1 h2 h => by rcases h with h | h <;> omega)
    have hsz : L + 368 ≤ H.size := Nat.le_trans hsz hk.1
    clear hk hXK hKW
    refine lv_istore (lv' := [(5, .int (nI 1)), (4, .int (nI i)), (0, .ref bs), (1, .ref L), (2, .ref (L + 360)), (3, .ref (L + 367))]) hx hb dL_law_633 hl (by decide) rfl (fun ls hl => ?_)
    refine lv_aload_n hx hb dL_law_635 rfl (lv_at hl 4 rfl) ?_
    refine lv_aload_n hx hb dL_law_636 rfl (lv_at hl 2 rfl) ?_
    refine lv_iload hx hb dL_law_637 (lv_at hl 1 rfl) ?_
    refine lv_iconst (v := nI 1) hx hb dL_law_639 (by decide) ?_
    refine kn_add hx hb dL_law_640 ?_
    refine kx_sld (v := q1) hx hb hXs hbl hbA hS (by omega) hN9 hq1 dL_law_641 ?_
    refine lv_aload_n hx hb dL_law_642 rfl (lv_at hl 2 rfl) ?_
    refine lv_iload hx hb dL_law_643 (lv_at hl 1 rfl) ?_
    refine lv_iconst (v := nI 2) hx hb dL_law_645 (by decide) ?_
    refine kn_add hx hb dL_law_646 ?_
    refine kx_sld hx hb hXs hbl hbA hS (by omega) hN9 hq2 dL_law_647 ?_
    have hJ : W p l en room_1 s m #[Value.ref bs] below meth c H locs (cells + 1) (slots + 6) Q (F0 m 656 ls (.int (bI y) :: [.int q1, .ref (L + 360)])) → W p l en room_1 s m #[Value.ref bs] below meth c H locs (cells + 1) (slots + 6) Q (F0 m 648 ls (.int q2 :: [.int q1, .ref (L + 360)])) := fun kk => by
      refine lv_if_eq (tgt := 655) hx hb dL_law_648 (by decide) (fun h9 => ?_) (fun h9 => ?_)
      · have hy0 : y = false := by cases y with
          | false => rfl
          | true => exact absurd h9 (hy.mp rfl)
        refine lv_iconst (v := nI 0) hx hb dL_law_655 (by decide) ?_
        rw [hy0] at kk; exact kk
      · have hy1 : y = true := hy.mpr h9
        refine lv_iconst (v := nI 1) hx hb dL_law_651 (by decide) ?_
        refine lv_goto (tgt := 656) hx hb dL_law_652 (by decide) ?_
        rw [hy1] at kk; exact kk
    refine hJ ?_
    clear hJ
    refine kx_retM (va_runV (As := [.int q1, .int (bI y)]) (rest := []) ⟨hx, hb, hml, hown, hts⟩ (k_X8_strike l D cs (L + 360) z q1 y hZ) (cwV 2 hts gL_law_X8_strike rfl rfl rfl (by decide +kernel) ⟨Nat.le_of_ble_eq_true rfl, Nat.le_of_ble_eq_true rfl⟩) (kx_preV hK hN hMd.1 rfl hMd) rfl rfl hl.1 rfl (lv_room (Nat.le_of_ble_eq_true rfl)) dL_law_656 ⟨hr1.1, hr1.2⟩) hS (fun q _ h => by have h3 := h.1; show L ≤ q; omega) (fun q h => by have h3 := h.1; show L ≤ q; omega) (fun H locs hP hk hS => ?_)
    have hHr := hHr.keepR (H1 := H) (fun q h1 h2 => hk.2 q (by omega) (fun h => by have h3 := h.1; have h4 := h.2; omega))
    have hOu := hOu.kept (hk.2 _ hOu.lt (fun h => by have h3 := h.1; have h4 := h.2; omega))
    have hsz : L + 368 ≤ H.size := Nat.le_trans hsz hk.1
    clear hk
    have hMd : MdC D (cs 0) (L + 360) (upd z 4403 (nI 1)) H := (by have q9 := hP; rw [hw, if_neg (by decide)] at q9; exact q9)
    refine kx_ci (y := nI 0) (if_neg (by rw [hw]; decide)) ?_
    refine lv_istore (lv' := [(6, .int (nI 0)), (5, .int (nI 1)), (4, .int (nI i)), (0, .ref bs), (1, .ref L), (2, .ref (L + 360)), (3, .ref (L + 367))]) hx hb dL_law_659 hl (by decide) rfl (fun ls hl => ?_)
    refine lv_aload_n hx hb dL_law_661 rfl (lv_at hl 5 rfl) ?_
    refine kx_retP (va_runV (As := []) (rest := []) ⟨hx, hb, hml, hown, hts⟩ (k_X8_thrown l D cs (L + 360) (upd z 4403 (nI 1))) (cwV 0 hts gL_law_X8_thrown rfl rfl rfl (by decide +kernel) ⟨Nat.le_of_ble_eq_true rfl, Nat.le_of_ble_eq_true rfl⟩) (kx_preV hK hN hMd.1 rfl hMd) rfl rfl hl.1 rfl (lv_room (Nat.le_of_ble_eq_true rfl)) dL_law_662 ⟨hr1.1, hr1.2⟩) ?_
    refine kx_ci (y := nI 1) (th_thr _) ?_
    refine lv_iload hx hb dL_law_665 (lv_at hl 1 rfl) ?_
    refine lv_icmp_eq (tgt := 672) hx hb dL_law_667 (by decide) (fun _ => ?_) (fun h9 => absurd rfl h9)
    refine lv_iload hx hb dL_law_672 (lv_at hl 1 rfl) ?_
    refine lv_if_ne (tgt := 689) hx hb dL_law_674 (by decide) (fun _ => ?_) (fun h9 => absurd h9 (by decide))
    refine lv_goto (tgt := 1607) hx hb dL_law_689 (by decide) ?_
    exact K _ _ _ _ _ ⟨upd z 4403 (nI 1), _, _, _, _, _, _, _, _, _, _, k9, _, _, _, _, hHr, hOu, hMd, hRA.thr _, hk8, hsz⟩ hS (Nat.le_refl _) (Nat.le_refl _) (lv_sub hl [2, 3, 4, 5, 6] rfl)
  · have hwe : c23 (wst e q1 (bI y)) = 3 := by rw [(hRA.e_wst q1 y).trans hw]; rfl
    refine lv_aload_n hx hb dL_law_608 rfl (lv_at hl 2 rfl) ?_
    refine lv_aload_n hx hb dL_law_609 rfl (lv_at hl 1 rfl) ?_
    refine lv_iload hx hb dL_law_610 (lv_at hl 0 rfl) ?_
    refine lv_iconst (v := nI 1) hx hb dL_law_612 (by decide) ?_
    refine kn_add hx hb dL_law_613 ?_
    refine kx_sld (v := q1) hx hb hXs hbl hbA hS (by omega) hN9 hq1 dL_law_614 ?_
    refine lv_aload_n hx hb dL_law_615 rfl (lv_at hl 1 rfl) ?_
    refine lv_iload hx hb dL_law_616 (lv_at hl 0 rfl) ?_
    refine lv_iconst (v := nI 2) hx hb dL_law_618 (by decide) ?_
    refine kn_add hx hb dL_law_619 ?_
    refine kx_sld hx hb hXs hbl hbA hS (by omega) hN9 hq2 dL_law_620 ?_
    have hJ : W p l en room_1 s m #[Value.ref bs] below meth c H locs cells slots Q (F0 m 629 ls (.int (bI y) :: [.int q1, .ref L])) → W p l en room_1 s m #[Value.ref bs] below meth c H locs cells slots Q (F0 m 621 ls (.int q2 :: [.int q1, .ref L])) := fun kk => by
      refine lv_if_eq (tgt := 628) hx hb dL_law_621 (by decide) (fun h9 => ?_) (fun h9 => ?_)
      · have hy0 : y = false := by cases y with
          | false => rfl
          | true => exact absurd h9 (hy.mp rfl)
        refine lv_iconst (v := nI 0) hx hb dL_law_628 (by decide) ?_
        rw [hy0] at kk; exact kk
      · have hy1 : y = true := hy.mpr h9
        refine lv_iconst (v := nI 1) hx hb dL_law_624 (by decide) ?_
        refine lv_goto (tgt := 629) hx hb dL_law_625 (by decide) ?_
        rw [hy1] at kk; exact kk
    refine hJ ?_
    clear hJ
    refine lv_aload_n hx hb dL_law_629 rfl (lv_at hl 4 rfl) ?_
    refine kx_retN (vx_runSW (As := [.ref L, .int q1, .int (bI y), .ref (L + 367)]) (rest := []) ⟨hx, hb, hml, hown, hts⟩ (k_L_strikeT3 l D cs L e g e1 g1 nx cn se sg bt nn9 (aW k9) ln pa ft q1 y hI hwe (L + 367) f (by omega) L (Nat.le_refl L) hfl) (vx_cwSW 4 hts gL_law_L_strike rfl rfl rfl (by decide +kernel) ⟨Nat.le_of_ble_eq_true rfl, Nat.le_of_ble_eq_true rfl⟩) (kx_preY hK hN hXK hXN ⟨hHr, hOu⟩) rfl rfl hl.1 rfl (lv_room (Nat.le_of_ble_eq_true rfl)) dL_law_630 hr1) hS (fun q _ h => rg_lo h) (fun q h => rg_lo h) (fun H locs hP hk hS => ?_)
    obtain ⟨hHr, hOu⟩ := hP
    have hHr : HrC D cs L e g e1 g1 nx cn se sg bt nn9 (aW k9) ln pa ft H := hHr
    have hMd := hMd.frame hk (fun q h1 h2 h => by rcases h with h | h <;> omega)
    have hsz : L + 368 ≤ H.size := Nat.le_trans hsz hk.1
    clear hk hXK hKW
    refine lv_istore (lv' := [(5, .int (nI 2)), (4, .int (nI i)), (0, .ref bs), (1, .ref L), (2, .ref (L + 360)), (3, .ref (L + 367))]) hx hb dL_law_633 hl (by decide) rfl (fun ls hl => ?_)
    refine lv_aload_n hx hb dL_law_635 rfl (lv_at hl 4 rfl) ?_
    refine lv_aload_n hx hb dL_law_636 rfl (lv_at hl 2 rfl) ?_
    refine lv_iload hx hb dL_law_637 (lv_at hl 1 rfl) ?_
    refine lv_iconst (v := nI 1) hx hb dL_law_639 (by decide) ?_
    refine kn_add hx hb dL_law_640 ?_
    refine kx_sld (v := q1) hx hb hXs hbl hbA hS (by omega) hN9 hq1 dL_law_641 ?_
    refine lv_aload_n hx hb dL_law_642 rfl (lv_at hl 2 rfl) ?_
    refine lv_iload hx hb dL_law_643 (lv_at hl 1 rfl) ?_
    refine lv_iconst (v := nI 2) hx hb dL_law_645 (by decide) ?_
    refine kn_add hx hb dL_law_646 ?_
    refine kx_sld hx hb hXs hbl hbA hS (by omega) hN9 hq2 dL_law_647 ?_
    have hJ : W p l en room_1 s m #[Value.ref bs] below meth c H locs (cells + 1) (slots + 6) Q (F0 m 656 ls (.int (bI y) :: [.int q1, .ref (L + 360)])) → W p l en room_1 s m #[Value.ref bs] below meth c H locs (cells + 1) (slots + 6) Q (F0 m 648 ls (.int q2 :: [.int q1, .ref (L + 360)])) := fun kk => by
      refine lv_if_eq (tgt := 655) hx hb dL_law_648 (by decide) (fun h9 => ?_) (fun h9 => ?_)
      · have hy0 : y = false := by cases y with
          | false => rfl
          | true => exact absurd h9 (hy.mp rfl)
        refine lv_iconst (v := nI 0) hx hb dL_law_655 (by decide) ?_
        rw [hy0] at kk; exact kk
      · have hy1 : y = true := hy.mpr h9
        refine lv_iconst (v := nI 1) hx hb dL_law_651 (by decide) ?_
        refine lv_goto (tgt := 656) hx hb dL_law_652 (by decide) ?_
        rw [hy1] at kk; exact kk
    refine hJ ?_
    clear hJ
    refine kx_retM (va_runV (As := [.int q1, .int (bI y)]) (rest := []) ⟨hx, hb, hml, hown, hts⟩ (k_X8_strike l D cs (L + 360) z q1 y hZ) (cwV 2 hts gL_law_X8_strike rfl rfl rfl (by decide +kernel) ⟨Nat.le_of_ble_eq_true rfl, Nat.le_of_ble_eq_true rfl⟩) (kx_preV hK hN hMd.1 rfl hMd) rfl rfl hl.1 rfl (lv_room (Nat.le_of_ble_eq_true rfl)) dL_law_656 ⟨hr1.1, hr1.2⟩) hS (fun q _ h => by have h3 := h.1; show L ≤ q; omega) (fun q h => by have h3 := h.1; show L ≤ q; omega) (fun H locs hP hk hS => ?_)
    have hHr := hHr.keepR (H1 := H) (fun q h1 h2 => hk.2 q (by omega) (fun h => by have h3 := h.1; have h4 := h.2; omega))
    have hOu := hOu.kept (hk.2 _ hOu.lt (fun h => by have h3 := h.1; have h4 := h.2; omega))
    have hsz : L + 368 ≤ H.size := Nat.le_trans hsz hk.1
    clear hk
    have hMd : MdC D (cs 0) (L + 360) (upd z 4403 (nI 2)) H := (by have q9 := hP; rw [hw, if_neg (by decide)] at q9; exact q9)
    refine kx_ci (y := nI 0) (if_neg (by rw [hw]; decide)) ?_
    refine lv_istore (lv' := [(6, .int (nI 0)), (5, .int (nI 2)), (4, .int (nI i)), (0, .ref bs), (1, .ref L), (2, .ref (L + 360)), (3, .ref (L + 367))]) hx hb dL_law_659 hl (by decide) rfl (fun ls hl => ?_)
    refine lv_aload_n hx hb dL_law_661 rfl (lv_at hl 5 rfl) ?_
    refine kx_retP (va_runV (As := []) (rest := []) ⟨hx, hb, hml, hown, hts⟩ (k_X8_thrown l D cs (L + 360) (upd z 4403 (nI 2))) (cwV 0 hts gL_law_X8_thrown rfl rfl rfl (by decide +kernel) ⟨Nat.le_of_ble_eq_true rfl, Nat.le_of_ble_eq_true rfl⟩) (kx_preV hK hN hMd.1 rfl hMd) rfl rfl hl.1 rfl (lv_room (Nat.le_of_ble_eq_true rfl)) dL_law_662 ⟨hr1.1, hr1.2⟩) ?_
    refine kx_ci (y := nI 2) (th_thr _) ?_
    refine lv_iload hx hb dL_law_665 (lv_at hl 1 rfl) ?_
    refine lv_icmp_eq (tgt := 672) hx hb dL_law_667 (by decide) (fun _ => ?_) (fun h9 => absurd rfl h9)
    refine lv_iload hx hb dL_law_672 (lv_at hl 1 rfl) ?_
    refine lv_if_ne (tgt := 689) hx hb dL_law_674 (by decide) (fun _ => ?_) (fun h9 => absurd h9 (by decide))
    refine lv_goto (tgt := 1607) hx hb dL_law_689 (by decide) ?_
    exact K _ _ _ _ _ ⟨upd z 4403 (nI 2), _, _, _, _, _, _, _, _, _, _, k9, _, _, _, _, hHr, hOu, hMd, hRA.thr _, hk8, hsz⟩ hS (Nat.le_refl _) (Nat.le_refl _) (lv_sub hl [2, 3, 4, 5, 6] rfl)
