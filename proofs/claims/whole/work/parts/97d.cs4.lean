/-! the law's calls, kinds 11 to 14 -/
set_option maxHeartbeats 2500000 in
set_option maxRecDepth 100000 in
theorem cs_moveOf {p : Program} {l : Launch} {en : Env} {s : State} {m : MethodId} {below : List Frame} {meth : Method} {c : Code} {D : va_G} {cs : Nat → ClassId} {L : Nat} {aW aS aV : Nat → Nat} {tW tM bs N : Nat} {xs : Nat → Int32} {Q : State → Prop} (G : LwG p l s m c D cs L aW aS aV tW tM bs N xs) {i : Nat} (hi : i + 6 ≤ N) {H : Heap} {locs : List Loc} {cells slots : Nat} (hr : cells + 1 ≤ 601024 ∧ slots + 6 ≤ 7293034) (W0 : LwD D cs L aW H) (hS : va_S (fun q : Nat => L ≤ q) s.heap H locs) {ls : Array Slot} (hl : lv_has ls 8 [(4, .int (nI i)), (0, .ref bs), (1, .ref L), (2, .ref (L + 360)), (3, .ref (L + 367))])
  (K : ∀ (H : Heap) (locs : List Loc) (c1 s1 : Nat) (ls : Array Slot), LwD D cs L aW H → va_S (fun q : Nat => L ≤ q) s.heap H locs → c1 ≤ cells + 1 → s1 ≤ slots + 6 → lv_has ls 8 [(4, .int (nI i)), (0, .ref bs), (1, .ref L), (2, .ref (L + 360)), (3, .ref (L + 367))] → W p l en room_1 s m #[Value.ref bs] below meth c H locs c1 s1 Q (F0 m 1607 ls [])) :
  W p l en room_1 s m #[Value.ref bs] below meth c H locs cells slots Q (F0 m 885 ls []) := by
  obtain ⟨hx, hb, hml, hown, hts, hK, hN, hKW0, hXK0, hXN, hXs, hbl, hLs, hN9, hfl⟩ := G
  obtain ⟨z, e, g, e1, g1, nx, cn, se, sg, bt, nn9, k9, ln, pa, ft, f, hHr, hOu, hMd, hRA, hk8, hsz⟩ := W0
  have hbA : ¬ (fun q : Nat => L ≤ q) bs := by show ¬ L ≤ bs; omega
  have hr0 : cells + 0 ≤ room_1.cells ∧ slots + 0 ≤ room_1.slots := ⟨by show cells + 0 ≤ 601024; omega, by show slots + 0 ≤ 7293034; omega⟩
  have hr1 : cells + 1 ≤ room_1.cells ∧ slots + 6 ≤ room_1.slots := hr
  have hI := ev_R hRA.1
  have hG := hRA.2.1
  have hnx := hRA.2.2.1.1.2.1
  have hcn := hRA.2.2.1.1.2.2
  have hZ := hRA.invZ
  have hl150 := hRA.2.2.2.2.1
  have hsv0 := ra_sv hRA
  have hEI := hRA.1
  have hRR := EI.R hRA.1
  have hMM := EI.M hRA.1
  have hTl := hRA.tl
  have hSv := hRA.sv
  have h24 := hI.M24
  have h6 := hI.R6
  have hXK := hXK0.kept (H1 := H) (fun a h1 h2 => hS.2.1 a h1 h2)
  have hKW := hKW0.kept (H1 := H) (fun a h1 h2 => hS.2.1 a h1 h2)
  obtain ⟨q1, hq1⟩ : ∃ q : Int32, q = xs (i + 1) := ⟨_, rfl⟩
  obtain ⟨q2, hq2⟩ : ∃ q : Int32, q = xs (i + 2) := ⟨_, rfl⟩
  rcases ow_c (z := z) (x := q1) (y := q2) with hw | hw | hw
  · obtain ⟨r, w, hrR, hw8, rfl, rfl⟩ := ow_0 hEI.2 hw
    refine lv_aload_n hx hb dL_law_885 rfl (lv_at hl 2 rfl) ?_
    refine lv_aload_n hx hb dL_law_886 rfl (lv_at hl 1 rfl) ?_
    refine lv_iload hx hb dL_law_887 (lv_at hl 0 rfl) ?_
    refine lv_iconst (v := nI 1) hx hb dL_law_889 (by decide) ?_
    refine kn_add hx hb dL_law_890 ?_
    refine kx_sld (v := nI r) hx hb hXs hbl hbA hS (by omega) hN9 hq1 dL_law_891 ?_
    refine lv_aload_n hx hb dL_law_892 rfl (lv_at hl 1 rfl) ?_
    refine lv_iload hx hb dL_law_893 (lv_at hl 0 rfl) ?_
    refine lv_iconst (v := nI 2) hx hb dL_law_895 (by decide) ?_
    refine kn_add hx hb dL_law_896 ?_
    refine kx_sld (v := nI w) hx hb hXs hbl hbA hS (by omega) hN9 hq2 dL_law_897 ?_
    refine lv_aload_n hx hb dL_law_898 rfl (lv_at hl 4 rfl) ?_
    refine kx_retM (vx_runSW (As := [.ref L, .int (nI r), .int (nI w), .ref (L + 367)]) (rest := []) ⟨hx, hb, hml, hown, hts⟩ (k_L_moveOf l D cs L e g e1 g1 nx cn se sg bt nn9 (aW k9) ln pa ft r w hI (by omega) hw8 (L + 367) f (by omega) L (Nat.le_refl L) hfl) (vx_cwSW 4 hts gL_law_L_moveOf rfl rfl rfl (by decide +kernel) ⟨Nat.le_of_ble_eq_true rfl, Nat.le_of_ble_eq_true rfl⟩) (kx_preY hK hN hXK hXN ⟨hHr, hOu⟩) rfl rfl hl.1 rfl (lv_room (Nat.le_of_ble_eq_true rfl)) dL_law_899 hr0) hS (fun q _ h => rg_lo h) (fun q h => rg_lo h) (fun H locs hP hk hS => ?_)
    obtain ⟨hHr, hOu⟩ := hP
    have hHr : HrC D cs L e g e1 g1 nx cn se sg bt nn9 (aW k9) ln pa ft H := hHr
    have hMd := hMd.frame hk (fun q h1 h2 h => by rcases h with h | h <;> omega)
    have hsz : L + 368 ≤ H.size := Nat.le_trans hsz hk.1
    clear hk hXK hKW
    refine lv_istore (lv' := [(5, .int (nI 0)), (4, .int (nI i)), (0, .ref bs), (1, .ref L), (2, .ref (L + 360)), (3, .ref (L + 367))]) hx hb dL_law_902 hl (by decide) rfl (fun ls hl => ?_)
    refine lv_aload_n hx hb dL_law_904 rfl (lv_at hl 4 rfl) ?_
    refine lv_aload_n hx hb dL_law_905 rfl (lv_at hl 2 rfl) ?_
    refine lv_iload hx hb dL_law_906 (lv_at hl 1 rfl) ?_
    refine lv_iconst (v := nI 1) hx hb dL_law_908 (by decide) ?_
    refine kn_add hx hb dL_law_909 ?_
    refine kx_sld (v := nI r) hx hb hXs hbl hbA hS (by omega) hN9 hq1 dL_law_910 ?_
    refine lv_aload_n hx hb dL_law_911 rfl (lv_at hl 2 rfl) ?_
    refine lv_iload hx hb dL_law_912 (lv_at hl 1 rfl) ?_
    refine lv_iconst (v := nI 2) hx hb dL_law_914 (by decide) ?_
    refine kn_add hx hb dL_law_915 ?_
    refine kx_sld (v := nI w) hx hb hXs hbl hbA hS (by omega) hN9 hq2 dL_law_916 ?_
    refine kx_retM (va_runV (As := [.int (nI r), .int (nI w)]) (rest := []) ⟨hx, hb, hml, hown, hts⟩ (k_X8_moveOf l D cs (L + 360) z (nI r) (nI w) hZ) (cwV 2 hts gL_law_X8_moveOf rfl rfl rfl (by decide +kernel) ⟨Nat.le_of_ble_eq_true rfl, Nat.le_of_ble_eq_true rfl⟩) (kx_preV hK hN hMd.1 rfl hMd) rfl rfl hl.1 rfl (lv_room (Nat.le_of_ble_eq_true rfl)) dL_law_917 hr0) hS (fun q _ h => by have h3 := h.1; show L ≤ q; omega) (fun q h => by have h3 := h.1; show L ≤ q; omega) (fun H locs hP hk hS => ?_)
    have hHr := hHr.keepR (H1 := H) (fun q h1 h2 => hk.2 q (by omega) (fun h => by have h3 := h.1; have h4 := h.2; omega))
    have hOu := hOu.kept (hk.2 _ hOu.lt (fun h => by have h3 := h.1; have h4 := h.2; omega))
    have hsz : L + 368 ≤ H.size := Nat.le_trans hsz hk.1
    clear hk
    have hMd : MdC D (cs 0) (L + 360) (upd z 4403 (nI 0)) H := (by have q9 := hP; rw [hw] at q9; exact q9)
    refine kx_ci (y := e (80 + 10 * r + w)) (by rw [if_pos hw, nn_nI (by omega), nn_nI (by omega), hRA.mv hrR hw8]) ?_
    refine lv_istore (lv' := [(6, .int (e (80 + 10 * r + w))), (5, .int (nI 0)), (4, .int (nI i)), (0, .ref bs), (1, .ref L), (2, .ref (L + 360)), (3, .ref (L + 367))]) hx hb dL_law_920 hl (by decide) rfl (fun ls hl => ?_)
    refine lv_aload_n hx hb dL_law_922 rfl (lv_at hl 5 rfl) ?_
    refine kx_retP (va_runV (As := []) (rest := []) ⟨hx, hb, hml, hown, hts⟩ (k_X8_thrown l D cs (L + 360) (upd z 4403 (nI 0))) (cwV 0 hts gL_law_X8_thrown rfl rfl rfl (by decide +kernel) ⟨Nat.le_of_ble_eq_true rfl, Nat.le_of_ble_eq_true rfl⟩) (kx_preV hK hN hMd.1 rfl hMd) rfl rfl hl.1 rfl (lv_room (Nat.le_of_ble_eq_true rfl)) dL_law_923 hr0) ?_
    refine kx_ci (y := nI 0) (th_thr _) ?_
    refine lv_iload hx hb dL_law_926 (lv_at hl 1 rfl) ?_
    refine lv_icmp_eq (tgt := 933) hx hb dL_law_928 (by decide) (fun _ => ?_) (fun h9 => absurd rfl h9)
    refine lv_iload hx hb dL_law_933 (lv_at hl 1 rfl) ?_
    refine lv_if_ne (tgt := 950) hx hb dL_law_935 (by decide) (fun h9 => absurd (show nI 0 = 0 by decide) h9) (fun _ => ?_)
    refine lv_aload_n hx hb dL_law_938 rfl (lv_at hl 6 rfl) ?_
    refine lv_iconst (v := nI 0) hx hb dL_law_939 (by decide) ?_
    refine kx_lald hx hb hK hOu 5 rfl (i := 0) (by decide) (by decide) dL_law_940 ?_
    refine kx_cl (y := (e (80 + 10 * r + w)).toInt64) (vp_upd0 _ _) ?_
    refine lv_iload hx hb dL_law_941 (lv_at hl 0 rfl) ?_
    refine lv_i2l hx hb dL_law_943 rfl ?_
    refine W.lcmp hx hb dL_law_944 ?_
    refine kl_if_eq (tgt := 950) hx hb dL_law_945 (by decide) (fun _ => ?_) (fun h9 => absurd rfl h9)
    refine lv_goto (tgt := 1607) hx hb dL_law_950 (by decide) ?_
    exact K _ _ _ _ _ ⟨upd z 4403 (nI 0), _, _, _, _, _, _, _, _, _, _, k9, _, _, _, _, hHr, hOu, hMd, hRA.thr _, hk8, hsz⟩ hS (Nat.le_add_right _ _) (Nat.le_add_right _ _) (lv_sub hl [2, 3, 4, 5, 6] rfl)
  · have hwe := ow_1 hw
    refine lv_aload_n hx hb dL_law_885 rfl (lv_at hl 2 rfl) ?_
    refine lv_aload_n hx hb dL_law_886 rfl (lv_at hl 1 rfl) ?_
    refine lv_iload hx hb dL_law_887 (lv_at hl 0 rfl) ?_
    refine lv_iconst (v := nI 1) hx hb dL_law_889 (by decide) ?_
    refine kn_add hx hb dL_law_890 ?_
    refine kx_sld (v := q1) hx hb hXs hbl hbA hS (by omega) hN9 hq1 dL_law_891 ?_
    refine lv_aload_n hx hb dL_law_892 rfl (lv_at hl 1 rfl) ?_
    refine lv_iload hx hb dL_law_893 (lv_at hl 0 rfl) ?_
    refine lv_iconst (v := nI 2) hx hb dL_law_895 (by decide) ?_
    refine kn_add hx hb dL_law_896 ?_
    refine kx_sld (v := q2) hx hb hXs hbl hbA hS (by omega) hN9 hq2 dL_law_897 ?_
    refine lv_aload_n hx hb dL_law_898 rfl (lv_at hl 4 rfl) ?_
    refine kx_retN (vx_runSW (As := [.ref L, .int q1, .int q2, .ref (L + 367)]) (rest := []) ⟨hx, hb, hml, hown, hts⟩ (k_L_moveOfT1 l D cs L e g e1 g1 nx cn se sg bt nn9 (aW k9) ln pa ft q1 q2 hI (by rw [hMM]; exact hwe) (L + 367) f (by omega) L (Nat.le_refl L) hfl) (vx_cwSW 4 hts gL_law_L_moveOf rfl rfl rfl (by decide +kernel) ⟨Nat.le_of_ble_eq_true rfl, Nat.le_of_ble_eq_true rfl⟩) (kx_preY hK hN hXK hXN ⟨hHr, hOu⟩) rfl rfl hl.1 rfl (lv_room (Nat.le_of_ble_eq_true rfl)) dL_law_899 hr1) hS (fun q _ h => rg_lo h) (fun q h => rg_lo h) (fun H locs hP hk hS => ?_)
    obtain ⟨hHr, hOu⟩ := hP
    have hHr : HrC D cs L e g e1 g1 nx cn se sg bt nn9 (aW k9) ln pa ft H := hHr
    have hMd := hMd.frame hk (fun q h1 h2 h => by rcases h with h | h <;> omega)
    have hsz : L + 368 ≤ H.size := Nat.le_trans hsz hk.1
    clear hk hXK hKW
    refine lv_istore (lv' := [(5, .int (nI 1)), (4, .int (nI i)), (0, .ref bs), (1, .ref L), (2, .ref (L + 360)), (3, .ref (L + 367))]) hx hb dL_law_902 hl (by decide) rfl (fun ls hl => ?_)
    refine lv_aload_n hx hb dL_law_904 rfl (lv_at hl 4 rfl) ?_
    refine lv_aload_n hx hb dL_law_905 rfl (lv_at hl 2 rfl) ?_
    refine lv_iload hx hb dL_law_906 (lv_at hl 1 rfl) ?_
    refine lv_iconst (v := nI 1) hx hb dL_law_908 (by decide) ?_
    refine kn_add hx hb dL_law_909 ?_
    refine kx_sld (v := q1) hx hb hXs hbl hbA hS (by omega) hN9 hq1 dL_law_910 ?_
    refine lv_aload_n hx hb dL_law_911 rfl (lv_at hl 2 rfl) ?_
    refine lv_iload hx hb dL_law_912 (lv_at hl 1 rfl) ?_
    refine lv_iconst (v := nI 2) hx hb dL_law_914 (by decide) ?_
    refine kn_add hx hb dL_law_915 ?_
    refine kx_sld (v := q2) hx hb hXs hbl hbA hS (by omega) hN9 hq2 dL_law_916 ?_
    refine kx_retM (va_runV (As := [.int q1, .int q2]) (rest := []) ⟨hx, hb, hml, hown, hts⟩ (k_X8_moveOf l D cs (L + 360) z q1 q2 hZ) (cwV 2 hts gL_law_X8_moveOf rfl rfl rfl (by decide +kernel) ⟨Nat.le_of_ble_eq_true rfl, Nat.le_of_ble_eq_true rfl⟩) (kx_preV hK hN hMd.1 rfl hMd) rfl rfl hl.1 rfl (lv_room (Nat.le_of_ble_eq_true rfl)) dL_law_917 ⟨hr1.1, hr1.2⟩) hS (fun q _ h => by have h3 := h.1; show L ≤ q; omega) (fun q h => by have h3 := h.1; show L ≤ q; omega) (fun H locs hP hk hS => ?_)
    have hHr := hHr.keepR (H1 := H) (fun q h1 h2 => hk.2 q (by omega) (fun h => by have h3 := h.1; have h4 := h.2; omega))
    have hOu := hOu.kept (hk.2 _ hOu.lt (fun h => by have h3 := h.1; have h4 := h.2; omega))
    have hsz : L + 368 ≤ H.size := Nat.le_trans hsz hk.1
    clear hk
    have hMd : MdC D (cs 0) (L + 360) (upd z 4403 (nI 1)) H := (by have q9 := hP; rw [hw] at q9; exact q9)
    refine kx_ci (y := nI 0) (if_neg (by rw [hw]; decide)) ?_
    refine lv_istore (lv' := [(6, .int (nI 0)), (5, .int (nI 1)), (4, .int (nI i)), (0, .ref bs), (1, .ref L), (2, .ref (L + 360)), (3, .ref (L + 367))]) hx hb dL_law_920 hl (by decide) rfl (fun ls hl => ?_)
    refine lv_aload_n hx hb dL_law_922 rfl (lv_at hl 5 rfl) ?_
    refine kx_retP (va_runV (As := []) (rest := []) ⟨hx, hb, hml, hown, hts⟩ (k_X8_thrown l D cs (L + 360) (upd z 4403 (nI 1))) (cwV 0 hts gL_law_X8_thrown rfl rfl rfl (by decide +kernel) ⟨Nat.le_of_ble_eq_true rfl, Nat.le_of_ble_eq_true rfl⟩) (kx_preV hK hN hMd.1 rfl hMd) rfl rfl hl.1 rfl (lv_room (Nat.le_of_ble_eq_true rfl)) dL_law_923 ⟨hr1.1, hr1.2⟩) ?_
    refine kx_ci (y := nI 1) (th_thr _) ?_
    refine lv_iload hx hb dL_law_926 (lv_at hl 1 rfl) ?_
    refine lv_icmp_eq (tgt := 933) hx hb dL_law_928 (by decide) (fun _ => ?_) (fun h9 => absurd rfl h9)
    refine lv_iload hx hb dL_law_933 (lv_at hl 1 rfl) ?_
    refine lv_if_ne (tgt := 950) hx hb dL_law_935 (by decide) (fun _ => ?_) (fun h9 => absurd h9 (by decide))
    refine lv_goto (tgt := 1607) hx hb dL_law_950 (by decide) ?_
    exact K _ _ _ _ _ ⟨upd z 4403 (nI 1), _, _, _, _, _, _, _, _, _, _, k9, _, _, _, _, hHr, hOu, hMd, hRA.thr _, hk8, hsz⟩ hS (Nat.le_refl _) (Nat.le_refl _) (lv_sub hl [2, 3, 4, 5, 6] rfl)
  · obtain ⟨r, hrR, rfl, hwe⟩ := ow_2 hEI.2 hw
    refine lv_aload_n hx hb dL_law_885 rfl (lv_at hl 2 rfl) ?_
    refine lv_aload_n hx hb dL_law_886 rfl (lv_at hl 1 rfl) ?_
    refine lv_iload hx hb dL_law_887 (lv_at hl 0 rfl) ?_
    refine lv_iconst (v := nI 1) hx hb dL_law_889 (by decide) ?_
    refine kn_add hx hb dL_law_890 ?_
    refine kx_sld (v := nI r) hx hb hXs hbl hbA hS (by omega) hN9 hq1 dL_law_891 ?_
    refine lv_aload_n hx hb dL_law_892 rfl (lv_at hl 1 rfl) ?_
    refine lv_iload hx hb dL_law_893 (lv_at hl 0 rfl) ?_
    refine lv_iconst (v := nI 2) hx hb dL_law_895 (by decide) ?_
    refine kn_add hx hb dL_law_896 ?_
    refine kx_sld (v := q2) hx hb hXs hbl hbA hS (by omega) hN9 hq2 dL_law_897 ?_
    refine lv_aload_n hx hb dL_law_898 rfl (lv_at hl 4 rfl) ?_
    refine kx_retN (vx_runSW (As := [.ref L, .int (nI r), .int q2, .ref (L + 367)]) (rest := []) ⟨hx, hb, hml, hown, hts⟩ (k_L_moveOfT2 l D cs L e g e1 g1 nx cn se sg bt nn9 (aW k9) ln pa ft r q2 hI (by omega) hwe (L + 367) f (by omega) L (Nat.le_refl L) hfl) (vx_cwSW 4 hts gL_law_L_moveOf rfl rfl rfl (by decide +kernel) ⟨Nat.le_of_ble_eq_true rfl, Nat.le_of_ble_eq_true rfl⟩) (kx_preY hK hN hXK hXN ⟨hHr, hOu⟩) rfl rfl hl.1 rfl (lv_room (Nat.le_of_ble_eq_true rfl)) dL_law_899 hr1) hS (fun q _ h => rg_lo h) (fun q h => rg_lo h) (fun H locs hP hk hS => ?_)
    obtain ⟨hHr, hOu⟩ := hP
    have hHr : HrC D cs L e g e1 g1 nx cn se sg bt nn9 (aW k9) ln pa ft H := hHr
    have hMd := hMd.frame hk (fun q h1 h2 h => by rcases h with h | h <;> omega)
    have hsz : L + 368 ≤ H.size := Nat.le_trans hsz hk.1
    clear hk hXK hKW
    refine lv_istore (lv' := [(5, .int (nI 2)), (4, .int (nI i)), (0, .ref bs), (1, .ref L), (2, .ref (L + 360)), (3, .ref (L + 367))]) hx hb dL_law_902 hl (by decide) rfl (fun ls hl => ?_)
    refine lv_aload_n hx hb dL_law_904 rfl (lv_at hl 4 rfl) ?_
    refine lv_aload_n hx hb dL_law_905 rfl (lv_at hl 2 rfl) ?_
    refine lv_iload hx hb dL_law_906 (lv_at hl 1 rfl) ?_
    refine lv_iconst (v := nI 1) hx hb dL_law_908 (by decide) ?_
    refine kn_add hx hb dL_law_909 ?_
    refine kx_sld (v := nI r) hx hb hXs hbl hbA hS (by omega) hN9 hq1 dL_law_910 ?_
    refine lv_aload_n hx hb dL_law_911 rfl (lv_at hl 2 rfl) ?_
    refine lv_iload hx hb dL_law_912 (lv_at hl 1 rfl) ?_
    refine lv_iconst (v := nI 2) hx hb dL_law_914 (by decide) ?_
    refine kn_add hx hb dL_law_915 ?_
    refine kx_sld (v := q2) hx hb hXs hbl hbA hS (by omega) hN9 hq2 dL_law_916 ?_
    refine kx_retM (va_runV (As := [.int (nI r), .int q2]) (rest := []) ⟨hx, hb, hml, hown, hts⟩ (k_X8_moveOf l D cs (L + 360) z (nI r) q2 hZ) (cwV 2 hts gL_law_X8_moveOf rfl rfl rfl (by decide +kernel) ⟨Nat.le_of_ble_eq_true rfl, Nat.le_of_ble_eq_true rfl⟩) (kx_preV hK hN hMd.1 rfl hMd) rfl rfl hl.1 rfl (lv_room (Nat.le_of_ble_eq_true rfl)) dL_law_917 ⟨hr1.1, hr1.2⟩) hS (fun q _ h => by have h3 := h.1; show L ≤ q; omega) (fun q h => by have h3 := h.1; show L ≤ q; omega) (fun H locs hP hk hS => ?_)
    have hHr := hHr.keepR (H1 := H) (fun q h1 h2 => hk.2 q (by omega) (fun h => by have h3 := h.1; have h4 := h.2; omega))
    have hOu := hOu.kept (hk.2 _ hOu.lt (fun h => by have h3 := h.1; have h4 := h.2; omega))
    have hsz : L + 368 ≤ H.size := Nat.le_trans hsz hk.1
    clear hk
    have hMd : MdC D (cs 0) (L + 360) (upd z 4403 (nI 2)) H := (by have q9 := hP; rw [hw] at q9; exact q9)
    refine kx_ci (y := nI 0) (if_neg (by rw [hw]; decide)) ?_
    refine lv_istore (lv' := [(6, .int (nI 0)), (5, .int (nI 2)), (4, .int (nI i)), (0, .ref bs), (1, .ref L), (2, .ref (L + 360)), (3, .ref (L + 367))]) hx hb dL_law_920 hl (by decide) rfl (fun ls hl => ?_)
    refine lv_aload_n hx hb dL_law_922 rfl (lv_at hl 5 rfl) ?_
    refine kx_retP (va_runV (As := []) (rest := []) ⟨hx, hb, hml, hown, hts⟩ (k_X8_thrown l D cs (L + 360) (upd z 4403 (nI 2))) (cwV 0 hts gL_law_X8_thrown rfl rfl rfl (by decide +kernel) ⟨Nat.le_of_ble_eq_true rfl, Nat.le_of_ble_eq_true rfl⟩) (kx_preV hK hN hMd.1 rfl hMd) rfl rfl hl.1 rfl (lv_room (Nat.le_of_ble_eq_true rfl)) dL_law_923 ⟨hr1.1, hr1.2⟩) ?_
    refine kx_ci (y := nI 2) (th_thr _) ?_
    refine lv_iload hx hb dL_law_926 (lv_at hl 1 rfl) ?_
    refine lv_icmp_eq (tgt := 933) hx hb dL_law_928 (by decide) (fun _ => ?_) (fun h9 => absurd rfl h9)
    refine lv_iload hx hb dL_law_933 (lv_at hl 1 rfl) ?_
    refine lv_if_ne (tgt := 950) hx hb dL_law_935 (by decide) (fun _ => ?_) (fun h9 => absurd h9 (by decide))
    refine lv_goto (tgt := 1607) hx hb dL_law_950 (by decide) ?_
    exact K _ _ _ _ _ ⟨upd z 4403 (nI 2), _, _, _, _, _, _, _, _, _, _, k9, _, _, _, _, hHr, hOu, hMd, hRA.thr _, hk8, hsz⟩ hS (Nat.le_refl _) (Nat.le_refl _) (lv_sub hl [2, 3, 4, 5, 6] rfl)
set_option maxHeartbeats 2500000 in
set_option maxRecDepth 100000 in
theorem cs_hostage {p : Program} {l : Launch} {en : Env} {s : State} {m : MethodId} {below : List Frame} {meth : Method} {c : Code} {D : va_G} {cs : Nat → ClassId} {L : Nat} {aW aS aV : Nat → Nat} {tW tM bs N : Nat} {xs : Nat → Int32} {Q : State → Prop} (G : LwG p l s m c D cs L aW aS aV tW tM bs N xs) {i : Nat} (hi : i + 6 ≤ N) {H : Heap} {locs : List Loc} {cells slots : Nat} (hr : cells + 1 ≤ 601024 ∧ slots + 6 ≤ 7293034) (W0 : LwD D cs L aW H) (hS : va_S (fun q : Nat => L ≤ q) s.heap H locs) {ls : Array Slot} (hl : lv_has ls 8 [(4, .int (nI i)), (0, .ref bs), (1, .ref L), (2, .ref (L + 360)), (3, .ref (L + 367))])
  (K : ∀ (H : Heap) (locs : List Loc) (c1 s1 : Nat) (ls : Array Slot), LwD D cs L aW H → va_S (fun q : Nat => L ≤ q) s.heap H locs → c1 ≤ cells + 1 → s1 ≤ slots + 6 → lv_has ls 8 [(4, .int (nI i)), (0, .ref bs), (1, .ref L), (2, .ref (L + 360)), (3, .ref (L + 367))] → W p l en room_1 s m #[Value.ref bs] below meth c H locs c1 s1 Q (F0 m 1607 ls [])) :
  W p l en room_1 s m #[Value.ref bs] below meth c H locs cells slots Q (F0 m 953 ls []) := by
  obtain ⟨hx, hb, hml, hown, hts, hK, hN, hKW0, hXK0, hXN, hXs, hbl, hLs, hN9, hfl⟩ := G
  obtain ⟨z, e, g, e1, g1, nx, cn, se, sg, bt, nn9, k9, ln, pa, ft, f, hHr, hOu, hMd, hRA, hk8, hsz⟩ := W0
  have hbA : ¬ (fun q : Nat => L ≤ q) bs := by show ¬ L ≤ bs; omega
  have hr0 : cells + 0 ≤ room_1.cells ∧ slots + 0 ≤ room_1.slots := ⟨by show cells + 0 ≤ 601024; omega, by show slots + 0 ≤ 7293034; omega⟩
  have hr1 : cells + 1 ≤ room_1.cells ∧ slots + 6 ≤ room_1.slots := hr
  have hI := ev_R hRA.1
  have hG := hRA.2.1
  have hnx := hRA.2.2.1.1.2.1
  have hcn := hRA.2.2.1.1.2.2
  have hZ := hRA.invZ
  have hl150 := hRA.2.2.2.2.1
  have hsv0 := ra_sv hRA
  have hEI := hRA.1
  have hRR := EI.R hRA.1
  have hMM := EI.M hRA.1
  have hTl := hRA.tl
  have hSv := hRA.sv
  have h24 := hI.M24
  have h6 := hI.R6
  have hXK := hXK0.kept (H1 := H) (fun a h1 h2 => hS.2.1 a h1 h2)
  have hKW := hKW0.kept (H1 := H) (fun a h1 h2 => hS.2.1 a h1 h2)
  obtain ⟨q1, hq1⟩ : ∃ q : Int32, q = xs (i + 1) := ⟨_, rfl⟩
  obtain ⟨q2, hq2⟩ : ∃ q : Int32, q = xs (i + 2) := ⟨_, rfl⟩
  rcases hw_c (z := z) (x := q1) (y := q2) with hw | hw | hw
  · obtain ⟨r, w, hrR, hw8, rfl, rfl⟩ := hw_0 hEI.2 hw
    refine lv_aload_n hx hb dL_law_953 rfl (lv_at hl 2 rfl) ?_
    refine lv_aload_n hx hb dL_law_954 rfl (lv_at hl 1 rfl) ?_
    refine lv_iload hx hb dL_law_955 (lv_at hl 0 rfl) ?_
    refine lv_iconst (v := nI 1) hx hb dL_law_957 (by decide) ?_
    refine kn_add hx hb dL_law_958 ?_
    refine kx_sld (v := nI r) hx hb hXs hbl hbA hS (by omega) hN9 hq1 dL_law_959 ?_
    refine lv_aload_n hx hb dL_law_960 rfl (lv_at hl 1 rfl) ?_
    refine lv_iload hx hb dL_law_961 (lv_at hl 0 rfl) ?_
    refine lv_iconst (v := nI 2) hx hb dL_law_963 (by decide) ?_
    refine kn_add hx hb dL_law_964 ?_
    refine kx_sld (v := nI w) hx hb hXs hbl hbA hS (by omega) hN9 hq2 dL_law_965 ?_
    refine lv_aload_n hx hb dL_law_966 rfl (lv_at hl 4 rfl) ?_
    refine kx_retM (vx_runSW (As := [.ref L, .int (nI r), .int (nI w), .ref (L + 367)]) (rest := []) ⟨hx, hb, hml, hown, hts⟩ (k_L_hostage l D cs L e g e1 g1 nx cn se sg bt nn9 (aW k9) ln pa ft r w hI (by omega) hw8 (L + 367) f (by omega) L (Nat.le_refl L) hfl) (vx_cwSW 4 hts gL_law_L_hostage rfl rfl rfl (by decide +kernel) ⟨Nat.le_of_ble_eq_true rfl, Nat.le_of_ble_eq_true rfl⟩) (kx_preY hK hN hXK hXN ⟨hHr, hOu⟩) rfl rfl hl.1 rfl (lv_room (Nat.le_of_ble_eq_true rfl)) dL_law_967 hr0) hS (fun q _ h => rg_lo h) (fun q h => rg_lo h) (fun H locs hP hk hS => ?_)
    obtain ⟨hHr, hOu⟩ := hP
    have hHr : HrC D cs L e g e1 g1 nx cn se sg bt nn9 (aW k9) ln pa ft H := hHr
    have hMd := hMd.frame hk (fun q h1 h2 h => by rcases h with h | h <;> omega)
    have hsz : L + 368 ≤ H.size := Nat.le_trans hsz hk.1
    clear hk hXK hKW
    refine lv_istore (lv' := [(5, .int (nI 0)), (4, .int (nI i)), (0, .ref bs), (1, .ref L), (2, .ref (L + 360)), (3, .ref (L + 367))]) hx hb dL_law_970 hl (by decide) rfl (fun ls hl => ?_)
    refine lv_aload_n hx hb dL_law_972 rfl (lv_at hl 4 rfl) ?_
    refine lv_aload_n hx hb dL_law_973 rfl (lv_at hl 2 rfl) ?_
    refine lv_iload hx hb dL_law_974 (lv_at hl 1 rfl) ?_
    refine lv_iconst (v := nI 1) hx hb dL_law_976 (by decide) ?_
    refine kn_add hx hb dL_law_977 ?_
    refine kx_sld (v := nI r) hx hb hXs hbl hbA hS (by omega) hN9 hq1 dL_law_978 ?_
    refine lv_aload_n hx hb dL_law_979 rfl (lv_at hl 2 rfl) ?_
    refine lv_iload hx hb dL_law_980 (lv_at hl 1 rfl) ?_
    refine lv_iconst (v := nI 2) hx hb dL_law_982 (by decide) ?_
    refine kn_add hx hb dL_law_983 ?_
    refine kx_sld (v := nI w) hx hb hXs hbl hbA hS (by omega) hN9 hq2 dL_law_984 ?_
    refine kx_retM (va_runV (As := [.int (nI r), .int (nI w)]) (rest := []) ⟨hx, hb, hml, hown, hts⟩ (k_X8_hostage l D cs (L + 360) z (nI r) (nI w) hZ) (cwV 2 hts gL_law_X8_hostage rfl rfl rfl (by decide +kernel) ⟨Nat.le_of_ble_eq_true rfl, Nat.le_of_ble_eq_true rfl⟩) (kx_preV hK hN hMd.1 rfl hMd) rfl rfl hl.1 rfl (lv_room (Nat.le_of_ble_eq_true rfl)) dL_law_985 hr0) hS (fun q _ h => by have h3 := h.1; show L ≤ q; omega) (fun q h => by have h3 := h.1; show L ≤ q; omega) (fun H locs hP hk hS => ?_)
    have hHr := hHr.keepR (H1 := H) (fun q h1 h2 => hk.2 q (by omega) (fun h => by have h3 := h.1; have h4 := h.2; omega))
    have hOu := hOu.kept (hk.2 _ hOu.lt (fun h => by have h3 := h.1; have h4 := h.2; omega))
    have hsz : L + 368 ≤ H.size := Nat.le_trans hsz hk.1
    clear hk
    have hMd : MdC D (cs 0) (L + 360) (upd z 4403 (nI 0)) H := (by have q9 := hP; rw [hw] at q9; exact q9)
    refine kx_ci (y := hxI e r (nI w)) (by rw [if_pos hw, nn_nI (by omega), nn_nI hw8, hRA.hs hrR hw8]) ?_
    refine lv_istore (lv' := [(6, .int (hxI e r (nI w))), (5, .int (nI 0)), (4, .int (nI i)), (0, .ref bs), (1, .ref L), (2, .ref (L + 360)), (3, .ref (L + 367))]) hx hb dL_law_988 hl (by decide) rfl (fun ls hl => ?_)
    refine lv_aload_n hx hb dL_law_990 rfl (lv_at hl 5 rfl) ?_
    refine kx_retP (va_runV (As := []) (rest := []) ⟨hx, hb, hml, hown, hts⟩ (k_X8_thrown l D cs (L + 360) (upd z 4403 (nI 0))) (cwV 0 hts gL_law_X8_thrown rfl rfl rfl (by decide +kernel) ⟨Nat.le_of_ble_eq_true rfl, Nat.le_of_ble_eq_true rfl⟩) (kx_preV hK hN hMd.1 rfl hMd) rfl rfl hl.1 rfl (lv_room (Nat.le_of_ble_eq_true rfl)) dL_law_991 hr0) ?_
    refine kx_ci (y := nI 0) (th_thr _) ?_
    refine lv_iload hx hb dL_law_994 (lv_at hl 1 rfl) ?_
    refine lv_icmp_eq (tgt := 1001) hx hb dL_law_996 (by decide) (fun _ => ?_) (fun h9 => absurd rfl h9)
    refine lv_iload hx hb dL_law_1001 (lv_at hl 1 rfl) ?_
    refine lv_if_ne (tgt := 1018) hx hb dL_law_1003 (by decide) (fun h9 => absurd (show nI 0 = 0 by decide) h9) (fun _ => ?_)
    refine lv_aload_n hx hb dL_law_1006 rfl (lv_at hl 6 rfl) ?_
    refine lv_iconst (v := nI 0) hx hb dL_law_1007 (by decide) ?_
    refine kx_lald hx hb hK hOu 5 rfl (i := 0) (by decide) (by decide) dL_law_1008 ?_
    refine kx_cl (y := (hxI e r (nI w)).toInt64) (vp_upd0 _ _) ?_
    refine lv_iload hx hb dL_law_1009 (lv_at hl 0 rfl) ?_
    refine lv_i2l hx hb dL_law_1011 rfl ?_
    refine W.lcmp hx hb dL_law_1012 ?_
    refine kl_if_eq (tgt := 1018) hx hb dL_law_1013 (by decide) (fun _ => ?_) (fun h9 => absurd rfl h9)
    refine lv_goto (tgt := 1607) hx hb dL_law_1018 (by decide) ?_
    exact K _ _ _ _ _ ⟨upd z 4403 (nI 0), _, _, _, _, _, _, _, _, _, _, k9, _, _, _, _, hHr, hOu, hMd, hRA.thr _, hk8, hsz⟩ hS (Nat.le_add_right _ _) (Nat.le_add_right _ _) (lv_sub hl [2, 3, 4, 5, 6] rfl)
  · have hwe := hw_1 hw
    refine lv_aload_n hx hb dL_law_953 rfl (lv_at hl 2 rfl) ?_
    refine lv_aload_n hx hb dL_law_954 rfl (lv_at hl 1 rfl) ?_
    refine lv_iload hx hb dL_law_955 (lv_at hl 0 rfl) ?_
    refine lv_iconst (v := nI 1) hx hb dL_law_957 (by decide) ?_
    refine kn_add hx hb dL_law_958 ?_
    refine kx_sld (v := q1) hx hb hXs hbl hbA hS (by omega) hN9 hq1 dL_law_959 ?_
    refine lv_aload_n hx hb dL_law_960 rfl (lv_at hl 1 rfl) ?_
    refine lv_iload hx hb dL_law_961 (lv_at hl 0 rfl) ?_
    refine lv_iconst (v := nI 2) hx hb dL_law_963 (by decide) ?_
    refine kn_add hx hb dL_law_964 ?_
    refine kx_sld (v := q2) hx hb hXs hbl hbA hS (by omega) hN9 hq2 dL_law_965 ?_
    refine lv_aload_n hx hb dL_law_966 rfl (lv_at hl 4 rfl) ?_
    refine kx_retN (vx_runSW (As := [.ref L, .int q1, .int q2, .ref (L + 367)]) (rest := []) ⟨hx, hb, hml, hown, hts⟩ (k_L_hostageT1 l D cs L e g e1 g1 nx cn se sg bt nn9 (aW k9) ln pa ft q1 q2 hI (by rw [hMM]; exact hwe) (L + 367) f (by omega) L (Nat.le_refl L) hfl) (vx_cwSW 4 hts gL_law_L_hostage rfl rfl rfl (by decide +kernel) ⟨Nat.le_of_ble_eq_true rfl, Nat.le_of_ble_eq_true rfl⟩) (kx_preY hK hN hXK hXN ⟨hHr, hOu⟩) rfl rfl hl.1 rfl (lv_room (Nat.le_of_ble_eq_true rfl)) dL_law_967 hr1) hS (fun q _ h => rg_lo h) (fun q h => rg_lo h) (fun H locs hP hk hS => ?_)
    obtain ⟨hHr, hOu⟩ := hP
    have hHr : HrC D cs L e g e1 g1 nx cn se sg bt nn9 (aW k9) ln pa ft H := hHr
    have hMd := hMd.frame hk (fun q h1 h2 h => by rcases h with h | h <;> omega)
    have hsz : L + 368 ≤ H.size := Nat.le_trans hsz hk.1
    clear hk hXK hKW
    refine lv_istore (lv' := [(5, .int (nI 1)), (4, .int (nI i)), (0, .ref bs), (1, .ref L), (2, .ref (L + 360)), (3, .ref (L + 367))]) hx hb dL_law_970 hl (by decide) rfl (fun ls hl => ?_)
    refine lv_aload_n hx hb dL_law_972 rfl (lv_at hl 4 rfl) ?_
    refine lv_aload_n hx hb dL_law_973 rfl (lv_at hl 2 rfl) ?_
    refine lv_iload hx hb dL_law_974 (lv_at hl 1 rfl) ?_
    refine lv_iconst (v := nI 1) hx hb dL_law_976 (by decide) ?_
    refine kn_add hx hb dL_law_977 ?_
    refine kx_sld (v := q1) hx hb hXs hbl hbA hS (by omega) hN9 hq1 dL_law_978 ?_
    refine lv_aload_n hx hb dL_law_979 rfl (lv_at hl 2 rfl) ?_
    refine lv_iload hx hb dL_law_980 (lv_at hl 1 rfl) ?_
    refine lv_iconst (v := nI 2) hx hb dL_law_982 (by decide) ?_
    refine kn_add hx hb dL_law_983 ?_
    refine kx_sld (v := q2) hx hb hXs hbl hbA hS (by omega) hN9 hq2 dL_law_984 ?_
    refine kx_retM (va_runV (As := [.int q1, .int q2]) (rest := []) ⟨hx, hb, hml, hown, hts⟩ (k_X8_hostage l D cs (L + 360) z q1 q2 hZ) (cwV 2 hts gL_law_X8_hostage rfl rfl rfl (by decide +kernel) ⟨Nat.le_of_ble_eq_true rfl, Nat.le_of_ble_eq_true rfl⟩) (kx_preV hK hN hMd.1 rfl hMd) rfl rfl hl.1 rfl (lv_room (Nat.le_of_ble_eq_true rfl)) dL_law_985 ⟨hr1.1, hr1.2⟩) hS (fun q _ h => by have h3 := h.1; show L ≤ q; omega) (fun q h => by have h3 := h.1; show L ≤ q; omega) (fun H locs hP hk hS => ?_)
    have hHr := hHr.keepR (H1 := H) (fun q h1 h2 => hk.2 q (by omega) (fun h => by have h3 := h.1; have h4 := h.2; omega))
    have hOu := hOu.kept (hk.2 _ hOu.lt (fun h => by have h3 := h.1; have h4 := h.2; omega))
    have hsz : L + 368 ≤ H.size := Nat.le_trans hsz hk.1
    clear hk
    have hMd : MdC D (cs 0) (L + 360) (upd z 4403 (nI 1)) H := (by have q9 := hP; rw [hw] at q9; exact q9)
    refine kx_ci (y := nI 0) (if_neg (by rw [hw]; decide)) ?_
    refine lv_istore (lv' := [(6, .int (nI 0)), (5, .int (nI 1)), (4, .int (nI i)), (0, .ref bs), (1, .ref L), (2, .ref (L + 360)), (3, .ref (L + 367))]) hx hb dL_law_988 hl (by decide) rfl (fun ls hl => ?_)
    refine lv_aload_n hx hb dL_law_990 rfl (lv_at hl 5 rfl) ?_
    refine kx_retP (va_runV (As := []) (rest := []) ⟨hx, hb, hml, hown, hts⟩ (k_X8_thrown l D cs (L + 360) (upd z 4403 (nI 1))) (cwV 0 hts gL_law_X8_thrown rfl rfl rfl (by decide +kernel) ⟨Nat.le_of_ble_eq_true rfl, Nat.le_of_ble_eq_true rfl⟩) (kx_preV hK hN hMd.1 rfl hMd) rfl rfl hl.1 rfl (lv_room (Nat.le_of_ble_eq_true rfl)) dL_law_991 ⟨hr1.1, hr1.2⟩) ?_
    refine kx_ci (y := nI 1) (th_thr _) ?_
    refine lv_iload hx hb dL_law_994 (lv_at hl 1 rfl) ?_
    refine lv_icmp_eq (tgt := 1001) hx hb dL_law_996 (by decide) (fun _ => ?_) (fun h9 => absurd rfl h9)
    refine lv_iload hx hb dL_law_1001 (lv_at hl 1 rfl) ?_
    refine lv_if_ne (tgt := 1018) hx hb dL_law_1003 (by decide) (fun _ => ?_) (fun h9 => absurd h9 (by decide))
    refine lv_goto (tgt := 1607) hx hb dL_law_1018 (by decide) ?_
    exact K _ _ _ _ _ ⟨upd z 4403 (nI 1), _, _, _, _, _, _, _, _, _, _, k9, _, _, _, _, hHr, hOu, hMd, hRA.thr _, hk8, hsz⟩ hS (Nat.le_refl _) (Nat.le_refl _) (lv_sub hl [2, 3, 4, 5, 6] rfl)
  · obtain ⟨r, hrR, rfl, hwe⟩ := hw_2 hEI.2 hw
    refine lv_aload_n hx hb dL_law_953 rfl (lv_at hl 2 rfl) ?_
    refine lv_aload_n hx hb dL_law_954 rfl (lv_at hl 1 rfl) ?_
    refine lv_iload hx hb dL_law_955 (lv_at hl 0 rfl) ?_
    refine lv_iconst (v := nI 1) hx hb dL_law_957 (by decide) ?_
    refine kn_add hx hb dL_law_958 ?_
    refine kx_sld (v := nI r) hx hb hXs hbl hbA hS (by omega) hN9 hq1 dL_law_959 ?_
    refine lv_aload_n hx hb dL_law_960 rfl (lv_at hl 1 rfl) ?_
    refine lv_iload hx hb dL_law_961 (lv_at hl 0 rfl) ?_
    refine lv_iconst (v := nI 2) hx hb dL_law_963 (by decide) ?_
    refine kn_add hx hb dL_law_964 ?_
    refine kx_sld (v := q2) hx hb hXs hbl hbA hS (by omega) hN9 hq2 dL_law_965 ?_
    refine lv_aload_n hx hb dL_law_966 rfl (lv_at hl 4 rfl) ?_
    refine kx_retN (vx_runSW (As := [.ref L, .int (nI r), .int q2, .ref (L + 367)]) (rest := []) ⟨hx, hb, hml, hown, hts⟩ (k_L_hostageT2 l D cs L e g e1 g1 nx cn se sg bt nn9 (aW k9) ln pa ft r q2 hI (by omega) hwe (L + 367) f (by omega) L (Nat.le_refl L) hfl) (vx_cwSW 4 hts gL_law_L_hostage rfl rfl rfl (by decide +kernel) ⟨Nat.le_of_ble_eq_true rfl, Nat.le_of_ble_eq_true rfl⟩) (kx_preY hK hN hXK hXN ⟨hHr, hOu⟩) rfl rfl hl.1 rfl (lv_room (Nat.le_of_ble_eq_true rfl)) dL_law_967 hr1) hS (fun q _ h => rg_lo h) (fun q h => rg_lo h) (fun H locs hP hk hS => ?_)
    obtain ⟨hHr, hOu⟩ := hP
    have hHr : HrC D cs L e g e1 g1 nx cn se sg bt nn9 (aW k9) ln pa ft H := hHr
    have hMd := hMd.frame hk (fun q h1 h2 h => by rcases h with h | h <;> omega)
    have hsz : L + 368 ≤ H.size := Nat.le_trans hsz hk.1
    clear hk hXK hKW
    refine lv_istore (lv' := [(5, .int (nI 2)), (4, .int (nI i)), (0, .ref bs), (1, .ref L), (2, .ref (L + 360)), (3, .ref (L + 367))]) hx hb dL_law_970 hl (by decide) rfl (fun ls hl => ?_)
    refine lv_aload_n hx hb dL_law_972 rfl (lv_at hl 4 rfl) ?_
    refine lv_aload_n hx hb dL_law_973 rfl (lv_at hl 2 rfl) ?_
    refine lv_iload hx hb dL_law_974 (lv_at hl 1 rfl) ?_
    refine lv_iconst (v := nI 1) hx hb dL_law_976 (by decide) ?_
    refine kn_add hx hb dL_law_977 ?_
    refine kx_sld (v := nI r) hx hb hXs hbl hbA hS (by omega) hN9 hq1 dL_law_978 ?_
    refine lv_aload_n hx hb dL_law_979 rfl (lv_at hl 2 rfl) ?_
    refine lv_iload hx hb dL_law_980 (lv_at hl 1 rfl) ?_
    refine lv_iconst (v := nI 2) hx hb dL_law_982 (by decide) ?_
    refine kn_add hx hb dL_law_983 ?_
    refine kx_sld (v := q2) hx hb hXs hbl hbA hS (by omega) hN9 hq2 dL_law_984 ?_
    refine kx_retM (va_runV (As := [.int (nI r), .int q2]) (rest := []) ⟨hx, hb, hml, hown, hts⟩ (k_X8_hostage l D cs (L + 360) z (nI r) q2 hZ) (cwV 2 hts gL_law_X8_hostage rfl rfl rfl (by decide +kernel) ⟨Nat.le_of_ble_eq_true rfl, Nat.le_of_ble_eq_true rfl⟩) (kx_preV hK hN hMd.1 rfl hMd) rfl rfl hl.1 rfl (lv_room (Nat.le_of_ble_eq_true rfl)) dL_law_985 ⟨hr1.1, hr1.2⟩) hS (fun q _ h => by have h3 := h.1; show L ≤ q; omega) (fun q h => by have h3 := h.1; show L ≤ q; omega) (fun H locs hP hk hS => ?_)
    have hHr := hHr.keepR (H1 := H) (fun q h1 h2 => hk.2 q (by omega) (fun h => by have h3 := h.1; have h4 := h.2; omega))
    have hOu := hOu.kept (hk.2 _ hOu.lt (fun h => by have h3 := h.1; have h4 := h.2; omega))
    have hsz : L + 368 ≤ H.size := Nat.le_trans hsz hk.1
    clear hk
    have hMd : MdC D (cs 0) (L + 360) (upd z 4403 (nI 2)) H := (by have q9 := hP; rw [hw] at q9; exact q9)
    refine kx_ci (y := nI 0) (if_neg (by rw [hw]; decide)) ?_
    refine lv_istore (lv' := [(6, .int (nI 0)), (5, .int (nI 2)), (4, .int (nI i)), (0, .ref bs), (1, .ref L), (2, .ref (L + 360)), (3, .ref (L + 367))]) hx hb dL_law_988 hl (by decide) rfl (fun ls hl => ?_)
    refine lv_aload_n hx hb dL_law_990 rfl (lv_at hl 5 rfl) ?_
    refine kx_retP (va_runV (As := []) (rest := []) ⟨hx, hb, hml, hown, hts⟩ (k_X8_thrown l D cs (L + 360) (upd z 4403 (nI 2))) (cwV 0 hts gL_law_X8_thrown rfl rfl rfl (by decide +kernel) ⟨Nat.le_of_ble_eq_true rfl, Nat.le_of_ble_eq_true rfl⟩) (kx_preV hK hN hMd.1 rfl hMd) rfl rfl hl.1 rfl (lv_room (Nat.le_of_ble_eq_true rfl)) dL_law_991 ⟨hr1.1, hr1.2⟩) ?_
    refine kx_ci (y := nI 2) (th_thr _) ?_
    refine lv_iload hx hb dL_law_994 (lv_at hl 1 rfl) ?_
    refine lv_icmp_eq (tgt := 1001) hx hb dL_law_996 (by decide) (fun _ => ?_) (fun h9 => absurd rfl h9)
    refine lv_iload hx hb dL_law_1001 (lv_at hl 1 rfl) ?_
    refine lv_if_ne (tgt := 1018) hx hb dL_law_1003 (by decide) (fun _ => ?_) (fun h9 => absurd h9 (by decide))
    refine lv_goto (tgt := 1607) hx hb dL_law_1018 (by decide) ?_
    exact K _ _ _ _ _ ⟨upd z 4403 (nI 2), _, _, _, _, _, _, _, _, _, _, k9, _, _, _, _, hHr, hOu, hMd, hRA.thr _, hk8, hsz⟩ hS (Nat.le_refl _) (Nat.le_refl _) (lv_sub hl [2, 3, 4, 5, 6] rfl)
set_option maxHeartbeats 2500000 in
set_option maxRecDepth 100000 in
theorem cs_cellSet {p : Program} {l : Launch} {en : Env} {s : State} {m : MethodId} {below : List Frame} {meth : Method} {c : Code} {D : va_G} {cs : Nat → ClassId} {L : Nat} {aW aS aV : Nat → Nat} {tW tM bs N : Nat} {xs : Nat → Int32} {Q : State → Prop} (G : LwG p l s m c D cs L aW aS aV tW tM bs N xs) {i : Nat} (hi : i + 6 ≤ N) {H : Heap} {locs : List Loc} {cells slots : Nat} (hr : cells + 1 ≤ 601024 ∧ slots + 6 ≤ 7293034) (W0 : LwD D cs L aW H) (hS : va_S (fun q : Nat => L ≤ q) s.heap H locs) {ls : Array Slot} (hl : lv_has ls 8 [(4, .int (nI i)), (0, .ref bs), (1, .ref L), (2, .ref (L + 360)), (3, .ref (L + 367))])
  (K : ∀ (H : Heap) (locs : List Loc) (c1 s1 : Nat) (ls : Array Slot), LwD D cs L aW H → va_S (fun q : Nat => L ≤ q) s.heap H locs → c1 ≤ cells + 1 → s1 ≤ slots + 6 → lv_has ls 8 [(4, .int (nI i)), (0, .ref bs), (1, .ref L), (2, .ref (L + 360)), (3, .ref (L + 367))] → W p l en room_1 s m #[Value.ref bs] below meth c H locs c1 s1 Q (F0 m 1607 ls [])) :
  W p l en room_1 s m #[Value.ref bs] below meth c H locs cells slots Q (F0 m 1021 ls []) := by
  obtain ⟨hx, hb, hml, hown, hts, hK, hN, hKW0, hXK0, hXN, hXs, hbl, hLs, hN9, hfl⟩ := G
  obtain ⟨z, e, g, e1, g1, nx, cn, se, sg, bt, nn9, k9, ln, pa, ft, f, hHr, hOu, hMd, hRA, hk8, hsz⟩ := W0
  have hbA : ¬ (fun q : Nat => L ≤ q) bs := by show ¬ L ≤ bs; omega
  have hr0 : cells + 0 ≤ room_1.cells ∧ slots + 0 ≤ room_1.slots := ⟨by show cells + 0 ≤ 601024; omega, by show slots + 0 ≤ 7293034; omega⟩
  have hr1 : cells + 1 ≤ room_1.cells ∧ slots + 6 ≤ room_1.slots := hr
  have hI := ev_R hRA.1
  have hG := hRA.2.1
  have hnx := hRA.2.2.1.1.2.1
  have hcn := hRA.2.2.1.1.2.2
  have hZ := hRA.invZ
  have hl150 := hRA.2.2.2.2.1
  have hsv0 := ra_sv hRA
  have hEI := hRA.1
  have hRR := EI.R hRA.1
  have hMM := EI.M hRA.1
  have hTl := hRA.tl
  have hSv := hRA.sv
  have h24 := hI.M24
  have h6 := hI.R6
  have hXK := hXK0.kept (H1 := H) (fun a h1 h2 => hS.2.1 a h1 h2)
  have hKW := hKW0.kept (H1 := H) (fun a h1 h2 => hS.2.1 a h1 h2)
  obtain ⟨q1, hq1⟩ : ∃ q : Int32, q = xs (i + 1) := ⟨_, rfl⟩
  obtain ⟨q2, hq2⟩ : ∃ q : Int32, q = xs (i + 2) := ⟨_, rfl⟩
  rcases (show ∃ y : Bool, (y = true ↔ ¬ q2 = 0) by exact ⟨!decide (q2 = 0), by simp⟩) with ⟨y, hy⟩
  rcases mw_c (z := z) (x := q1) with hw | hw
  · obtain ⟨r, hrR, rfl⟩ := mw_0 hEI.2 hw
    refine lv_aload_n hx hb dL_law_1021 rfl (lv_at hl 2 rfl) ?_
    refine lv_aload_n hx hb dL_law_1022 rfl (lv_at hl 1 rfl) ?_
    refine lv_iload hx hb dL_law_1023 (lv_at hl 0 rfl) ?_
    refine lv_iconst (v := nI 1) hx hb dL_law_1025 (by decide) ?_
    refine kn_add hx hb dL_law_1026 ?_
    refine kx_sld (v := nI r) hx hb hXs hbl hbA hS (by omega) hN9 hq1 dL_law_1027 ?_
    refine lv_aload_n hx hb dL_law_1028 rfl (lv_at hl 1 rfl) ?_
    refine lv_iload hx hb dL_law_1029 (lv_at hl 0 rfl) ?_
    refine lv_iconst (v := nI 2) hx hb dL_law_1031 (by decide) ?_
    refine kn_add hx hb dL_law_1032 ?_
    refine kx_sld hx hb hXs hbl hbA hS (by omega) hN9 hq2 dL_law_1033 ?_
    have hJ : W p l en room_1 s m #[Value.ref bs] below meth c H locs cells slots Q (F0 m 1042 ls (.int (bI y) :: [.int (nI r), .ref L])) → W p l en room_1 s m #[Value.ref bs] below meth c H locs cells slots Q (F0 m 1034 ls (.int q2 :: [.int (nI r), .ref L])) := fun kk => by
      refine lv_if_eq (tgt := 1041) hx hb dL_law_1034 (by decide) (fun h9 => ?_) (fun h9 => ?_)
      · have hy0 : y = false := by cases y with
          | false => rfl
          | true => exact absurd h9 (hy.mp rfl)
        refine lv_iconst (v := nI 0) hx hb dL_law_1041 (by decide) ?_
        rw [hy0] at kk; exact kk
      · have hy1 : y = true := hy.mpr h9
        refine lv_iconst (v := nI 1) hx hb dL_law_1037 (by decide) ?_
        refine lv_goto (tgt := 1042) hx hb dL_law_1038 (by decide) ?_
        rw [hy1] at kk; exact kk
    refine hJ ?_
    clear hJ
    refine lv_aload_n hx hb dL_law_1042 rfl (lv_at hl 4 rfl) ?_
    refine kx_retM (vx_runSW (As := [.ref L, .int (nI r), .int (bI y), .ref (L + 367)]) (rest := []) ⟨hx, hb, hml, hown, hts⟩ (k_L_cellSet l D cs L e g e1 g1 nx cn se sg bt nn9 (aW k9) ln pa ft r y hI hG (by omega) (L + 367) f (by omega) L (Nat.le_refl L) hfl) (vx_cwSW 4 hts gL_law_L_cellSet rfl rfl rfl (by decide +kernel) ⟨Nat.le_of_ble_eq_true rfl, Nat.le_of_ble_eq_true rfl⟩) (kx_preY hK hN hXK hXN ⟨hHr, hOu⟩) rfl rfl hl.1 rfl (lv_room (Nat.le_of_ble_eq_true rfl)) dL_law_1043 hr0) hS (fun q _ h => rg_lo h) (fun q h => rg_lo h) (fun H locs hP hk hS => ?_)
    obtain ⟨hHr, hOu⟩ := hP
    have hHr : HrC D cs L e g e1 g1 nx cn se sg bt nn9 (aW k9) ln pa ft H := hHr
    have hMd := hMd.frame hk (fun q h1 h2 h => by rcases h with h | h <;> omega)
    have hsz : L + 368 ≤ H.size := Nat.le_trans hsz hk.1
    clear hk hXK hKW
    refine lv_istore (lv' := [(5, .int (nI 0)), (4, .int (nI i)), (0, .ref bs), (1, .ref L), (2, .ref (L + 360)), (3, .ref (L + 367))]) hx hb dL_law_1046 hl (by decide) rfl (fun ls hl => ?_)
    refine lv_aload_n hx hb dL_law_1048 rfl (lv_at hl 4 rfl) ?_
    refine lv_aload_n hx hb dL_law_1049 rfl (lv_at hl 2 rfl) ?_
    refine lv_iload hx hb dL_law_1050 (lv_at hl 1 rfl) ?_
    refine lv_iconst (v := nI 1) hx hb dL_law_1052 (by decide) ?_
    refine kn_add hx hb dL_law_1053 ?_
    refine kx_sld (v := nI r) hx hb hXs hbl hbA hS (by omega) hN9 hq1 dL_law_1054 ?_
    refine lv_aload_n hx hb dL_law_1055 rfl (lv_at hl 2 rfl) ?_
    refine lv_iload hx hb dL_law_1056 (lv_at hl 1 rfl) ?_
    refine lv_iconst (v := nI 2) hx hb dL_law_1058 (by decide) ?_
    refine kn_add hx hb dL_law_1059 ?_
    refine kx_sld hx hb hXs hbl hbA hS (by omega) hN9 hq2 dL_law_1060 ?_
    have hJ : W p l en room_1 s m #[Value.ref bs] below meth c H locs cells slots Q (F0 m 1069 ls (.int (bI y) :: [.int (nI r), .ref (L + 360)])) → W p l en room_1 s m #[Value.ref bs] below meth c H locs cells slots Q (F0 m 1061 ls (.int q2 :: [.int (nI r), .ref (L + 360)])) := fun kk => by
      refine lv_if_eq (tgt := 1068) hx hb dL_law_1061 (by decide) (fun h9 => ?_) (fun h9 => ?_)
      · have hy0 : y = false := by cases y with
          | false => rfl
          | true => exact absurd h9 (hy.mp rfl)
        refine lv_iconst (v := nI 0) hx hb dL_law_1068 (by decide) ?_
        rw [hy0] at kk; exact kk
      · have hy1 : y = true := hy.mpr h9
        refine lv_iconst (v := nI 1) hx hb dL_law_1064 (by decide) ?_
        refine lv_goto (tgt := 1069) hx hb dL_law_1065 (by decide) ?_
        rw [hy1] at kk; exact kk
    refine hJ ?_
    clear hJ
    refine kx_retM (va_runV (As := [.int (nI r), .int (bI y)]) (rest := []) ⟨hx, hb, hml, hown, hts⟩ (k_X8_cellSet l D cs (L + 360) z (nI r) y hZ) (cwV 2 hts gL_law_X8_cellSet rfl rfl rfl (by decide +kernel) ⟨Nat.le_of_ble_eq_true rfl, Nat.le_of_ble_eq_true rfl⟩) (kx_preV hK hN hMd.1 rfl hMd) rfl rfl hl.1 rfl (lv_room (Nat.le_of_ble_eq_true rfl)) dL_law_1069 hr0) hS (fun q _ h => by have h3 := h.1; show L ≤ q; omega) (fun q h => by have h3 := h.1; show L ≤ q; omega) (fun H locs hP hk hS => ?_)
    have hHr := hHr.keepR (H1 := H) (fun q h1 h2 => hk.2 q (by omega) (fun h => by have h3 := h.1; have h4 := h.2; omega))
    have hOu := hOu.kept (hk.2 _ hOu.lt (fun h => by have h3 := h.1; have h4 := h.2; omega))
    have hsz : L + 368 ≤ H.size := Nat.le_trans hsz hk.1
    clear hk
    have hMd : MdC D (cs 0) (L + 360) (upd z 4403 (nI 0)) H := (by have q9 := hP; rw [hw] at q9; exact q9)
    refine kx_cl (y := lN (csN e y r)) (by rw [if_pos hw, nn_nI (by omega), hRA.cs hrR]) ?_
    refine lv_lstore (lv' := [(6, .long (lN (csN e y r))), (5, .int (nI 0)), (4, .int (nI i)), (0, .ref bs), (1, .ref L), (2, .ref (L + 360)), (3, .ref (L + 367))]) hx hb dL_law_1072 hl (by decide) rfl (fun ls hl => ?_)
    refine lv_aload_n hx hb dL_law_1074 rfl (lv_at hl 5 rfl) ?_
    refine kx_retP (va_runV (As := []) (rest := []) ⟨hx, hb, hml, hown, hts⟩ (k_X8_thrown l D cs (L + 360) (upd z 4403 (nI 0))) (cwV 0 hts gL_law_X8_thrown rfl rfl rfl (by decide +kernel) ⟨Nat.le_of_ble_eq_true rfl, Nat.le_of_ble_eq_true rfl⟩) (kx_preV hK hN hMd.1 rfl hMd) rfl rfl hl.1 rfl (lv_room (Nat.le_of_ble_eq_true rfl)) dL_law_1075 hr0) ?_
    refine kx_ci (y := nI 0) (th_thr _) ?_
    refine lv_iload hx hb dL_law_1078 (lv_at hl 1 rfl) ?_
    refine lv_icmp_eq (tgt := 1085) hx hb dL_law_1080 (by decide) (fun _ => ?_) (fun h9 => absurd rfl h9)
    refine lv_iload hx hb dL_law_1085 (lv_at hl 1 rfl) ?_
    refine lv_if_ne (tgt := 1101) hx hb dL_law_1087 (by decide) (fun h9 => absurd (show nI 0 = 0 by decide) h9) (fun _ => ?_)
    refine lv_aload_n hx hb dL_law_1090 rfl (lv_at hl 6 rfl) ?_
    refine lv_iconst (v := nI 0) hx hb dL_law_1091 (by decide) ?_
    refine kx_lald hx hb hK hOu 5 rfl (i := 0) (by decide) (by decide) dL_law_1092 ?_
    refine kx_cl (y := lN (csN e y r)) (vp_upd0 _ _) ?_
    refine lv_lload hx hb dL_law_1093 (lv_at hl 0 rfl) ?_
    refine W.lcmp hx hb dL_law_1095 ?_
    refine kl_if_eq (tgt := 1101) hx hb dL_law_1096 (by decide) (fun _ => ?_) (fun h9 => absurd rfl h9)
    refine lv_goto (tgt := 1607) hx hb dL_law_1101 (by decide) ?_
    exact K _ _ _ _ _ ⟨upd z 4403 (nI 0), _, _, _, _, _, _, _, _, _, _, k9, _, _, _, _, hHr, hOu, hMd, hRA.thr _, hk8, hsz⟩ hS (Nat.le_add_right _ _) (Nat.le_add_right _ _) (lv_sub hl [2, 3, 4, 5, 6] rfl)
  · have hwe := mw_1 hw
    refine lv_aload_n hx hb dL_law_1021 rfl (lv_at hl 2 rfl) ?_
    refine lv_aload_n hx hb dL_law_1022 rfl (lv_at hl 1 rfl) ?_
    refine lv_iload hx hb dL_law_1023 (lv_at hl 0 rfl) ?_
    refine lv_iconst (v := nI 1) hx hb dL_law_1025 (by decide) ?_
    refine kn_add hx hb dL_law_1026 ?_
    refine kx_sld (v := q1) hx hb hXs hbl hbA hS (by omega) hN9 hq1 dL_law_1027 ?_
    refine lv_aload_n hx hb dL_law_1028 rfl (lv_at hl 1 rfl) ?_
    refine lv_iload hx hb dL_law_1029 (lv_at hl 0 rfl) ?_
    refine lv_iconst (v := nI 2) hx hb dL_law_1031 (by decide) ?_
    refine kn_add hx hb dL_law_1032 ?_
    refine kx_sld hx hb hXs hbl hbA hS (by omega) hN9 hq2 dL_law_1033 ?_
    have hJ : W p l en room_1 s m #[Value.ref bs] below meth c H locs cells slots Q (F0 m 1042 ls (.int (bI y) :: [.int q1, .ref L])) → W p l en room_1 s m #[Value.ref bs] below meth c H locs cells slots Q (F0 m 1034 ls (.int q2 :: [.int q1, .ref L])) := fun kk => by
      refine lv_if_eq (tgt := 1041) hx hb dL_law_1034 (by decide) (fun h9 => ?_) (fun h9 => ?_)
      · have hy0 : y = false := by cases y with
          | false => rfl
          | true => exact absurd h9 (hy.mp rfl)
        refine lv_iconst (v := nI 0) hx hb dL_law_1041 (by decide) ?_
        rw [hy0] at kk; exact kk
      · have hy1 : y = true := hy.mpr h9
        refine lv_iconst (v := nI 1) hx hb dL_law_1037 (by decide) ?_
        refine lv_goto (tgt := 1042) hx hb dL_law_1038 (by decide) ?_
        rw [hy1] at kk; exact kk
    refine hJ ?_
    clear hJ
    refine lv_aload_n hx hb dL_law_1042 rfl (lv_at hl 4 rfl) ?_
    refine kx_retN (vx_runSW (As := [.ref L, .int q1, .int (bI y), .ref (L + 367)]) (rest := []) ⟨hx, hb, hml, hown, hts⟩ (k_L_cellSetT1 l D cs L e g e1 g1 nx cn se sg bt nn9 (aW k9) ln pa ft q1 y hI (by rw [hMM]; exact hwe) (L + 367) f (by omega) L (Nat.le_refl L) hfl) (vx_cwSW 4 hts gL_law_L_cellSet rfl rfl rfl (by decide +kernel) ⟨Nat.le_of_ble_eq_true rfl, Nat.le_of_ble_eq_true rfl⟩) (kx_preY hK hN hXK hXN ⟨hHr, hOu⟩) rfl rfl hl.1 rfl (lv_room (Nat.le_of_ble_eq_true rfl)) dL_law_1043 hr1) hS (fun q _ h => rg_lo h) (fun q h => rg_lo h) (fun H locs hP hk hS => ?_)
    obtain ⟨hHr, hOu⟩ := hP
    have hHr : HrC D cs L e g e1 g1 nx cn se sg bt nn9 (aW k9) ln pa ft H := hHr
    have hMd := hMd.frame hk (fun q h1 h2 h => by rcases h with h | h <;> omega)
    have hsz : L + 368 ≤ H.size := Nat.le_trans hsz hk.1
    clear hk hXK hKW
    refine lv_istore (lv' := [(5, .int (nI 1)), (4, .int (nI i)), (0, .ref bs), (1, .ref L), (2, .ref (L + 360)), (3, .ref (L + 367))]) hx hb dL_law_1046 hl (by decide) rfl (fun ls hl => ?_)
    refine lv_aload_n hx hb dL_law_1048 rfl (lv_at hl 4 rfl) ?_
    refine lv_aload_n hx hb dL_law_1049 rfl (lv_at hl 2 rfl) ?_
    refine lv_iload hx hb dL_law_1050 (lv_at hl 1 rfl) ?_
    refine lv_iconst (v := nI 1) hx hb dL_law_1052 (by decide) ?_
    refine kn_add hx hb dL_law_1053 ?_
    refine kx_sld (v := q1) hx hb hXs hbl hbA hS (by omega) hN9 hq1 dL_law_1054 ?_
    refine lv_aload_n hx hb dL_law_1055 rfl (lv_at hl 2 rfl) ?_
    refine lv_iload hx hb dL_law_1056 (lv_at hl 1 rfl) ?_
    refine lv_iconst (v := nI 2) hx hb dL_law_1058 (by decide) ?_
    refine kn_add hx hb dL_law_1059 ?_
    refine kx_sld hx hb hXs hbl hbA hS (by omega) hN9 hq2 dL_law_1060 ?_
    have hJ : W p l en room_1 s m #[Value.ref bs] below meth c H locs (cells + 1) (slots + 6) Q (F0 m 1069 ls (.int (bI y) :: [.int q1, .ref (L + 360)])) → W p l en room_1 s m #[Value.ref bs] below meth c H locs (cells + 1) (slots + 6) Q (F0 m 1061 ls (.int q2 :: [.int q1, .ref (L + 360)])) := fun kk => by
      refine lv_if_eq (tgt := 1068) hx hb dL_law_1061 (by decide) (fun h9 => ?_) (fun h9 => ?_)
      · have hy0 : y = false := by cases y with
          | false => rfl
          | true => exact absurd h9 (hy.mp rfl)
        refine lv_iconst (v := nI 0) hx hb dL_law_1068 (by decide) ?_
        rw [hy0] at kk; exact kk
      · have hy1 : y = true := hy.mpr h9
        refine lv_iconst (v := nI 1) hx hb dL_law_1064 (by decide) ?_
        refine lv_goto (tgt := 1069) hx hb dL_law_1065 (by decide) ?_
        rw [hy1] at kk; exact kk
    refine hJ ?_
    clear hJ
    refine kx_retM (va_runV (As := [.int q1, .int (bI y)]) (rest := []) ⟨hx, hb, hml, hown, hts⟩ (k_X8_cellSet l D cs (L + 360) z q1 y hZ) (cwV 2 hts gL_law_X8_cellSet rfl rfl rfl (by decide +kernel) ⟨Nat.le_of_ble_eq_true rfl, Nat.le_of_ble_eq_true rfl⟩) (kx_preV hK hN hMd.1 rfl hMd) rfl rfl hl.1 rfl (lv_room (Nat.le_of_ble_eq_true rfl)) dL_law_1069 ⟨hr1.1, hr1.2⟩) hS (fun q _ h => by have h3 := h.1; show L ≤ q; omega) (fun q h => by have h3 := h.1; show L ≤ q; omega) (fun H locs hP hk hS => ?_)
    have hHr := hHr.keepR (H1 := H) (fun q h1 h2 => hk.2 q (by omega) (fun h => by have h3 := h.1; have h4 := h.2; omega))
    have hOu := hOu.kept (hk.2 _ hOu.lt (fun h => by have h3 := h.1; have h4 := h.2; omega))
    have hsz : L + 368 ≤ H.size := Nat.le_trans hsz hk.1
    clear hk
    have hMd : MdC D (cs 0) (L + 360) (upd z 4403 (nI 1)) H := (by have q9 := hP; rw [hw] at q9; exact q9)
    refine kx_cl (y := lN 0) (if_neg (by rw [hw]; decide)) ?_
    refine lv_lstore (lv' := [(6, .long (lN 0)), (5, .int (nI 1)), (4, .int (nI i)), (0, .ref bs), (1, .ref L), (2, .ref (L + 360)), (3, .ref (L + 367))]) hx hb dL_law_1072 hl (by decide) rfl (fun ls hl => ?_)
    refine lv_aload_n hx hb dL_law_1074 rfl (lv_at hl 5 rfl) ?_
    refine kx_retP (va_runV (As := []) (rest := []) ⟨hx, hb, hml, hown, hts⟩ (k_X8_thrown l D cs (L + 360) (upd z 4403 (nI 1))) (cwV 0 hts gL_law_X8_thrown rfl rfl rfl (by decide +kernel) ⟨Nat.le_of_ble_eq_true rfl, Nat.le_of_ble_eq_true rfl⟩) (kx_preV hK hN hMd.1 rfl hMd) rfl rfl hl.1 rfl (lv_room (Nat.le_of_ble_eq_true rfl)) dL_law_1075 ⟨hr1.1, hr1.2⟩) ?_
    refine kx_ci (y := nI 1) (th_thr _) ?_
    refine lv_iload hx hb dL_law_1078 (lv_at hl 1 rfl) ?_
    refine lv_icmp_eq (tgt := 1085) hx hb dL_law_1080 (by decide) (fun _ => ?_) (fun h9 => absurd rfl h9)
    refine lv_iload hx hb dL_law_1085 (lv_at hl 1 rfl) ?_
    refine lv_if_ne (tgt := 1101) hx hb dL_law_1087 (by decide) (fun _ => ?_) (fun h9 => absurd h9 (by decide))
    refine lv_goto (tgt := 1607) hx hb dL_law_1101 (by decide) ?_
    exact K _ _ _ _ _ ⟨upd z 4403 (nI 1), _, _, _, _, _, _, _, _, _, _, k9, _, _, _, _, hHr, hOu, hMd, hRA.thr _, hk8, hsz⟩ hS (Nat.le_refl _) (Nat.le_refl _) (lv_sub hl [2, 3, 4, 5, 6] rfl)
set_option maxHeartbeats 2500000 in
set_option maxRecDepth 100000 in
theorem cs_held {p : Program} {l : Launch} {en : Env} {s : State} {m : MethodId} {below : List Frame} {meth : Method} {c : Code} {D : va_G} {cs : Nat → ClassId} {L : Nat} {aW aS aV : Nat → Nat} {tW tM bs N : Nat} {xs : Nat → Int32} {Q : State → Prop} (G : LwG p l s m c D cs L aW aS aV tW tM bs N xs) {i : Nat} (hi : i + 6 ≤ N) {H : Heap} {locs : List Loc} {cells slots : Nat} (hr : cells + 1 ≤ 601024 ∧ slots + 6 ≤ 7293034) (W0 : LwD D cs L aW H) (hS : va_S (fun q : Nat => L ≤ q) s.heap H locs) {ls : Array Slot} (hl : lv_has ls 8 [(4, .int (nI i)), (0, .ref bs), (1, .ref L), (2, .ref (L + 360)), (3, .ref (L + 367))])
  (K : ∀ (H : Heap) (locs : List Loc) (c1 s1 : Nat) (ls : Array Slot), LwD D cs L aW H → va_S (fun q : Nat => L ≤ q) s.heap H locs → c1 ≤ cells + 1 → s1 ≤ slots + 6 → lv_has ls 8 [(4, .int (nI i)), (0, .ref bs), (1, .ref L), (2, .ref (L + 360)), (3, .ref (L + 367))] → W p l en room_1 s m #[Value.ref bs] below meth c H locs c1 s1 Q (F0 m 1607 ls [])) :
  W p l en room_1 s m #[Value.ref bs] below meth c H locs cells slots Q (F0 m 1104 ls []) := by
  obtain ⟨hx, hb, hml, hown, hts, hK, hN, hKW0, hXK0, hXN, hXs, hbl, hLs, hN9, hfl⟩ := G
  obtain ⟨z, e, g, e1, g1, nx, cn, se, sg, bt, nn9, k9, ln, pa, ft, f, hHr, hOu, hMd, hRA, hk8, hsz⟩ := W0
  have hbA : ¬ (fun q : Nat => L ≤ q) bs := by show ¬ L ≤ bs; omega
  have hr0 : cells + 0 ≤ room_1.cells ∧ slots + 0 ≤ room_1.slots := ⟨by show cells + 0 ≤ 601024; omega, by show slots + 0 ≤ 7293034; omega⟩
  have hr1 : cells + 1 ≤ room_1.cells ∧ slots + 6 ≤ room_1.slots := hr
  have hI := ev_R hRA.1
  have hG := hRA.2.1
  have hnx := hRA.2.2.1.1.2.1
  have hcn := hRA.2.2.1.1.2.2
  have hZ := hRA.invZ
  have hl150 := hRA.2.2.2.2.1
  have hsv0 := ra_sv hRA
  have hEI := hRA.1
  have hRR := EI.R hRA.1
  have hMM := EI.M hRA.1
  have hTl := hRA.tl
  have hSv := hRA.sv
  have h24 := hI.M24
  have h6 := hI.R6
  have hXK := hXK0.kept (H1 := H) (fun a h1 h2 => hS.2.1 a h1 h2)
  have hKW := hKW0.kept (H1 := H) (fun a h1 h2 => hS.2.1 a h1 h2)
  refine lv_aload_n hx hb dL_law_1104 rfl (lv_at hl 2 rfl) ?_
  refine kx_retP (va_runV (As := []) (rest := []) ⟨hx, hb, hml, hown, hts⟩ (k_X7_held l D cs L e g e1 g1 nx cn se sg bt nn9 (aW k9) ln pa ft hI hG) (cwV 0 hts gL_law_X7_held rfl rfl rfl (by decide +kernel) ⟨Nat.le_of_ble_eq_true rfl, Nat.le_of_ble_eq_true rfl⟩) (kx_preV hK hN hHr.1 rfl hHr) rfl rfl hl.1 rfl (lv_room (Nat.le_of_ble_eq_true rfl)) dL_law_1105 hr0) ?_
  refine lv_aload_n hx hb dL_law_1108 rfl (lv_at hl 3 rfl) ?_
  refine kx_retM (va_runV (As := []) (rest := [.long (lN (hdN e))]) ⟨hx, hb, hml, hown, hts⟩ (k_X8_held l D cs (L + 360) z hZ) (cwV 0 hts gL_law_X8_held rfl rfl rfl (by decide +kernel) ⟨Nat.le_of_ble_eq_true rfl, Nat.le_of_ble_eq_true rfl⟩) (kx_preV hK hN hMd.1 rfl hMd) rfl rfl hl.1 rfl (lv_room (Nat.le_of_ble_eq_true rfl)) dL_law_1109 hr0) hS (fun q _ h => by have h3 := h.1; show L ≤ q; omega) (fun q h => by have h3 := h.1; show L ≤ q; omega) (fun H locs hP hk hS => ?_)
  have hHr := hHr.keepR (H1 := H) (fun q h1 h2 => hk.2 q (by omega) (fun h => by have h3 := h.1; have h4 := h.2; omega))
  have hOu := hOu.kept (hk.2 _ hOu.lt (fun h => by have h3 := h.1; have h4 := h.2; omega))
  have hsz : L + 368 ≤ H.size := Nat.le_trans hsz hk.1
  clear hk
  have hMd : MdC D (cs 0) (L + 360) (t0 z) H := hP
  refine kx_cl (y := lN (hdN e)) (by rw [hRA.hd]) ?_
  refine W.lcmp hx hb dL_law_1112 ?_
  refine kl_if_eq (tgt := 1607) hx hb dL_law_1113 (by decide) (fun _ => ?_) (fun h9 => absurd rfl h9)
  exact K _ _ _ _ _ ⟨t0 z, _, _, _, _, _, _, _, _, _, _, k9, _, _, _, _, hHr, hOu, hMd, ra_t0 hRA, hk8, hsz⟩ hS (Nat.le_add_right _ _) (Nat.le_add_right _ _) (lv_sub hl [0, 1, 2, 3, 4] rfl)
