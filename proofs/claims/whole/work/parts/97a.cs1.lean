/-! the law's calls, kinds 0 to 3 -/
theorem rg_lo {L q : Nat} (h : (L ≤ q ∧ q < L + 360) ∨ q = L + 367) : L ≤ q := by omega
set_option maxHeartbeats 2500000 in
set_option maxRecDepth 100000 in
theorem cs_addRing {p : Program} {l : Launch} {en : Env} {s : State} {m : MethodId} {below : List Frame} {meth : Method} {c : Code} {D : va_G} {cs : Nat → ClassId} {L : Nat} {aW aS aV : Nat → Nat} {tW tM bs N : Nat} {xs : Nat → Int32} {Q : State → Prop} (G : LwG p l s m c D cs L aW aS aV tW tM bs N xs) {i : Nat} (hi : i + 6 ≤ N) {H : Heap} {locs : List Loc} {cells slots : Nat} (hr : cells + 1 ≤ 601024 ∧ slots + 6 ≤ 7293034) (W0 : LwD D cs L aW H) (hS : va_S (fun q : Nat => L ≤ q) s.heap H locs) {ls : Array Slot} (hl : lv_has ls 8 [(4, .int (nI i)), (0, .ref bs), (1, .ref L), (2, .ref (L + 360)), (3, .ref (L + 367))])
  (K : ∀ (H : Heap) (locs : List Loc) (c1 s1 : Nat) (ls : Array Slot), LwD D cs L aW H → va_S (fun q : Nat => L ≤ q) s.heap H locs → c1 ≤ cells + 1 → s1 ≤ slots + 6 → lv_has ls 8 [(4, .int (nI i)), (0, .ref bs), (1, .ref L), (2, .ref (L + 360)), (3, .ref (L + 367))] → W p l en room_1 s m #[Value.ref bs] below meth c H locs c1 s1 Q (F0 m 1607 ls [])) :
  W p l en room_1 s m #[Value.ref bs] below meth c H locs cells slots Q (F0 m 164 ls []) := by
  obtain ⟨hx, hb, hml, hown, hts, hK, hN, hKW0, hXK0, hXN, hXs, hbl, hLs, hN9, hfl⟩ := G
  obtain ⟨z, e, g, e1, g1, nx, cn, se, sg, bt, nn9, k9, ln, pa, ft, f, hHr, hOu, hMd, hRA, hk8, hsz⟩ := W0
  have hbA : ¬ (fun q : Nat => L ≤ q) bs := by show ¬ L ≤ bs; omega
  have hr0 : cells + 0 ≤ room_1.cells ∧ slots + 0 ≤ room_1.slots := ⟨by show cells + 0 ≤ 601024; omega, by show slots + 0 ≤ 7293034; omega⟩
  have hr1 : cells + 1 ≤ room_1.cells ∧ slots + 6 ≤ room_1.slots := hr
  have hI := ev_R hRA.1
  have hG := hRA.2.1
  have hnx := hRA.2.2.1.1.2.1
  have hcn := hRA.2.2.1.1.2.2
  have hZ := hRA.invZ
  have hl150 := hRA.2.2.2.2.1
  have hsv0 := ra_sv hRA
  have hEI := hRA.1
  have hRR := EI.R hRA.1
  have hMM := EI.M hRA.1
  have hTl := hRA.tl
  have hSv := hRA.sv
  have h24 := hI.M24
  have h6 := hI.R6
  have hXK := hXK0.kept (H1 := H) (fun a h1 h2 => hS.2.1 a h1 h2)
  have hKW := hKW0.kept (H1 := H) (fun a h1 h2 => hS.2.1 a h1 h2)
  obtain ⟨q1, hq1⟩ : ∃ q : Int32, q = xs (i + 1) := ⟨_, rfl⟩
  obtain ⟨q2, hq2⟩ : ∃ q : Int32, q = xs (i + 2) := ⟨_, rfl⟩
  obtain ⟨q3, hq3⟩ : ∃ q : Int32, q = xs (i + 3) := ⟨_, rfl⟩
  rcases (show wrg z q1 q2 q3 = 0 ∨ wrg z q1 q2 q3 = 1 ∨ wrg z q1 q2 q3 = 2 ∨ wrg z q1 q2 q3 = 3 by have h9 := wrg_4 z q1 q2 q3; omega) with hw | hw | hw | hw
  · obtain ⟨hwe, hR6, hee, hRs⟩ := hRA.sAddRing hw
    refine lv_aload_n hx hb dL_law_164 rfl (lv_at hl 2 rfl) ?_
    refine lv_aload_n hx hb dL_law_165 rfl (lv_at hl 1 rfl) ?_
    refine lv_iload hx hb dL_law_166 (lv_at hl 0 rfl) ?_
    refine lv_iconst (v := nI 1) hx hb dL_law_168 (by decide) ?_
    refine kn_add hx hb dL_law_169 ?_
    refine kx_sld (v := q1) hx hb hXs hbl hbA hS (by omega) hN9 hq1 dL_law_170 ?_
    refine lv_aload_n hx hb dL_law_171 rfl (lv_at hl 1 rfl) ?_
    refine lv_iload hx hb dL_law_172 (lv_at hl 0 rfl) ?_
    refine lv_iconst (v := nI 2) hx hb dL_law_174 (by decide) ?_
    refine kn_add hx hb dL_law_175 ?_
    refine kx_sld (v := q2) hx hb hXs hbl hbA hS (by omega) hN9 hq2 dL_law_176 ?_
    refine lv_aload_n hx hb dL_law_177 rfl (lv_at hl 1 rfl) ?_
    refine lv_iload hx hb dL_law_178 (lv_at hl 0 rfl) ?_
    refine lv_iconst (v := nI 3) hx hb dL_law_180 (by decide) ?_
    refine kn_add hx hb dL_law_181 ?_
    refine kx_sld (v := q3) hx hb hXs hbl hbA hS (by omega) hN9 hq3 dL_law_182 ?_
    refine lv_aload_n hx hb dL_law_183 rfl (lv_at hl 4 rfl) ?_
    refine kx_retM (vx_runSW (As := [.ref L, .int q1, .int q2, .int q3, .ref (L + 367)]) (rest := []) ⟨hx, hb, hml, hown, hts⟩ (k_L_addRing l D cs L e g e1 g1 nx cn se sg bt nn9 (aW k9) ln pa ft q1 q2 q3 hI hnx hcn hwe hR6 (L + 367) f (by omega) L (Nat.le_refl L) hfl) (vx_cwSW 5 hts gL_law_L_addRing rfl rfl rfl (by decide +kernel) ⟨Nat.le_of_ble_eq_true rfl, Nat.le_of_ble_eq_true rfl⟩) (kx_preY hK hN hXK hXN ⟨hHr, hOu⟩) rfl rfl hl.1 rfl (lv_room (Nat.le_of_ble_eq_true rfl)) dL_law_184 hr0) hS (fun q _ h => rg_lo h) (fun q h => rg_lo h) (fun H locs hP hk hS => ?_)
    obtain ⟨hHr, hOu⟩ := hP
    have hHr : HrC D cs L (prF e q1 q2 q3) g e1 g1 ((nx + 1) % 4) (min (cn + 1) 4) (hsE se nx (cfF (se nx) e)) (hsG sg nx (cgM (sg nx) g (Mn e))) bt nn9 (aW k9) ln pa ft H := hHr
    have hMd := hMd.frame hk (fun q h1 h2 h => by rcases h with h | h <;> omega)
    have hsz : L + 368 ≤ H.size := Nat.le_trans hsz hk.1
    clear hk hXK hKW
    refine lv_istore (lv' := [(5, .int (nI 0)), (4, .int (nI i)), (0, .ref bs), (1, .ref L), (2, .ref (L + 360)), (3, .ref (L + 367))]) hx hb dL_law_187 hl (by decide) rfl (fun ls hl => ?_)
    refine lv_aload_n hx hb dL_law_189 rfl (lv_at hl 4 rfl) ?_
    refine lv_aload_n hx hb dL_law_190 rfl (lv_at hl 2 rfl) ?_
    refine lv_iload hx hb dL_law_191 (lv_at hl 1 rfl) ?_
    refine lv_iconst (v := nI 1) hx hb dL_law_193 (by decide) ?_
    refine kn_add hx hb dL_law_194 ?_
    refine kx_sld (v := q1) hx hb hXs hbl hbA hS (by omega) hN9 hq1 dL_law_195 ?_
    refine lv_aload_n hx hb dL_law_196 rfl (lv_at hl 2 rfl) ?_
    refine lv_iload hx hb dL_law_197 (lv_at hl 1 rfl) ?_
    refine lv_iconst (v := nI 2) hx hb dL_law_199 (by decide) ?_
    refine kn_add hx hb dL_law_200 ?_
    refine kx_sld (v := q2) hx hb hXs hbl hbA hS (by omega) hN9 hq2 dL_law_201 ?_
    refine lv_aload_n hx hb dL_law_202 rfl (lv_at hl 2 rfl) ?_
    refine lv_iload hx hb dL_law_203 (lv_at hl 1 rfl) ?_
    refine lv_iconst (v := nI 3) hx hb dL_law_205 (by decide) ?_
    refine kn_add hx hb dL_law_206 ?_
    refine kx_sld (v := q3) hx hb hXs hbl hbA hS (by omega) hN9 hq3 dL_law_207 ?_
    refine kx_retM (va_runV (As := [.int q1, .int q2, .int q3]) (rest := []) ⟨hx, hb, hml, hown, hts⟩ (k_X8_addRing l D cs (L + 360) z q1 q2 q3 hZ) (cwV 3 hts gL_law_X8_addRing rfl rfl rfl (by decide +kernel) ⟨Nat.le_of_ble_eq_true rfl, Nat.le_of_ble_eq_true rfl⟩) (kx_preV hK hN hMd.1 rfl hMd) rfl rfl hl.1 rfl (lv_room (Nat.le_of_ble_eq_true rfl)) dL_law_208 hr0) hS (fun q _ h => by have h3 := h.1; show L ≤ q; omega) (fun q h => by have h3 := h.1; show L ≤ q; omega) (fun H locs hP hk hS => ?_)
    have hHr := hHr.keepR (H1 := H) (fun q h1 h2 => hk.2 q (by omega) (fun h => by have h3 := h.1; have h4 := h.2; omega))
    have hOu := hOu.kept (hk.2 _ hOu.lt (fun h => by have h3 := h.1; have h4 := h.2; omega))
    have hsz : L + 368 ≤ H.size := Nat.le_trans hsz hk.1
    clear hk
    have hMd : MdC D (cs 0) (L + 360) (prF (svT z) q1 q2 q3) H := (by have q9 := hP; rw [if_pos hw] at q9; exact q9)
    refine kx_ci (y := nI (Rn e)) (by rw [if_pos hw, hee]) ?_
    refine lv_istore (lv' := [(6, .int (nI (Rn e))), (5, .int (nI 0)), (4, .int (nI i)), (0, .ref bs), (1, .ref L), (2, .ref (L + 360)), (3, .ref (L + 367))]) hx hb dL_law_211 hl (by decide) rfl (fun ls hl => ?_)
    refine lv_aload_n hx hb dL_law_213 rfl (lv_at hl 5 rfl) ?_
    refine kx_retP (va_runV (As := []) (rest := []) ⟨hx, hb, hml, hown, hts⟩ (k_X8_thrown l D cs (L + 360) (prF (svT z) q1 q2 q3)) (cwV 0 hts gL_law_X8_thrown rfl rfl rfl (by decide +kernel) ⟨Nat.le_of_ble_eq_true rfl, Nat.le_of_ble_eq_true rfl⟩) (kx_preV hK hN hMd.1 rfl hMd) rfl rfl hl.1 rfl (lv_room (Nat.le_of_ble_eq_true rfl)) dL_law_214 hr0) ?_
    refine kx_ci (y := nI 0) ((fr_pr (z := svT z) q1 q2 q3 (by rw [svT_R, ← hee]; exact hR6) 4403 (by omega)).trans hsv0) ?_
    refine lv_iload hx hb dL_law_217 (lv_at hl 1 rfl) ?_
    refine lv_icmp_eq (tgt := 224) hx hb dL_law_219 (by decide) (fun _ => ?_) (fun h9 => absurd rfl h9)
    refine lv_iload hx hb dL_law_224 (lv_at hl 1 rfl) ?_
    refine lv_if_ne (tgt := 241) hx hb dL_law_226 (by decide) (fun h9 => absurd (show nI 0 = 0 by decide) h9) (fun _ => ?_)
    refine lv_aload_n hx hb dL_law_229 rfl (lv_at hl 6 rfl) ?_
    refine lv_iconst (v := nI 0) hx hb dL_law_230 (by decide) ?_
    refine kx_lald hx hb hK hOu 5 rfl (i := 0) (by decide) (by decide) dL_law_231 ?_
    refine kx_cl (y := (nI (Rn e)).toInt64) (vp_upd0 _ _) ?_
    refine lv_iload hx hb dL_law_232 (lv_at hl 0 rfl) ?_
    refine lv_i2l hx hb dL_law_234 rfl ?_
    refine W.lcmp hx hb dL_law_235 ?_
    refine kl_if_eq (tgt := 241) hx hb dL_law_236 (by decide) (fun _ => ?_) (fun h9 => absurd rfl h9)
    refine lv_goto (tgt := 1607) hx hb dL_law_241 (by decide) ?_
    exact K _ _ _ _ _ ⟨prF (svT z) q1 q2 q3, _, _, _, _, _, _, _, _, _, _, k9, _, _, _, _, hHr, hOu, hMd, hRs, hk8, hsz⟩ hS (Nat.le_add_right _ _) (Nat.le_add_right _ _) (lv_sub hl [2, 3, 4, 5, 6] rfl)
  · have hwe := (hRA.e_wrg q1 q2 q3).trans hw
    refine lv_aload_n hx hb dL_law_164 rfl (lv_at hl 2 rfl) ?_
    refine lv_aload_n hx hb dL_law_165 rfl (lv_at hl 1 rfl) ?_
    refine lv_iload hx hb dL_law_166 (lv_at hl 0 rfl) ?_
    refine lv_iconst (v := nI 1) hx hb dL_law_168 (by decide) ?_
    refine kn_add hx hb dL_law_169 ?_
    refine kx_sld (v := q1) hx hb hXs hbl hbA hS (by omega) hN9 hq1 dL_law_170 ?_
    refine lv_aload_n hx hb dL_law_171 rfl (lv_at hl 1 rfl) ?_
    refine lv_iload hx hb dL_law_172 (lv_at hl 0 rfl) ?_
    refine lv_iconst (v := nI 2) hx hb dL_law_174 (by decide) ?_
    refine kn_add hx hb dL_law_175 ?_
    refine kx_sld (v := q2) hx hb hXs hbl hbA hS (by omega) hN9 hq2 dL_law_176 ?_
    refine lv_aload_n hx hb dL_law_177 rfl (lv_at hl 1 rfl) ?_
    refine lv_iload hx hb dL_law_178 (lv_at hl 0 rfl) ?_
    refine lv_iconst (v := nI 3) hx hb dL_law_180 (by decide) ?_
    refine kn_add hx hb dL_law_181 ?_
    refine kx_sld (v := q3) hx hb hXs hbl hbA hS (by omega) hN9 hq3 dL_law_182 ?_
    refine lv_aload_n hx hb dL_law_183 rfl (lv_at hl 4 rfl) ?_
    refine kx_retN (vx_runSW (As := [.ref L, .int q1, .int q2, .int q3, .ref (L + 367)]) (rest := []) ⟨hx, hb, hml, hown, hts⟩ (k_L_addRingT1 l D cs L e g e1 g1 nx cn se sg bt nn9 (aW k9) ln pa ft q1 q2 q3 hI hwe (L + 367) f (by omega) L (Nat.le_refl L) hfl) (vx_cwSW 5 hts gL_law_L_addRing rfl rfl rfl (by decide +kernel) ⟨Nat.le_of_ble_eq_true rfl, Nat.le_of_ble_eq_true rfl⟩) (kx_preY hK hN hXK hXN ⟨hHr, hOu⟩) rfl rfl hl.1 rfl (lv_room (Nat.le_of_ble_eq_true rfl)) dL_law_184 hr1) hS (fun q _ h => rg_lo h) (fun q h => rg_lo h) (fun H locs hP hk hS => ?_)
    obtain ⟨hHr, hOu⟩ := hP
    have hHr : HrC D cs L e g e1 g1 nx cn se sg bt nn9 (aW k9) ln pa ft H := hHr
    have hMd := hMd.frame hk (fun q h1 h2 h => by rcases h with h | h <;> omega)
    have hsz : L + 368 ≤ H.size := Nat.le_trans hsz hk.1
    clear hk hXK hKW
    refine lv_istore (lv' := [(5, .int (nI 1)), (4, .int (nI i)), (0, .ref bs), (1, .ref L), (2, .ref (L + 360)), (3, .ref (L + 367))]) hx hb dL_law_187 hl (by decide) rfl (fun ls hl => ?_)
    refine lv_aload_n hx hb dL_law_189 rfl (lv_at hl 4 rfl) ?_
    refine lv_aload_n hx hb dL_law_190 rfl (lv_at hl 2 rfl) ?_
    refine lv_iload hx hb dL_law_191 (lv_at hl 1 rfl) ?_
    refine lv_iconst (v := nI 1) hx hb dL_law_193 (by decide) ?_
    refine kn_add hx hb dL_law_194 ?_
    refine kx_sld (v := q1) hx hb hXs hbl hbA hS (by omega) hN9 hq1 dL_law_195 ?_
    refine lv_aload_n hx hb dL_law_196 rfl (lv_at hl 2 rfl) ?_
    refine lv_iload hx hb dL_law_197 (lv_at hl 1 rfl) ?_
    refine lv_iconst (v := nI 2) hx hb dL_law_199 (by decide) ?_
    refine kn_add hx hb dL_law_200 ?_
    refine kx_sld (v := q2) hx hb hXs hbl hbA hS (by omega) hN9 hq2 dL_law_201 ?_
    refine lv_aload_n hx hb dL_law_202 rfl (lv_at hl 2 rfl) ?_
    refine lv_iload hx hb dL_law_203 (lv_at hl 1 rfl) ?_
    refine lv_iconst (v := nI 3) hx hb dL_law_205 (by decide) ?_
    refine kn_add hx hb dL_law_206 ?_
    refine kx_sld (v := q3) hx hb hXs hbl hbA hS (by omega) hN9 hq3 dL_law_207 ?_
    refine kx_retM (va_runV (As := [.int q1, .int q2, .int q3]) (rest := []) ⟨hx, hb, hml, hown, hts⟩ (k_X8_addRing l D cs (L + 360) z q1 q2 q3 hZ) (cwV 3 hts gL_law_X8_addRing rfl rfl rfl (by decide +kernel) ⟨Nat.le_of_ble_eq_true rfl, Nat.le_of_ble_eq_true rfl⟩) (kx_preV hK hN hMd.1 rfl hMd) rfl rfl hl.1 rfl (lv_room (Nat.le_of_ble_eq_true rfl)) dL_law_208 ⟨hr1.1, hr1.2⟩) hS (fun q _ h => by have h3 := h.1; show L ≤ q; omega) (fun q h => by have h3 := h.1; show L ≤ q; omega) (fun H locs hP hk hS => ?_)
    have hHr := hHr.keepR (H1 := H) (fun q h1 h2 => hk.2 q (by omega) (fun h => by have h3 := h.1; have h4 := h.2; omega))
    have hOu := hOu.kept (hk.2 _ hOu.lt (fun h => by have h3 := h.1; have h4 := h.2; omega))
    have hsz : L + 368 ≤ H.size := Nat.le_trans hsz hk.1
    clear hk
    have hMd : MdC D (cs 0) (L + 360) (upd z 4403 (nI 1)) H := (by have q9 := hP; rw [hw, if_neg (by decide)] at q9; exact q9)
    refine kx_ci (y := nI 0) (if_neg (by rw [hw]; decide)) ?_
    refine lv_istore (lv' := [(6, .int (nI 0)), (5, .int (nI 1)), (4, .int (nI i)), (0, .ref bs), (1, .ref L), (2, .ref (L + 360)), (3, .ref (L + 367))]) hx hb dL_law_211 hl (by decide) rfl (fun ls hl => ?_)
    refine lv_aload_n hx hb dL_law_213 rfl (lv_at hl 5 rfl) ?_
    refine kx_retP (va_runV (As := []) (rest := []) ⟨hx, hb, hml, hown, hts⟩ (k_X8_thrown l D cs (L + 360) (upd z 4403 (nI 1))) (cwV 0 hts gL_law_X8_thrown rfl rfl rfl (by decide +kernel) ⟨Nat.le_of_ble_eq_true rfl, Nat.le_of_ble_eq_true rfl⟩) (kx_preV hK hN hMd.1 rfl hMd) rfl rfl hl.1 rfl (lv_room (Nat.le_of_ble_eq_true rfl)) dL_law_214 ⟨hr1.1, hr1.2⟩) ?_
    refine kx_ci (y := nI 1) (th_thr _) ?_
    refine lv_iload hx hb dL_law_217 (lv_at hl 1 rfl) ?_
    refine lv_icmp_eq (tgt := 224) hx hb dL_law_219 (by decide) (fun _ => ?_) (fun h9 => absurd rfl h9)
    refine lv_iload hx hb dL_law_224 (lv_at hl 1 rfl) ?_
    refine lv_if_ne (tgt := 241) hx hb dL_law_226 (by decide) (fun _ => ?_) (fun h9 => absurd h9 (by decide))
    refine lv_goto (tgt := 1607) hx hb dL_law_241 (by decide) ?_
    exact K _ _ _ _ _ ⟨upd z 4403 (nI 1), _, _, _, _, _, _, _, _, _, _, k9, _, _, _, _, hHr, hOu, hMd, hRA.thr _, hk8, hsz⟩ hS (Nat.le_refl _) (Nat.le_refl _) (lv_sub hl [2, 3, 4, 5, 6] rfl)
  · have hwe := (hRA.e_wrg q1 q2 q3).trans hw
    refine lv_aload_n hx hb dL_law_164 rfl (lv_at hl 2 rfl) ?_
    refine lv_aload_n hx hb dL_law_165 rfl (lv_at hl 1 rfl) ?_
    refine lv_iload hx hb dL_law_166 (lv_at hl 0 rfl) ?_
    refine lv_iconst (v := nI 1) hx hb dL_law_168 (by decide) ?_
    refine kn_add hx hb dL_law_169 ?_
    refine kx_sld (v := q1) hx hb hXs hbl hbA hS (by omega) hN9 hq1 dL_law_170 ?_
    refine lv_aload_n hx hb dL_law_171 rfl (lv_at hl 1 rfl) ?_
    refine lv_iload hx hb dL_law_172 (lv_at hl 0 rfl) ?_
    refine lv_iconst (v := nI 2) hx hb dL_law_174 (by decide) ?_
    refine kn_add hx hb dL_law_175 ?_
    refine kx_sld (v := q2) hx hb hXs hbl hbA hS (by omega) hN9 hq2 dL_law_176 ?_
    refine lv_aload_n hx hb dL_law_177 rfl (lv_at hl 1 rfl) ?_
    refine lv_iload hx hb dL_law_178 (lv_at hl 0 rfl) ?_
    refine lv_iconst (v := nI 3) hx hb dL_law_180 (by decide) ?_
    refine kn_add hx hb dL_law_181 ?_
    refine kx_sld (v := q3) hx hb hXs hbl hbA hS (by omega) hN9 hq3 dL_law_182 ?_
    refine lv_aload_n hx hb dL_law_183 rfl (lv_at hl 4 rfl) ?_
    refine kx_retN (vx_runSW (As := [.ref L, .int q1, .int q2, .int q3, .ref (L + 367)]) (rest := []) ⟨hx, hb, hml, hown, hts⟩ (k_L_addRingT2 l D cs L e g e1 g1 nx cn se sg bt nn9 (aW k9) ln pa ft q1 q2 q3 hI hwe (L + 367) f (by omega) L (Nat.le_refl L) hfl) (vx_cwSW 5 hts gL_law_L_addRing rfl rfl rfl (by decide +kernel) ⟨Nat.le_of_ble_eq_true rfl, Nat.le_of_ble_eq_true rfl⟩) (kx_preY hK hN hXK hXN ⟨hHr, hOu⟩) rfl rfl hl.1 rfl (lv_room (Nat.le_of_ble_eq_true rfl)) dL_law_184 hr1) hS (fun q _ h => rg_lo h) (fun q h => rg_lo h) (fun H locs hP hk hS => ?_)
    obtain ⟨hHr, hOu⟩ := hP
    have hHr : HrC D cs L e g e1 g1 nx cn se sg bt nn9 (aW k9) ln pa ft H := hHr
    have hMd := hMd.frame hk (fun q h1 h2 h => by rcases h with h | h <;> omega)
    have hsz : L + 368 ≤ H.size := Nat.le_trans hsz hk.1
    clear hk hXK hKW
    refine lv_istore (lv' := [(5, .int (nI 2)), (4, .int (nI i)), (0, .ref bs), (1, .ref L), (2, .ref (L + 360)), (3, .ref (L + 367))]) hx hb dL_law_187 hl (by decide) rfl (fun ls hl => ?_)
    refine lv_aload_n hx hb dL_law_189 rfl (lv_at hl 4 rfl) ?_
    refine lv_aload_n hx hb dL_law_190 rfl (lv_at hl 2 rfl) ?_
    refine lv_iload hx hb dL_law_191 (lv_at hl 1 rfl) ?_
    refine lv_iconst (v := nI 1) hx hb dL_law_193 (by decide) ?_
    refine kn_add hx hb dL_law_194 ?_
    refine kx_sld (v := q1) hx hb hXs hbl hbA hS (by omega) hN9 hq1 dL_law_195 ?_
    refine lv_aload_n hx hb dL_law_196 rfl (lv_at hl 2 rfl) ?_
    refine lv_iload hx hb dL_law_197 (lv_at hl 1 rfl) ?_
    refine lv_iconst (v := nI 2) hx hb dL_law_199 (by decide) ?_
    refine kn_add hx hb dL_law_200 ?_
    refine kx_sld (v := q2) hx hb hXs hbl hbA hS (by omega) hN9 hq2 dL_law_201 ?_
    refine lv_aload_n hx hb dL_law_202 rfl (lv_at hl 2 rfl) ?_
    refine lv_iload hx hb dL_law_203 (lv_at hl 1 rfl) ?_
    refine lv_iconst (v := nI 3) hx hb dL_law_205 (by decide) ?_
    refine kn_add hx hb dL_law_206 ?_
    refine kx_sld (v := q3) hx hb hXs hbl hbA hS (by omega) hN9 hq3 dL_law_207 ?_
    refine kx_retM (va_runV (As := [.int q1, .int q2, .int q3]) (rest := []) ⟨hx, hb, hml, hown, hts⟩ (k_X8_addRing l D cs (L + 360) z q1 q2 q3 hZ) (cwV 3 hts gL_law_X8_addRing rfl rfl rfl (by decide +kernel) ⟨Nat.le_of_ble_eq_true rfl, Nat.le_of_ble_eq_true rfl⟩) (kx_preV hK hN hMd.1 rfl hMd) rfl rfl hl.1 rfl (lv_room (Nat.le_of_ble_eq_true rfl)) dL_law_208 ⟨hr1.1, hr1.2⟩) hS (fun q _ h => by have h3 := h.1; show L ≤ q; omega) (fun q h => by have h3 := h.1; show L ≤ q; omega) (fun H locs hP hk hS => ?_)
    have hHr := hHr.keepR (H1 := H) (fun q h1 h2 => hk.2 q (by omega) (fun h => by have h3 := h.1; have h4 := h.2; omega))
    have hOu := hOu.kept (hk.2 _ hOu.lt (fun h => by have h3 := h.1; have h4 := h.2; omega))
    have hsz : L + 368 ≤ H.size := Nat.le_trans hsz hk.1
    clear hk
    have hMd : MdC D (cs 0) (L + 360) (upd z 4403 (nI 2)) H := (by have q9 := hP; rw [hw, if_neg (by decide)] at q9; exact q9)
    refine kx_ci (y := nI 0) (if_neg (by rw [hw]; decide)) ?_
    refine lv_istore (lv' := [(6, .int (nI 0)), (5, .int (nI 2)), (4, .int (nI i)), (0, .ref bs), (1, .ref L), (2, .ref (L + 360)), (3, .ref (L + 367))]) hx hb dL_law_211 hl (by decide) rfl (fun ls hl => ?_)
    refine lv_aload_n hx hb dL_law_213 rfl (lv_at hl 5 rfl) ?_
    refine kx_retP (va_runV (As := []) (rest := []) ⟨hx, hb, hml, hown, hts⟩ (k_X8_thrown l D cs (L + 360) (upd z 4403 (nI 2))) (cwV 0 hts gL_law_X8_thrown rfl rfl rfl (by decide +kernel) ⟨Nat.le_of_ble_eq_true rfl, Nat.le_of_ble_eq_true rfl⟩) (kx_preV hK hN hMd.1 rfl hMd) rfl rfl hl.1 rfl (lv_room (Nat.le_of_ble_eq_true rfl)) dL_law_214 ⟨hr1.1, hr1.2⟩) ?_
    refine kx_ci (y := nI 2) (th_thr _) ?_
    refine lv_iload hx hb dL_law_217 (lv_at hl 1 rfl) ?_
    refine lv_icmp_eq (tgt := 224) hx hb dL_law_219 (by decide) (fun _ => ?_) (fun h9 => absurd rfl h9)
    refine lv_iload hx hb dL_law_224 (lv_at hl 1 rfl) ?_
    refine lv_if_ne (tgt := 241) hx hb dL_law_226 (by decide) (fun _ => ?_) (fun h9 => absurd h9 (by decide))
    refine lv_goto (tgt := 1607) hx hb dL_law_241 (by decide) ?_
    exact K _ _ _ _ _ ⟨upd z 4403 (nI 2), _, _, _, _, _, _, _, _, _, _, k9, _, _, _, _, hHr, hOu, hMd, hRA.thr _, hk8, hsz⟩ hS (Nat.le_refl _) (Nat.le_refl _) (lv_sub hl [2, 3, 4, 5, 6] rfl)
  · have hwe := (hRA.e_wrg q1 q2 q3).trans hw
    refine lv_aload_n hx hb dL_law_164 rfl (lv_at hl 2 rfl) ?_
    refine lv_aload_n hx hb dL_law_165 rfl (lv_at hl 1 rfl) ?_
    refine lv_iload hx hb dL_law_166 (lv_at hl 0 rfl) ?_
    refine lv_iconst (v := nI 1) hx hb dL_law_168 (by decide) ?_
    refine kn_add hx hb dL_law_169 ?_
    refine kx_sld (v := q1) hx hb hXs hbl hbA hS (by omega) hN9 hq1 dL_law_170 ?_
    refine lv_aload_n hx hb dL_law_171 rfl (lv_at hl 1 rfl) ?_
    refine lv_iload hx hb dL_law_172 (lv_at hl 0 rfl) ?_
    refine lv_iconst (v := nI 2) hx hb dL_law_174 (by decide) ?_
    refine kn_add hx hb dL_law_175 ?_
    refine kx_sld (v := q2) hx hb hXs hbl hbA hS (by omega) hN9 hq2 dL_law_176 ?_
    refine lv_aload_n hx hb dL_law_177 rfl (lv_at hl 1 rfl) ?_
    refine lv_iload hx hb dL_law_178 (lv_at hl 0 rfl) ?_
    refine lv_iconst (v := nI 3) hx hb dL_law_180 (by decide) ?_
    refine kn_add hx hb dL_law_181 ?_
    refine kx_sld (v := q3) hx hb hXs hbl hbA hS (by omega) hN9 hq3 dL_law_182 ?_
    refine lv_aload_n hx hb dL_law_183 rfl (lv_at hl 4 rfl) ?_
    refine kx_retN (vx_runSW (As := [.ref L, .int q1, .int q2, .int q3, .ref (L + 367)]) (rest := []) ⟨hx, hb, hml, hown, hts⟩ (k_L_addRingT3 l D cs L e g e1 g1 nx cn se sg bt nn9 (aW k9) ln pa ft q1 q2 q3 hI hwe (L + 367) f (by omega) L (Nat.le_refl L) hfl) (vx_cwSW 5 hts gL_law_L_addRing rfl rfl rfl (by decide +kernel) ⟨Nat.le_of_ble_eq_true rfl, Nat.le_of_ble_eq_true rfl⟩) (kx_preY hK hN hXK hXN ⟨hHr, hOu⟩) rfl rfl hl.1 rfl (lv_room (Nat.le_of_ble_eq_true rfl)) dL_law_184 hr1) hS (fun q _ h => rg_lo h) (fun q h => rg_lo h) (fun H locs hP hk hS => ?_)
    obtain ⟨hHr, hOu⟩ := hP
    have hHr : HrC D cs L e g e1 g1 nx cn se sg bt nn9 (aW k9) ln pa ft H := hHr
    have hMd := hMd.frame hk (fun q h1 h2 h => by rcases h with h | h <;> omega)
    have hsz : L + 368 ≤ H.size := Nat.le_trans hsz hk.1
    clear hk hXK hKW
    refine lv_istore (lv' := [(5, .int (nI 3)), (4, .int (nI i)), (0, .ref bs), (1, .ref L), (2, .ref (L + 360)), (3, .ref (L + 367))]) hx hb dL_law_187 hl (by decide) rfl (fun ls hl => ?_)
    refine lv_aload_n hx hb dL_law_189 rfl (lv_at hl 4 rfl) ?_
    refine lv_aload_n hx hb dL_law_190 rfl (lv_at hl 2 rfl) ?_
    refine lv_iload hx hb dL_law_191 (lv_at hl 1 rfl) ?_
    refine lv_iconst (v := nI 1) hx hb dL_law_193 (by decide) ?_
    refine kn_add hx hb dL_law_194 ?_
    refine kx_sld (v := q1) hx hb hXs hbl hbA hS (by omega) hN9 hq1 dL_law_195 ?_
    refine lv_aload_n hx hb dL_law_196 rfl (lv_at hl 2 rfl) ?_
    refine lv_iload hx hb dL_law_197 (lv_at hl 1 rfl) ?_
    refine lv_iconst (v := nI 2) hx hb dL_law_199 (by decide) ?_
    refine kn_add hx hb dL_law_200 ?_
    refine kx_sld (v := q2) hx hb hXs hbl hbA hS (by omega) hN9 hq2 dL_law_201 ?_
    refine lv_aload_n hx hb dL_law_202 rfl (lv_at hl 2 rfl) ?_
    refine lv_iload hx hb dL_law_203 (lv_at hl 1 rfl) ?_
    refine lv_iconst (v := nI 3) hx hb dL_law_205 (by decide) ?_
    refine kn_add hx hb dL_law_206 ?_
    refine kx_sld (v := q3) hx hb hXs hbl hbA hS (by omega) hN9 hq3 dL_law_207 ?_
    refine kx_retM (va_runV (As := [.int q1, .int q2, .int q3]) (rest := []) ⟨hx, hb, hml, hown, hts⟩ (k_X8_addRing l D cs (L + 360) z q1 q2 q3 hZ) (cwV 3 hts gL_law_X8_addRing rfl rfl rfl (by decide +kernel) ⟨Nat.le_of_ble_eq_true rfl, Nat.le_of_ble_eq_true rfl⟩) (kx_preV hK hN hMd.1 rfl hMd) rfl rfl hl.1 rfl (lv_room (Nat.le_of_ble_eq_true rfl)) dL_law_208 ⟨hr1.1, hr1.2⟩) hS (fun q _ h => by have h3 := h.1; show L ≤ q; omega) (fun q h => by have h3 := h.1; show L ≤ q; omega) (fun H locs hP hk hS => ?_)
    have hHr := hHr.keepR (H1 := H) (fun q h1 h2 => hk.2 q (by omega) (fun h => by have h3 := h.1; have h4 := h.2; omega))
    have hOu := hOu.kept (hk.2 _ hOu.lt (fun h => by have h3 := h.1; have h4 := h.2; omega))
    have hsz : L + 368 ≤ H.size := Nat.le_trans hsz hk.1
    clear hk
    have hMd : MdC D (cs 0) (L + 360) (upd z 4403 (nI 3)) H := (by have q9 := hP; rw [hw, if_neg (by decide)] at q9; exact q9)
    refine kx_ci (y := nI 0) (if_neg (by rw [hw]; decide)) ?_
    refine lv_istore (lv' := [(6, .int (nI 0)), (5, .int (nI 3)), (4, .int (nI i)), (0, .ref bs), (1, .ref L), (2, .ref (L + 360)), (3, .ref (L + 367))]) hx hb dL_law_211 hl (by decide) rfl (fun ls hl => ?_)
    refine lv_aload_n hx hb dL_law_213 rfl (lv_at hl 5 rfl) ?_
    refine kx_retP (va_runV (As := []) (rest := []) ⟨hx, hb, hml, hown, hts⟩ (k_X8_thrown l D cs (L + 360) (upd z 4403 (nI 3))) (cwV 0 hts gL_law_X8_thrown rfl rfl rfl (by decide +kernel) ⟨Nat.le_of_ble_eq_true rfl, Nat.le_of_ble_eq_true rfl⟩) (kx_preV hK hN hMd.1 rfl hMd) rfl rfl hl.1 rfl (lv_room (Nat.le_of_ble_eq_true rfl)) dL_law_214 ⟨hr1.1, hr1.2⟩) ?_
    refine kx_ci (y := nI 3) (th_thr _) ?_
    refine lv_iload hx hb dL_law_217 (lv_at hl 1 rfl) ?_
    refine lv_icmp_eq (tgt := 224) hx hb dL_law_219 (by decide) (fun _ => ?_) (fun h9 => absurd rfl h9)
    refine lv_iload hx hb dL_law_224 (lv_at hl 1 rfl) ?_
    refine lv_if_ne (tgt := 241) hx hb dL_law_226 (by decide) (fun _ => ?_) (fun h9 => absurd h9 (by decide))
    refine lv_goto (tgt := 1607) hx hb dL_law_241 (by decide) ?_
    exact K _ _ _ _ _ ⟨upd z 4403 (nI 3), _, _, _, _, _, _, _, _, _, _, k9, _, _, _, _, hHr, hOu, hMd, hRA.thr _, hk8, hsz⟩ hS (Nat.le_refl _) (Nat.le_refl _) (lv_sub hl [2, 3, 4, 5, 6] rfl)
set_option maxHeartbeats 2500000 in
set_option maxRecDepth 100000 in
theorem cs_setPatience {p : Program} {l : Launch} {en : Env} {s : State} {m : MethodId} {below : List Frame} {meth : Method} {c : Code} {D : va_G} {cs : Nat → ClassId} {L : Nat} {aW aS aV : Nat → Nat} {tW tM bs N : Nat} {xs : Nat → Int32} {Q : State → Prop} (G : LwG p l s m c D cs L aW aS aV tW tM bs N xs) {i : Nat} (hi : i + 6 ≤ N) {H : Heap} {locs : List Loc} {cells slots : Nat} (hr : cells + 1 ≤ 601024 ∧ slots + 6 ≤ 7293034) (W0 : LwD D cs L aW H) (hS : va_S (fun q : Nat => L ≤ q) s.heap H locs) {ls : Array Slot} (hl : lv_has ls 8 [(4, .int (nI i)), (0, .ref bs), (1, .ref L), (2, .ref (L + 360)), (3, .ref (L + 367))])
  (K : ∀ (H : Heap) (locs : List Loc) (c1 s1 : Nat) (ls : Array Slot), LwD D cs L aW H → va_S (fun q : Nat => L ≤ q) s.heap H locs → c1 ≤ cells + 1 → s1 ≤ slots + 6 → lv_has ls 8 [(4, .int (nI i)), (0, .ref bs), (1, .ref L), (2, .ref (L + 360)), (3, .ref (L + 367))] → W p l en room_1 s m #[Value.ref bs] below meth c H locs c1 s1 Q (F0 m 1607 ls [])) :
  W p l en room_1 s m #[Value.ref bs] below meth c H locs cells slots Q (F0 m 244 ls []) := by
  obtain ⟨hx, hb, hml, hown, hts, hK, hN, hKW0, hXK0, hXN, hXs, hbl, hLs, hN9, hfl⟩ := G
  obtain ⟨z, e, g, e1, g1, nx, cn, se, sg, bt, nn9, k9, ln, pa, ft, f, hHr, hOu, hMd, hRA, hk8, hsz⟩ := W0
  have hbA : ¬ (fun q : Nat => L ≤ q) bs := by show ¬ L ≤ bs; omega
  have hr0 : cells + 0 ≤ room_1.cells ∧ slots + 0 ≤ room_1.slots := ⟨by show cells + 0 ≤ 601024; omega, by show slots + 0 ≤ 7293034; omega⟩
  have hr1 : cells + 1 ≤ room_1.cells ∧ slots + 6 ≤ room_1.slots := hr
  have hI := ev_R hRA.1
  have hG := hRA.2.1
  have hnx := hRA.2.2.1.1.2.1
  have hcn := hRA.2.2.1.1.2.2
  have hZ := hRA.invZ
  have hl150 := hRA.2.2.2.2.1
  have hsv0 := ra_sv hRA
  have hEI := hRA.1
  have hRR := EI.R hRA.1
  have hMM := EI.M hRA.1
  have hTl := hRA.tl
  have hSv := hRA.sv
  have h24 := hI.M24
  have h6 := hI.R6
  have hXK := hXK0.kept (H1 := H) (fun a h1 h2 => hS.2.1 a h1 h2)
  have hKW := hKW0.kept (H1 := H) (fun a h1 h2 => hS.2.1 a h1 h2)
  obtain ⟨q1, hq1⟩ : ∃ q : Int32, q = xs (i + 1) := ⟨_, rfl⟩
  obtain ⟨q2, hq2⟩ : ∃ q : Int32, q = xs (i + 2) := ⟨_, rfl⟩
  rcases (show wpt z q1 q2 = 0 ∨ wpt z q1 q2 = 1 ∨ wpt z q1 q2 = 2 by have h9 := wpt_3 (z := z) (x := q1) (y := q2); omega) with hw | hw | hw
  · obtain ⟨r, rfl, hr6, hwe, hee, hRs⟩ := hRA.sPat hw
    refine lv_aload_n hx hb dL_law_244 rfl (lv_at hl 2 rfl) ?_
    refine lv_aload_n hx hb dL_law_245 rfl (lv_at hl 1 rfl) ?_
    refine lv_iload hx hb dL_law_246 (lv_at hl 0 rfl) ?_
    refine lv_iconst (v := nI 1) hx hb dL_law_248 (by decide) ?_
    refine kn_add hx hb dL_law_249 ?_
    refine kx_sld (v := nI r) hx hb hXs hbl hbA hS (by omega) hN9 hq1 dL_law_250 ?_
    refine lv_aload_n hx hb dL_law_251 rfl (lv_at hl 1 rfl) ?_
    refine lv_iload hx hb dL_law_252 (lv_at hl 0 rfl) ?_
    refine lv_iconst (v := nI 2) hx hb dL_law_254 (by decide) ?_
    refine kn_add hx hb dL_law_255 ?_
    refine kx_sld (v := q2) hx hb hXs hbl hbA hS (by omega) hN9 hq2 dL_law_256 ?_
    refine lv_aload_n hx hb dL_law_257 rfl (lv_at hl 4 rfl) ?_
    refine kx_retM (vx_runSW (As := [.ref L, .int (nI r), .int q2, .ref (L + 367)]) (rest := []) ⟨hx, hb, hml, hown, hts⟩ (k_L_setPatience l D cs L e g e1 g1 nx cn se sg bt nn9 (aW k9) ln pa ft r q2 hI hnx hcn hwe hr6 (L + 367) f (by omega) L (Nat.le_refl L) hfl) (vx_cwSW 4 hts gL_law_L_setPatience rfl rfl rfl (by decide +kernel) ⟨Nat.le_of_ble_eq_true rfl, Nat.le_of_ble_eq_true rfl⟩) (kx_preY hK hN hXK hXN ⟨hHr, hOu⟩) rfl rfl hl.1 rfl (lv_room (Nat.le_of_ble_eq_true rfl)) dL_law_258 hr0) hS (fun q _ h => rg_lo h) (fun q h => rg_lo h) (fun H locs hP hk hS => ?_)
    obtain ⟨hHr, hOu⟩ := hP
    have hHr : HrC D cs L (upd e (56 + 4 * r + 2) q2) g e1 g1 ((nx + 1) % 4) (min (cn + 1) 4) (hsE se nx (cfF (se nx) e)) (hsG sg nx (cgM (sg nx) g (Mn e))) bt nn9 (aW k9) ln pa ft H := hHr
    have hMd := hMd.frame hk (fun q h1 h2 h => by rcases h with h | h <;> omega)
    have hsz : L + 368 ≤ H.size := Nat.le_trans hsz hk.1
    clear hk hXK hKW
    refine lv_istore (lv' := [(5, .int (nI 0)), (4, .int (nI i)), (0, .ref bs), (1, .ref L), (2, .ref (L + 360)), (3, .ref (L + 367))]) hx hb dL_law_261 hl (by decide) rfl (fun ls hl => ?_)
    refine lv_aload_n hx hb dL_law_263 rfl (lv_at hl 4 rfl) ?_
    refine lv_aload_n hx hb dL_law_264 rfl (lv_at hl 2 rfl) ?_
    refine lv_iload hx hb dL_law_265 (lv_at hl 1 rfl) ?_
    refine lv_iconst (v := nI 1) hx hb dL_law_267 (by decide) ?_
    refine kn_add hx hb dL_law_268 ?_
    refine kx_sld (v := nI r) hx hb hXs hbl hbA hS (by omega) hN9 hq1 dL_law_269 ?_
    refine lv_aload_n hx hb dL_law_270 rfl (lv_at hl 2 rfl) ?_
    refine lv_iload hx hb dL_law_271 (lv_at hl 1 rfl) ?_
    refine lv_iconst (v := nI 2) hx hb dL_law_273 (by decide) ?_
    refine kn_add hx hb dL_law_274 ?_
    refine kx_sld (v := q2) hx hb hXs hbl hbA hS (by omega) hN9 hq2 dL_law_275 ?_
    refine kx_retM (va_runV (As := [.int (nI r), .int q2]) (rest := []) ⟨hx, hb, hml, hown, hts⟩ (k_X8_setPatience l D cs (L + 360) z (nI r) q2 hZ) (cwV 2 hts gL_law_X8_setPatience rfl rfl rfl (by decide +kernel) ⟨Nat.le_of_ble_eq_true rfl, Nat.le_of_ble_eq_true rfl⟩) (kx_preV hK hN hMd.1 rfl hMd) rfl rfl hl.1 rfl (lv_room (Nat.le_of_ble_eq_true rfl)) dL_law_276 hr0) hS (fun q _ h => by have h3 := h.1; show L ≤ q; omega) (fun q h => by have h3 := h.1; show L ≤ q; omega) (fun H locs hP hk hS => ?_)
    have hHr := hHr.keepR (H1 := H) (fun q h1 h2 => hk.2 q (by omega) (fun h => by have h3 := h.1; have h4 := h.2; omega))
    have hOu := hOu.kept (hk.2 _ hOu.lt (fun h => by have h3 := h.1; have h4 := h.2; omega))
    have hsz : L + 368 ≤ H.size := Nat.le_trans hsz hk.1
    clear hk
    have hMd : MdC D (cs 0) (L + 360) (upd (svT z) (56 + 4 * r + 2) q2) H := (by have q9 := hP; rw [if_pos hw, nn_nI (by omega)] at q9; exact q9)
    refine kx_ci (y := e (56 + 4 * r + 2)) (by rw [if_pos hw, nn_nI (by omega), hee]) ?_
    refine lv_istore (lv' := [(6, .int (e (56 + 4 * r + 2))), (5, .int (nI 0)), (4, .int (nI i)), (0, .ref bs), (1, .ref L), (2, .ref (L + 360)), (3, .ref (L + 367))]) hx hb dL_law_279 hl (by decide) rfl (fun ls hl => ?_)
    refine lv_aload_n hx hb dL_law_281 rfl (lv_at hl 5 rfl) ?_
    refine kx_retP (va_runV (As := []) (rest := []) ⟨hx, hb, hml, hown, hts⟩ (k_X8_thrown l D cs (L + 360) (upd (svT z) (56 + 4 * r + 2) q2)) (cwV 0 hts gL_law_X8_thrown rfl rfl rfl (by decide +kernel) ⟨Nat.le_of_ble_eq_true rfl, Nat.le_of_ble_eq_true rfl⟩) (kx_preV hK hN hMd.1 rfl hMd) rfl rfl hl.1 rfl (lv_room (Nat.le_of_ble_eq_true rfl)) dL_law_282 hr0) ?_
    refine kx_ci (y := nI 0) ((fr_upd (svT z) (by omega) q2 4403 (by omega)).trans hsv0) ?_
    refine lv_iload hx hb dL_law_285 (lv_at hl 1 rfl) ?_
    refine lv_icmp_eq (tgt := 292) hx hb dL_law_287 (by decide) (fun _ => ?_) (fun h9 => absurd rfl h9)
    refine lv_iload hx hb dL_law_292 (lv_at hl 1 rfl) ?_
    refine lv_if_ne (tgt := 309) hx hb dL_law_294 (by decide) (fun h9 => absurd (show nI 0 = 0 by decide) h9) (fun _ => ?_)
    refine lv_aload_n hx hb dL_law_297 rfl (lv_at hl 6 rfl) ?_
    refine lv_iconst (v := nI 0) hx hb dL_law_298 (by decide) ?_
    refine kx_lald hx hb hK hOu 5 rfl (i := 0) (by decide) (by decide) dL_law_299 ?_
    refine kx_cl (y := (e (56 + 4 * r + 2)).toInt64) (vp_upd0 _ _) ?_
    refine lv_iload hx hb dL_law_300 (lv_at hl 0 rfl) ?_
    refine lv_i2l hx hb dL_law_302 rfl ?_
    refine W.lcmp hx hb dL_law_303 ?_
    refine kl_if_eq (tgt := 309) hx hb dL_law_304 (by decide) (fun _ => ?_) (fun h9 => absurd rfl h9)
    refine lv_goto (tgt := 1607) hx hb dL_law_309 (by decide) ?_
    exact K _ _ _ _ _ ⟨upd (svT z) (56 + 4 * r + 2) q2, _, _, _, _, _, _, _, _, _, _, k9, _, _, _, _, hHr, hOu, hMd, hRs, hk8, hsz⟩ hS (Nat.le_add_right _ _) (Nat.le_add_right _ _) (lv_sub hl [2, 3, 4, 5, 6] rfl)
  · have hwe := (ev_wpt hEI q1 q2).trans hw
    refine lv_aload_n hx hb dL_law_244 rfl (lv_at hl 2 rfl) ?_
    refine lv_aload_n hx hb dL_law_245 rfl (lv_at hl 1 rfl) ?_
    refine lv_iload hx hb dL_law_246 (lv_at hl 0 rfl) ?_
    refine lv_iconst (v := nI 1) hx hb dL_law_248 (by decide) ?_
    refine kn_add hx hb dL_law_249 ?_
    refine kx_sld (v := q1) hx hb hXs hbl hbA hS (by omega) hN9 hq1 dL_law_250 ?_
    refine lv_aload_n hx hb dL_law_251 rfl (lv_at hl 1 rfl) ?_
    refine lv_iload hx hb dL_law_252 (lv_at hl 0 rfl) ?_
    refine lv_iconst (v := nI 2) hx hb dL_law_254 (by decide) ?_
    refine kn_add hx hb dL_law_255 ?_
    refine kx_sld (v := q2) hx hb hXs hbl hbA hS (by omega) hN9 hq2 dL_law_256 ?_
    refine lv_aload_n hx hb dL_law_257 rfl (lv_at hl 4 rfl) ?_
    refine kx_retN (vx_runSW (As := [.ref L, .int q1, .int q2, .ref (L + 367)]) (rest := []) ⟨hx, hb, hml, hown, hts⟩ (k_L_setPatienceT1 l D cs L e g e1 g1 nx cn se sg bt nn9 (aW k9) ln pa ft q1 q2 hI hwe (L + 367) f (by omega) L (Nat.le_refl L) hfl) (vx_cwSW 4 hts gL_law_L_setPatience rfl rfl rfl (by decide +kernel) ⟨Nat.le_of_ble_eq_true rfl, Nat.le_of_ble_eq_true rfl⟩) (kx_preY hK hN hXK hXN ⟨hHr, hOu⟩) rfl rfl hl.1 rfl (lv_room (Nat.le_of_ble_eq_true rfl)) dL_law_258 hr1) hS (fun q _ h => rg_lo h) (fun q h => rg_lo h) (fun H locs hP hk hS => ?_)
    obtain ⟨hHr, hOu⟩ := hP
    have hHr : HrC D cs L e g e1 g1 nx cn se sg bt nn9 (aW k9) ln pa ft H := hHr
    have hMd := hMd.frame hk (fun q h1 h2 h => by rcases h with h | h <;> omega)
    have hsz : L + 368 ≤ H.size := Nat.le_trans hsz hk.1
    clear hk hXK hKW
    refine lv_istore (lv' := [(5, .int (nI 1)), (4, .int (nI i)), (0, .ref bs), (1, .ref L), (2, .ref (L + 360)), (3, .ref (L + 367))]) hx hb dL_law_261 hl (by decide) rfl (fun ls hl => ?_)
    refine lv_aload_n hx hb dL_law_263 rfl (lv_at hl 4 rfl) ?_
    refine lv_aload_n hx hb dL_law_264 rfl (lv_at hl 2 rfl) ?_
    refine lv_iload hx hb dL_law_265 (lv_at hl 1 rfl) ?_
    refine lv_iconst (v := nI 1) hx hb dL_law_267 (by decide) ?_
    refine kn_add hx hb dL_law_268 ?_
    refine kx_sld (v := q1) hx hb hXs hbl hbA hS (by omega) hN9 hq1 dL_law_269 ?_
    refine lv_aload_n hx hb dL_law_270 rfl (lv_at hl 2 rfl) ?_
    refine lv_iload hx hb dL_law_271 (lv_at hl 1 rfl) ?_
    refine lv_iconst (v := nI 2) hx hb dL_law_273 (by decide) ?_
    refine kn_add hx hb dL_law_274 ?_
    refine kx_sld (v := q2) hx hb hXs hbl hbA hS (by omega) hN9 hq2 dL_law_275 ?_
    refine kx_retM (va_runV (As := [.int q1, .int q2]) (rest := []) ⟨hx, hb, hml, hown, hts⟩ (k_X8_setPatience l D cs (L + 360) z q1 q2 hZ) (cwV 2 hts gL_law_X8_setPatience rfl rfl rfl (by decide +kernel) ⟨Nat.le_of_ble_eq_true rfl, Nat.le_of_ble_eq_true rfl⟩) (kx_preV hK hN hMd.1 rfl hMd) rfl rfl hl.1 rfl (lv_room (Nat.le_of_ble_eq_true rfl)) dL_law_276 ⟨hr1.1, hr1.2⟩) hS (fun q _ h => by have h3 := h.1; show L ≤ q; omega) (fun q h => by have h3 := h.1; show L ≤ q; omega) (fun H locs hP hk hS => ?_)
    have hHr := hHr.keepR (H1 := H) (fun q h1 h2 => hk.2 q (by omega) (fun h => by have h3 := h.1; have h4 := h.2; omega))
    have hOu := hOu.kept (hk.2 _ hOu.lt (fun h => by have h3 := h.1; have h4 := h.2; omega))
    have hsz : L + 368 ≤ H.size := Nat.le_trans hsz hk.1
    clear hk
    have hMd : MdC D (cs 0) (L + 360) (upd z 4403 (nI 1)) H := (by have q9 := hP; rw [hw, if_neg (by decide)] at q9; exact q9)
    refine kx_ci (y := nI 0) (if_neg (by rw [hw]; decide)) ?_
    refine lv_istore (lv' := [(6, .int (nI 0)), (5, .int (nI 1)), (4, .int (nI i)), (0, .ref bs), (1, .ref L), (2, .ref (L + 360)), (3, .ref (L + 367))]) hx hb dL_law_279 hl (by decide) rfl (fun ls hl => ?_)
    refine lv_aload_n hx hb dL_law_281 rfl (lv_at hl 5 rfl) ?_
    refine kx_retP (va_runV (As := []) (rest := []) ⟨hx, hb, hml, hown, hts⟩ (k_X8_thrown l D cs (L + 360) (upd z 4403 (nI 1))) (cwV 0 hts gL_law_X8_thrown rfl rfl rfl (by decide +kernel) ⟨Nat.le_of_ble_eq_true rfl, Nat.le_of_ble_eq_true rfl⟩) (kx_preV hK hN hMd.1 rfl hMd) rfl rfl hl.1 rfl (lv_room (Nat.le_of_ble_eq_true rfl)) dL_law_282 ⟨hr1.1, hr1.2⟩) ?_
    refine kx_ci (y := nI 1) (th_thr _) ?_
    refine lv_iload hx hb dL_law_285 (lv_at hl 1 rfl) ?_
    refine lv_icmp_eq (tgt := 292) hx hb dL_law_287 (by decide) (fun _ => ?_) (fun h9 => absurd rfl h9)
    refine lv_iload hx hb dL_law_292 (lv_at hl 1 rfl) ?_
    refine lv_if_ne (tgt := 309) hx hb dL_law_294 (by decide) (fun _ => ?_) (fun h9 => absurd h9 (by decide))
    refine lv_goto (tgt := 1607) hx hb dL_law_309 (by decide) ?_
    exact K _ _ _ _ _ ⟨upd z 4403 (nI 1), _, _, _, _, _, _, _, _, _, _, k9, _, _, _, _, hHr, hOu, hMd, hRA.thr _, hk8, hsz⟩ hS (Nat.le_refl _) (Nat.le_refl _) (lv_sub hl [2, 3, 4, 5, 6] rfl)
  · have hwe := (ev_wpt hEI q1 q2).trans hw
    refine lv_aload_n hx hb dL_law_244 rfl (lv_at hl 2 rfl) ?_
    refine lv_aload_n hx hb dL_law_245 rfl (lv_at hl 1 rfl) ?_
    refine lv_iload hx hb dL_law_246 (lv_at hl 0 rfl) ?_
    refine lv_iconst (v := nI 1) hx hb dL_law_248 (by decide) ?_
    refine kn_add hx hb dL_law_249 ?_
    refine kx_sld (v := q1) hx hb hXs hbl hbA hS (by omega) hN9 hq1 dL_law_250 ?_
    refine lv_aload_n hx hb dL_law_251 rfl (lv_at hl 1 rfl) ?_
    refine lv_iload hx hb dL_law_252 (lv_at hl 0 rfl) ?_
    refine lv_iconst (v := nI 2) hx hb dL_law_254 (by decide) ?_
    refine kn_add hx hb dL_law_255 ?_
    refine kx_sld (v := q2) hx hb hXs hbl hbA hS (by omega) hN9 hq2 dL_law_256 ?_
    refine lv_aload_n hx hb dL_law_257 rfl (lv_at hl 4 rfl) ?_
    refine kx_retN (vx_runSW (As := [.ref L, .int q1, .int q2, .ref (L + 367)]) (rest := []) ⟨hx, hb, hml, hown, hts⟩ (k_L_setPatienceT2 l D cs L e g e1 g1 nx cn se sg bt nn9 (aW k9) ln pa ft q1 q2 hI hwe (L + 367) f (by omega) L (Nat.le_refl L) hfl) (vx_cwSW 4 hts gL_law_L_setPatience rfl rfl rfl (by decide +kernel) ⟨Nat.le_of_ble_eq_true rfl, Nat.le_of_ble_eq_true rfl⟩) (kx_preY hK hN hXK hXN ⟨hHr, hOu⟩) rfl rfl hl.1 rfl (lv_room (Nat.le_of_ble_eq_true rfl)) dL_law_258 hr1) hS (fun q _ h => rg_lo h) (fun q h => rg_lo h) (fun H locs hP hk hS => ?_)
    obtain ⟨hHr, hOu⟩ := hP
    have hHr : HrC D cs L e g e1 g1 nx cn se sg bt nn9 (aW k9) ln pa ft H := hHr
    have hMd := hMd.frame hk (fun q h1 h2 h => by rcases h with h | h <;> omega)
    have hsz : L + 368 ≤ H.size := Nat.le_trans hsz hk.1
    clear hk hXK hKW
    refine lv_istore (lv' := [(5, .int (nI 2)), (4, .int (nI i)), (0, .ref bs), (1, .ref L), (2, .ref (L + 360)), (3, .ref (L + 367))]) hx hb dL_law_261 hl (by decide) rfl (fun ls hl => ?_)
    refine lv_aload_n hx hb dL_law_263 rfl (lv_at hl 4 rfl) ?_
    refine lv_aload_n hx hb dL_law_264 rfl (lv_at hl 2 rfl) ?_
    refine lv_iload hx hb dL_law_265 (lv_at hl 1 rfl) ?_
    refine lv_iconst (v := nI 1) hx hb dL_law_267 (by decide) ?_
    refine kn_add hx hb dL_law_268 ?_
    refine kx_sld (v := q1) hx hb hXs hbl hbA hS (by omega) hN9 hq1 dL_law_269 ?_
    refine lv_aload_n hx hb dL_law_270 rfl (lv_at hl 2 rfl) ?_
    refine lv_iload hx hb dL_law_271 (lv_at hl 1 rfl) ?_
    refine lv_iconst (v := nI 2) hx hb dL_law_273 (by decide) ?_
    refine kn_add hx hb dL_law_274 ?_
    refine kx_sld (v := q2) hx hb hXs hbl hbA hS (by omega) hN9 hq2 dL_law_275 ?_
    refine kx_retM (va_runV (As := [.int q1, .int q2]) (rest := []) ⟨hx, hb, hml, hown, hts⟩ (k_X8_setPatience l D cs (L + 360) z q1 q2 hZ) (cwV 2 hts gL_law_X8_setPatience rfl rfl rfl (by decide +kernel) ⟨Nat.le_of_ble_eq_true rfl, Nat.le_of_ble_eq_true rfl⟩) (kx_preV hK hN hMd.1 rfl hMd) rfl rfl hl.1 rfl (lv_room (Nat.le_of_ble_eq_true rfl)) dL_law_276 ⟨hr1.1, hr1.2⟩) hS (fun q _ h => by have h3 := h.1; show L ≤ q; omega) (fun q h => by have h3 := h.1; show L ≤ q; omega) (fun H locs hP hk hS => ?_)
    have hHr := hHr.keepR (H1 := H) (fun q h1 h2 => hk.2 q (by omega) (fun h => by have h3 := h.1; have h4 := h.2; omega))
    have hOu := hOu.kept (hk.2 _ hOu.lt (fun h => by have h3 := h.1; have h4 := h.2; omega))
    have hsz : L + 368 ≤ H.size := Nat.le_trans hsz hk.1
    clear hk
    have hMd : MdC D (cs 0) (L + 360) (upd z 4403 (nI 2)) H := (by have q9 := hP; rw [hw, if_neg (by decide)] at q9; exact q9)
    refine kx_ci (y := nI 0) (if_neg (by rw [hw]; decide)) ?_
    refine lv_istore (lv' := [(6, .int (nI 0)), (5, .int (nI 2)), (4, .int (nI i)), (0, .ref bs), (1, .ref L), (2, .ref (L + 360)), (3, .ref (L + 367))]) hx hb dL_law_279 hl (by decide) rfl (fun ls hl => ?_)
    refine lv_aload_n hx hb dL_law_281 rfl (lv_at hl 5 rfl) ?_
    refine kx_retP (va_runV (As := []) (rest := []) ⟨hx, hb, hml, hown, hts⟩ (k_X8_thrown l D cs (L + 360) (upd z 4403 (nI 2))) (cwV 0 hts gL_law_X8_thrown rfl rfl rfl (by decide +kernel) ⟨Nat.le_of_ble_eq_true rfl, Nat.le_of_ble_eq_true rfl⟩) (kx_preV hK hN hMd.1 rfl hMd) rfl rfl hl.1 rfl (lv_room (Nat.le_of_ble_eq_true rfl)) dL_law_282 ⟨hr1.1, hr1.2⟩) ?_
    refine kx_ci (y := nI 2) (th_thr _) ?_
    refine lv_iload hx hb dL_law_285 (lv_at hl 1 rfl) ?_
    refine lv_icmp_eq (tgt := 292) hx hb dL_law_287 (by decide) (fun _ => ?_) (fun h9 => absurd rfl h9)
    refine lv_iload hx hb dL_law_292 (lv_at hl 1 rfl) ?_
    refine lv_if_ne (tgt := 309) hx hb dL_law_294 (by decide) (fun _ => ?_) (fun h9 => absurd h9 (by decide))
    refine lv_goto (tgt := 1607) hx hb dL_law_309 (by decide) ?_
    exact K _ _ _ _ _ ⟨upd z 4403 (nI 2), _, _, _, _, _, _, _, _, _, _, k9, _, _, _, _, hHr, hOu, hMd, hRA.thr _, hk8, hsz⟩ hS (Nat.le_refl _) (Nat.le_refl _) (lv_sub hl [2, 3, 4, 5, 6] rfl)
set_option maxHeartbeats 2500000 in
set_option maxRecDepth 100000 in
theorem cs_set {p : Program} {l : Launch} {en : Env} {s : State} {m : MethodId} {below : List Frame} {meth : Method} {c : Code} {D : va_G} {cs : Nat → ClassId} {L : Nat} {aW aS aV : Nat → Nat} {tW tM bs N : Nat} {xs : Nat → Int32} {Q : State → Prop} (G : LwG p l s m c D cs L aW aS aV tW tM bs N xs) {i : Nat} (hi : i + 6 ≤ N) {H : Heap} {locs : List Loc} {cells slots : Nat} (hr : cells + 1 ≤ 601024 ∧ slots + 6 ≤ 7293034) (W0 : LwD D cs L aW H) (hS : va_S (fun q : Nat => L ≤ q) s.heap H locs) {ls : Array Slot} (hl : lv_has ls 8 [(4, .int (nI i)), (0, .ref bs), (1, .ref L), (2, .ref (L + 360)), (3, .ref (L + 367))])
  (K : ∀ (H : Heap) (locs : List Loc) (c1 s1 : Nat) (ls : Array Slot), LwD D cs L aW H → va_S (fun q : Nat => L ≤ q) s.heap H locs → c1 ≤ cells + 1 → s1 ≤ slots + 6 → lv_has ls 8 [(4, .int (nI i)), (0, .ref bs), (1, .ref L), (2, .ref (L + 360)), (3, .ref (L + 367))] → W p l en room_1 s m #[Value.ref bs] below meth c H locs c1 s1 Q (F0 m 1607 ls [])) :
  W p l en room_1 s m #[Value.ref bs] below meth c H locs cells slots Q (F0 m 312 ls []) := by
  obtain ⟨hx, hb, hml, hown, hts, hK, hN, hKW0, hXK0, hXN, hXs, hbl, hLs, hN9, hfl⟩ := G
  obtain ⟨z, e, g, e1, g1, nx, cn, se, sg, bt, nn9, k9, ln, pa, ft, f, hHr, hOu, hMd, hRA, hk8, hsz⟩ := W0
  have hbA : ¬ (fun q : Nat => L ≤ q) bs := by show ¬ L ≤ bs; omega
  have hr0 : cells + 0 ≤ room_1.cells ∧ slots + 0 ≤ room_1.slots := ⟨by show cells + 0 ≤ 601024; omega, by show slots + 0 ≤ 7293034; omega⟩
  have hr1 : cells + 1 ≤ room_1.cells ∧ slots + 6 ≤ room_1.slots := hr
  have hI := ev_R hRA.1
  have hG := hRA.2.1
  have hnx := hRA.2.2.1.1.2.1
  have hcn := hRA.2.2.1.1.2.2
  have hZ := hRA.invZ
  have hl150 := hRA.2.2.2.2.1
  have hsv0 := ra_sv hRA
  have hEI := hRA.1
  have hRR := EI.R hRA.1
  have hMM := EI.M hRA.1
  have hTl := hRA.tl
  have hSv := hRA.sv
  have h24 := hI.M24
  have h6 := hI.R6
  have hXK := hXK0.kept (H1 := H) (fun a h1 h2 => hS.2.1 a h1 h2)
  have hKW := hKW0.kept (H1 := H) (fun a h1 h2 => hS.2.1 a h1 h2)
  obtain ⟨q1, hq1⟩ : ∃ q : Int32, q = xs (i + 1) := ⟨_, rfl⟩
  obtain ⟨q2, hq2⟩ : ∃ q : Int32, q = xs (i + 2) := ⟨_, rfl⟩
  rcases (show wse q1 q2 = 0 ∨ wse q1 q2 = 1 by have h9 := wse_3 (x := q1) (y := q2); omega) with hw | hw
  · obtain ⟨r, rfl, hr2, hee, hRs⟩ := hRA.sSet hw
    refine lv_aload_n hx hb dL_law_312 rfl (lv_at hl 2 rfl) ?_
    refine lv_aload_n hx hb dL_law_313 rfl (lv_at hl 1 rfl) ?_
    refine lv_iload hx hb dL_law_314 (lv_at hl 0 rfl) ?_
    refine lv_iconst (v := nI 1) hx hb dL_law_316 (by decide) ?_
    refine kn_add hx hb dL_law_317 ?_
    refine kx_sld (v := nI r) hx hb hXs hbl hbA hS (by omega) hN9 hq1 dL_law_318 ?_
    refine lv_aload_n hx hb dL_law_319 rfl (lv_at hl 1 rfl) ?_
    refine lv_iload hx hb dL_law_320 (lv_at hl 0 rfl) ?_
    refine lv_iconst (v := nI 2) hx hb dL_law_322 (by decide) ?_
    refine kn_add hx hb dL_law_323 ?_
    refine kx_sld (v := q2) hx hb hXs hbl hbA hS (by omega) hN9 hq2 dL_law_324 ?_
    refine lv_aload_n hx hb dL_law_325 rfl (lv_at hl 4 rfl) ?_
    refine kx_retM (vx_runSW (As := [.ref L, .int (nI r), .int q2, .ref (L + 367)]) (rest := []) ⟨hx, hb, hml, hown, hts⟩ (k_L_set l D cs L e g e1 g1 nx cn se sg bt nn9 (aW k9) ln pa ft r q2 hI hnx hcn hw hr2 (L + 367) f (by omega) L (Nat.le_refl L) hfl) (vx_cwSW 4 hts gL_law_L_set rfl rfl rfl (by decide +kernel) ⟨Nat.le_of_ble_eq_true rfl, Nat.le_of_ble_eq_true rfl⟩) (kx_preY hK hN hXK hXN ⟨hHr, hOu⟩) rfl rfl hl.1 rfl (lv_room (Nat.le_of_ble_eq_true rfl)) dL_law_326 hr0) hS (fun q _ h => rg_lo h) (fun q h => rg_lo h) (fun H locs hP hk hS => ?_)
    obtain ⟨hHr, hOu⟩ := hP
    have hHr : HrC D cs L (upd e (1 + r) q2) g e1 g1 ((nx + 1) % 4) (min (cn + 1) 4) (hsE se nx (cfF (se nx) e)) (hsG sg nx (cgM (sg nx) g (Mn e))) bt nn9 (aW k9) ln pa ft H := hHr
    have hMd := hMd.frame hk (fun q h1 h2 h => by rcases h with h | h <;> omega)
    have hsz : L + 368 ≤ H.size := Nat.le_trans hsz hk.1
    clear hk hXK hKW
    refine lv_istore (lv' := [(5, .int (nI 0)), (4, .int (nI i)), (0, .ref bs), (1, .ref L), (2, .ref (L + 360)), (3, .ref (L + 367))]) hx hb dL_law_329 hl (by decide) rfl (fun ls hl => ?_)
    refine lv_aload_n hx hb dL_law_331 rfl (lv_at hl 4 rfl) ?_
    refine lv_aload_n hx hb dL_law_332 rfl (lv_at hl 2 rfl) ?_
    refine lv_iload hx hb dL_law_333 (lv_at hl 1 rfl) ?_
    refine lv_iconst (v := nI 1) hx hb dL_law_335 (by decide) ?_
    refine kn_add hx hb dL_law_336 ?_
    refine kx_sld (v := nI r) hx hb hXs hbl hbA hS (by omega) hN9 hq1 dL_law_337 ?_
    refine lv_aload_n hx hb dL_law_338 rfl (lv_at hl 2 rfl) ?_
    refine lv_iload hx hb dL_law_339 (lv_at hl 1 rfl) ?_
    refine lv_iconst (v := nI 2) hx hb dL_law_341 (by decide) ?_
    refine kn_add hx hb dL_law_342 ?_
    refine kx_sld (v := q2) hx hb hXs hbl hbA hS (by omega) hN9 hq2 dL_law_343 ?_
    refine kx_retM (va_runV (As := [.int (nI r), .int q2]) (rest := []) ⟨hx, hb, hml, hown, hts⟩ (k_X8_set l D cs (L + 360) z (nI r) q2 hZ) (cwV 2 hts gL_law_X8_set rfl rfl rfl (by decide +kernel) ⟨Nat.le_of_ble_eq_true rfl, Nat.le_of_ble_eq_true rfl⟩) (kx_preV hK hN hMd.1 rfl hMd) rfl rfl hl.1 rfl (lv_room (Nat.le_of_ble_eq_true rfl)) dL_law_344 hr0) hS (fun q _ h => by have h3 := h.1; show L ≤ q; omega) (fun q h => by have h3 := h.1; show L ≤ q; omega) (fun H locs hP hk hS => ?_)
    have hHr := hHr.keepR (H1 := H) (fun q h1 h2 => hk.2 q (by omega) (fun h => by have h3 := h.1; have h4 := h.2; omega))
    have hOu := hOu.kept (hk.2 _ hOu.lt (fun h => by have h3 := h.1; have h4 := h.2; omega))
    have hsz : L + 368 ≤ H.size := Nat.le_trans hsz hk.1
    clear hk
    have hMd : MdC D (cs 0) (L + 360) (upd (svT z) (1 + r) q2) H := (by have q9 := hP; rw [if_pos hw, nn_nI (by omega)] at q9; exact q9)
    refine kx_ci (y := e (1 + r)) (by rw [if_pos hw, nn_nI (by omega), hee]) ?_
    refine lv_istore (lv' := [(6, .int (e (1 + r))), (5, .int (nI 0)), (4, .int (nI i)), (0, .ref bs), (1, .ref L), (2, .ref (L + 360)), (3, .ref (L + 367))]) hx hb dL_law_347 hl (by decide) rfl (fun ls hl => ?_)
    refine lv_aload_n hx hb dL_law_349 rfl (lv_at hl 5 rfl) ?_
    refine kx_retP (va_runV (As := []) (rest := []) ⟨hx, hb, hml, hown, hts⟩ (k_X8_thrown l D cs (L + 360) (upd (svT z) (1 + r) q2)) (cwV 0 hts gL_law_X8_thrown rfl rfl rfl (by decide +kernel) ⟨Nat.le_of_ble_eq_true rfl, Nat.le_of_ble_eq_true rfl⟩) (kx_preV hK hN hMd.1 rfl hMd) rfl rfl hl.1 rfl (lv_room (Nat.le_of_ble_eq_true rfl)) dL_law_350 hr0) ?_
    refine kx_ci (y := nI 0) ((fr_upd (svT z) (by omega) q2 4403 (by omega)).trans hsv0) ?_
    refine lv_iload hx hb dL_law_353 (lv_at hl 1 rfl) ?_
    refine lv_icmp_eq (tgt := 360) hx hb dL_law_355 (by decide) (fun _ => ?_) (fun h9 => absurd rfl h9)
    refine lv_iload hx hb dL_law_360 (lv_at hl 1 rfl) ?_
    refine lv_if_ne (tgt := 377) hx hb dL_law_362 (by decide) (fun h9 => absurd (show nI 0 = 0 by decide) h9) (fun _ => ?_)
    refine lv_aload_n hx hb dL_law_365 rfl (lv_at hl 6 rfl) ?_
    refine lv_iconst (v := nI 0) hx hb dL_law_366 (by decide) ?_
    refine kx_lald hx hb hK hOu 5 rfl (i := 0) (by decide) (by decide) dL_law_367 ?_
    refine kx_cl (y := (e (1 + r)).toInt64) (vp_upd0 _ _) ?_
    refine lv_iload hx hb dL_law_368 (lv_at hl 0 rfl) ?_
    refine lv_i2l hx hb dL_law_370 rfl ?_
    refine W.lcmp hx hb dL_law_371 ?_
    refine kl_if_eq (tgt := 377) hx hb dL_law_372 (by decide) (fun _ => ?_) (fun h9 => absurd rfl h9)
    refine lv_goto (tgt := 1607) hx hb dL_law_377 (by decide) ?_
    exact K _ _ _ _ _ ⟨upd (svT z) (1 + r) q2, _, _, _, _, _, _, _, _, _, _, k9, _, _, _, _, hHr, hOu, hMd, hRs, hk8, hsz⟩ hS (Nat.le_add_right _ _) (Nat.le_add_right _ _) (lv_sub hl [2, 3, 4, 5, 6] rfl)
  · have hwe : c12 (wse q1 q2) = 2 := by rw [hw]; rfl
    refine lv_aload_n hx hb dL_law_312 rfl (lv_at hl 2 rfl) ?_
    refine lv_aload_n hx hb dL_law_313 rfl (lv_at hl 1 rfl) ?_
    refine lv_iload hx hb dL_law_314 (lv_at hl 0 rfl) ?_
    refine lv_iconst (v := nI 1) hx hb dL_law_316 (by decide) ?_
    refine kn_add hx hb dL_law_317 ?_
    refine kx_sld (v := q1) hx hb hXs hbl hbA hS (by omega) hN9 hq1 dL_law_318 ?_
    refine lv_aload_n hx hb dL_law_319 rfl (lv_at hl 1 rfl) ?_
    refine lv_iload hx hb dL_law_320 (lv_at hl 0 rfl) ?_
    refine lv_iconst (v := nI 2) hx hb dL_law_322 (by decide) ?_
    refine kn_add hx hb dL_law_323 ?_
    refine kx_sld (v := q2) hx hb hXs hbl hbA hS (by omega) hN9 hq2 dL_law_324 ?_
    refine lv_aload_n hx hb dL_law_325 rfl (lv_at hl 4 rfl) ?_
    refine kx_retN (vx_runSW (As := [.ref L, .int q1, .int q2, .ref (L + 367)]) (rest := []) ⟨hx, hb, hml, hown, hts⟩ (k_L_setT2 l D cs L e g e1 g1 nx cn se sg bt nn9 (aW k9) ln pa ft q1 q2 hwe (L + 367) f (by omega) L (Nat.le_refl L) hfl) (vx_cwSW 4 hts gL_law_L_set rfl rfl rfl (by decide +kernel) ⟨Nat.le_of_ble_eq_true rfl, Nat.le_of_ble_eq_true rfl⟩) (kx_preY hK hN hXK hXN ⟨hHr, hOu⟩) rfl rfl hl.1 rfl (lv_room (Nat.le_of_ble_eq_true rfl)) dL_law_326 hr1) hS (fun q _ h => rg_lo h) (fun q h => rg_lo h) (fun H locs hP hk hS => ?_)
    obtain ⟨hHr, hOu⟩ := hP
    have hHr : HrC D cs L e g e1 g1 nx cn se sg bt nn9 (aW k9) ln pa ft H := hHr
    have hMd := hMd.frame hk (fun q h1 h2 h => by rcases h with h | h <;> omega)
    have hsz : L + 368 ≤ H.size := Nat.le_trans hsz hk.1
    clear hk hXK hKW
    refine lv_istore (lv' := [(5, .int (nI 1)), (4, .int (nI i)), (0, .ref bs), (1, .ref L), (2, .ref (L + 360)), (3, .ref (L + 367))]) hx hb dL_law_329 hl (by decide) rfl (fun ls hl => ?_)
    refine lv_aload_n hx hb dL_law_331 rfl (lv_at hl 4 rfl) ?_
    refine lv_aload_n hx hb dL_law_332 rfl (lv_at hl 2 rfl) ?_
    refine lv_iload hx hb dL_law_333 (lv_at hl 1 rfl) ?_
    refine lv_iconst (v := nI 1) hx hb dL_law_335 (by decide) ?_
    refine kn_add hx hb dL_law_336 ?_
    refine kx_sld (v := q1) hx hb hXs hbl hbA hS (by omega) hN9 hq1 dL_law_337 ?_
    refine lv_aload_n hx hb dL_law_338 rfl (lv_at hl 2 rfl) ?_
    refine lv_iload hx hb dL_law_339 (lv_at hl 1 rfl) ?_
    refine lv_iconst (v := nI 2) hx hb dL_law_341 (by decide) ?_
    refine kn_add hx hb dL_law_342 ?_
    refine kx_sld (v := q2) hx hb hXs hbl hbA hS (by omega) hN9 hq2 dL_law_343 ?_
    refine kx_retM (va_runV (As := [.int q1, .int q2]) (rest := []) ⟨hx, hb, hml, hown, hts⟩ (k_X8_set l D cs (L + 360) z q1 q2 hZ) (cwV 2 hts gL_law_X8_set rfl rfl rfl (by decide +kernel) ⟨Nat.le_of_ble_eq_true rfl, Nat.le_of_ble_eq_true rfl⟩) (kx_preV hK hN hMd.1 rfl hMd) rfl rfl hl.1 rfl (lv_room (Nat.le_of_ble_eq_true rfl)) dL_law_344 ⟨hr1.1, hr1.2⟩) hS (fun q _ h => by have h3 := h.1; show L ≤ q; omega) (fun q h => by have h3 := h.1; show L ≤ q; omega) (fun H locs hP hk hS => ?_)
    have hHr := hHr.keepR (H1 := H) (fun q h1 h2 => hk.2 q (by omega) (fun h => by have h3 := h.1; have h4 := h.2; omega))
    have hOu := hOu.kept (hk.2 _ hOu.lt (fun h => by have h3 := h.1; have h4 := h.2; omega))
    have hsz : L + 368 ≤ H.size := Nat.le_trans hsz hk.1
    clear hk
    have hMd : MdC D (cs 0) (L + 360) (upd z 4403 (nI 1)) H := (by have q9 := hP; rw [hw, if_neg (by decide)] at q9; exact q9)
    refine kx_ci (y := nI 0) (if_neg (by rw [hw]; decide)) ?_
    refine lv_istore (lv' := [(6, .int (nI 0)), (5, .int (nI 1)), (4, .int (nI i)), (0, .ref bs), (1, .ref L), (2, .ref (L + 360)), (3, .ref (L + 367))]) hx hb dL_law_347 hl (by decide) rfl (fun ls hl => ?_)
    refine lv_aload_n hx hb dL_law_349 rfl (lv_at hl 5 rfl) ?_
    refine kx_retP (va_runV (As := []) (rest := []) ⟨hx, hb, hml, hown, hts⟩ (k_X8_thrown l D cs (L + 360) (upd z 4403 (nI 1))) (cwV 0 hts gL_law_X8_thrown rfl rfl rfl (by decide +kernel) ⟨Nat.le_of_ble_eq_true rfl, Nat.le_of_ble_eq_true rfl⟩) (kx_preV hK hN hMd.1 rfl hMd) rfl rfl hl.1 rfl (lv_room (Nat.le_of_ble_eq_true rfl)) dL_law_350 ⟨hr1.1, hr1.2⟩) ?_
    refine kx_ci (y := nI 1) (th_thr _) ?_
    refine lv_iload hx hb dL_law_353 (lv_at hl 1 rfl) ?_
    refine lv_icmp_eq (tgt := 360) hx hb dL_law_355 (by decide) (fun _ => ?_) (fun h9 => absurd rfl h9)
    refine lv_iload hx hb dL_law_360 (lv_at hl 1 rfl) ?_
    refine lv_if_ne (tgt := 377) hx hb dL_law_362 (by decide) (fun _ => ?_) (fun h9 => absurd h9 (by decide))
    refine lv_goto (tgt := 1607) hx hb dL_law_377 (by decide) ?_
    exact K _ _ _ _ _ ⟨upd z 4403 (nI 1), _, _, _, _, _, _, _, _, _, _, k9, _, _, _, _, hHr, hOu, hMd, hRA.thr _, hk8, hsz⟩ hS (Nat.le_refl _) (Nat.le_refl _) (lv_sub hl [2, 3, 4, 5, 6] rfl)
set_option maxHeartbeats 2500000 in
set_option maxRecDepth 100000 in
theorem cs_write {p : Program} {l : Launch} {en : Env} {s : State} {m : MethodId} {below : List Frame} {meth : Method} {c : Code} {D : va_G} {cs : Nat → ClassId} {L : Nat} {aW aS aV : Nat → Nat} {tW tM bs N : Nat} {xs : Nat → Int32} {Q : State → Prop} (G : LwG p l s m c D cs L aW aS aV tW tM bs N xs) {i : Nat} (hi : i + 6 ≤ N) {H : Heap} {locs : List Loc} {cells slots : Nat} (hr : cells + 1 ≤ 601024 ∧ slots + 6 ≤ 7293034) (W0 : LwD D cs L aW H) (hS : va_S (fun q : Nat => L ≤ q) s.heap H locs) {ls : Array Slot} (hl : lv_has ls 8 [(4, .int (nI i)), (0, .ref bs), (1, .ref L), (2, .ref (L + 360)), (3, .ref (L + 367))])
  (K : ∀ (H : Heap) (locs : List Loc) (c1 s1 : Nat) (ls : Array Slot), LwD D cs L aW H → va_S (fun q : Nat => L ≤ q) s.heap H locs → c1 ≤ cells + 1 → s1 ≤ slots + 6 → lv_has ls 8 [(4, .int (nI i)), (0, .ref bs), (1, .ref L), (2, .ref (L + 360)), (3, .ref (L + 367))] → W p l en room_1 s m #[Value.ref bs] below meth c H locs c1 s1 Q (F0 m 1607 ls [])) :
  W p l en room_1 s m #[Value.ref bs] below meth c H locs cells slots Q (F0 m 380 ls []) := by
  obtain ⟨hx, hb, hml, hown, hts, hK, hN, hKW0, hXK0, hXN, hXs, hbl, hLs, hN9, hfl⟩ := G
  obtain ⟨z, e, g, e1, g1, nx, cn, se, sg, bt, nn9, k9, ln, pa, ft, f, hHr, hOu, hMd, hRA, hk8, hsz⟩ := W0
  have hbA : ¬ (fun q : Nat => L ≤ q) bs := by show ¬ L ≤ bs; omega
  have hr0 : cells + 0 ≤ room_1.cells ∧ slots + 0 ≤ room_1.slots := ⟨by show cells + 0 ≤ 601024; omega, by show slots + 0 ≤ 7293034; omega⟩
  have hr1 : cells + 1 ≤ room_1.cells ∧ slots + 6 ≤ room_1.slots := hr
  have hI := ev_R hRA.1
  have hG := hRA.2.1
  have hnx := hRA.2.2.1.1.2.1
  have hcn := hRA.2.2.1.1.2.2
  have hZ := hRA.invZ
  have hl150 := hRA.2.2.2.2.1
  have hsv0 := ra_sv hRA
  have hEI := hRA.1
  have hRR := EI.R hRA.1
  have hMM := EI.M hRA.1
  have hTl := hRA.tl
  have hSv := hRA.sv
  have h24 := hI.M24
  have h6 := hI.R6
  have hXK := hXK0.kept (H1 := H) (fun a h1 h2 => hS.2.1 a h1 h2)
  have hKW := hKW0.kept (H1 := H) (fun a h1 h2 => hS.2.1 a h1 h2)
  obtain ⟨q1, hq1⟩ : ∃ q : Int32, q = xs (i + 1) := ⟨_, rfl⟩
  obtain ⟨q2, hq2⟩ : ∃ q : Int32, q = xs (i + 2) := ⟨_, rfl⟩
  rcases (show wwr z q1 q2 = 0 ∨ wwr z q1 q2 = 1 ∨ wwr z q1 q2 = 2 ∨ wwr z q1 q2 = 3 by have h9 := wwr_4 z q1 q2; omega) with hw | hw | hw | hw
  · obtain ⟨r, rfl, hr48, hwe, hee, hRs⟩ := hRA.sWrite hw
    refine lv_aload_n hx hb dL_law_380 rfl (lv_at hl 2 rfl) ?_
    refine lv_aload_n hx hb dL_law_381 rfl (lv_at hl 1 rfl) ?_
    refine lv_iload hx hb dL_law_382 (lv_at hl 0 rfl) ?_
    refine lv_iconst (v := nI 1) hx hb dL_law_384 (by decide) ?_
    refine kn_add hx hb dL_law_385 ?_
    refine kx_sld (v := nI r) hx hb hXs hbl hbA hS (by omega) hN9 hq1 dL_law_386 ?_
    refine lv_aload_n hx hb dL_law_387 rfl (lv_at hl 1 rfl) ?_
    refine lv_iload hx hb dL_law_388 (lv_at hl 0 rfl) ?_
    refine lv_iconst (v := nI 2) hx hb dL_law_390 (by decide) ?_
    refine kn_add hx hb dL_law_391 ?_
    refine kx_sld (v := q2) hx hb hXs hbl hbA hS (by omega) hN9 hq2 dL_law_392 ?_
    refine lv_aload_n hx hb dL_law_393 rfl (lv_at hl 4 rfl) ?_
    refine kx_retM (vx_runSW (As := [.ref L, .int (nI r), .int q2, .ref (L + 367)]) (rest := []) ⟨hx, hb, hml, hown, hts⟩ (k_L_write l D cs L e g e1 g1 nx cn se sg bt nn9 (aW k9) ln pa ft r q2 hI hG hnx hcn hwe hr48 (L + 367) f (by omega) L (Nat.le_refl L) hfl) (vx_cwSW 4 hts gL_law_L_write rfl rfl rfl (by decide +kernel) ⟨Nat.le_of_ble_eq_true rfl, Nat.le_of_ble_eq_true rfl⟩) (kx_preY hK hN hXK hXN ⟨hHr, hOu⟩) rfl rfl hl.1 rfl (lv_room (Nat.le_of_ble_eq_true rfl)) dL_law_394 hr0) hS (fun q _ h => rg_lo h) (fun q h => rg_lo h) (fun H locs hP hk hS => ?_)
    obtain ⟨hHr, hOu⟩ := hP
    have hHr : HrC D cs L (upd e (8 + r) q2) g e1 g1 ((nx + 1) % 4) (min (cn + 1) 4) (hsE se nx (cfF (se nx) e)) (hsG sg nx (cgM (sg nx) g (Mn e))) bt nn9 (aW k9) ln pa ft H := hHr
    have hMd := hMd.frame hk (fun q h1 h2 h => by rcases h with h | h <;> omega)
    have hsz : L + 368 ≤ H.size := Nat.le_trans hsz hk.1
    clear hk hXK hKW
    refine lv_istore (lv' := [(5, .int (nI 0)), (4, .int (nI i)), (0, .ref bs), (1, .ref L), (2, .ref (L + 360)), (3, .ref (L + 367))]) hx hb dL_law_397 hl (by decide) rfl (fun ls hl => ?_)
    refine lv_aload_n hx hb dL_law_399 rfl (lv_at hl 4 rfl) ?_
    refine lv_aload_n hx hb dL_law_400 rfl (lv_at hl 2 rfl) ?_
    refine lv_iload hx hb dL_law_401 (lv_at hl 1 rfl) ?_
    refine lv_iconst (v := nI 1) hx hb dL_law_403 (by decide) ?_
    refine kn_add hx hb dL_law_404 ?_
    refine kx_sld (v := nI r) hx hb hXs hbl hbA hS (by omega) hN9 hq1 dL_law_405 ?_
    refine lv_aload_n hx hb dL_law_406 rfl (lv_at hl 2 rfl) ?_
    refine lv_iload hx hb dL_law_407 (lv_at hl 1 rfl) ?_
    refine lv_iconst (v := nI 2) hx hb dL_law_409 (by decide) ?_
    refine kn_add hx hb dL_law_410 ?_
    refine kx_sld (v := q2) hx hb hXs hbl hbA hS (by omega) hN9 hq2 dL_law_411 ?_
    refine kx_retM (va_runV (As := [.int (nI r), .int q2]) (rest := []) ⟨hx, hb, hml, hown, hts⟩ (k_X8_write l D cs (L + 360) z (nI r) q2 hZ) (cwV 2 hts gL_law_X8_write rfl rfl rfl (by decide +kernel) ⟨Nat.le_of_ble_eq_true rfl, Nat.le_of_ble_eq_true rfl⟩) (kx_preV hK hN hMd.1 rfl hMd) rfl rfl hl.1 rfl (lv_room (Nat.le_of_ble_eq_true rfl)) dL_law_412 hr0) hS (fun q _ h => by have h3 := h.1; show L ≤ q; omega) (fun q h => by have h3 := h.1; show L ≤ q; omega) (fun H locs hP hk hS => ?_)
    have hHr := hHr.keepR (H1 := H) (fun q h1 h2 => hk.2 q (by omega) (fun h => by have h3 := h.1; have h4 := h.2; omega))
    have hOu := hOu.kept (hk.2 _ hOu.lt (fun h => by have h3 := h.1; have h4 := h.2; omega))
    have hsz : L + 368 ≤ H.size := Nat.le_trans hsz hk.1
    clear hk
    have hMd : MdC D (cs 0) (L + 360) (upd (svT z) (8 + r) q2) H := (by have q9 := hP; rw [if_pos hw, nn_nI (by omega)] at q9; exact q9)
    refine kx_ci (y := e (8 + r)) (by rw [if_pos hw, nn_nI (by omega), hee]) ?_
    refine lv_istore (lv' := [(6, .int (e (8 + r))), (5, .int (nI 0)), (4, .int (nI i)), (0, .ref bs), (1, .ref L), (2, .ref (L + 360)), (3, .ref (L + 367))]) hx hb dL_law_415 hl (by decide) rfl (fun ls hl => ?_)
    refine lv_aload_n hx hb dL_law_417 rfl (lv_at hl 5 rfl) ?_
    refine kx_retP (va_runV (As := []) (rest := []) ⟨hx, hb, hml, hown, hts⟩ (k_X8_thrown l D cs (L + 360) (upd (svT z) (8 + r) q2)) (cwV 0 hts gL_law_X8_thrown rfl rfl rfl (by decide +kernel) ⟨Nat.le_of_ble_eq_true rfl, Nat.le_of_ble_eq_true rfl⟩) (kx_preV hK hN hMd.1 rfl hMd) rfl rfl hl.1 rfl (lv_room (Nat.le_of_ble_eq_true rfl)) dL_law_418 hr0) ?_
    refine kx_ci (y := nI 0) ((fr_upd (svT z) (by omega) q2 4403 (by omega)).trans hsv0) ?_
    refine lv_iload hx hb dL_law_421 (lv_at hl 1 rfl) ?_
    refine lv_icmp_eq (tgt := 428) hx hb dL_law_423 (by decide) (fun _ => ?_) (fun h9 => absurd rfl h9)
    refine lv_iload hx hb dL_law_428 (lv_at hl 1 rfl) ?_
    refine lv_if_ne (tgt := 445) hx hb dL_law_430 (by decide) (fun h9 => absurd (show nI 0 = 0 by decide) h9) (fun _ => ?_)
    refine lv_aload_n hx hb dL_law_433 rfl (lv_at hl 6 rfl) ?_
    refine lv_iconst (v := nI 0) hx hb dL_law_434 (by decide) ?_
    refine kx_lald hx hb hK hOu 5 rfl (i := 0) (by decide) (by decide) dL_law_435 ?_
    refine kx_cl (y := (e (8 + r)).toInt64) (vp_upd0 _ _) ?_
    refine lv_iload hx hb dL_law_436 (lv_at hl 0 rfl) ?_
    refine lv_i2l hx hb dL_law_438 rfl ?_
    refine W.lcmp hx hb dL_law_439 ?_
    refine kl_if_eq (tgt := 445) hx hb dL_law_440 (by decide) (fun _ => ?_) (fun h9 => absurd rfl h9)
    refine lv_goto (tgt := 1607) hx hb dL_law_445 (by decide) ?_
    exact K _ _ _ _ _ ⟨upd (svT z) (8 + r) q2, _, _, _, _, _, _, _, _, _, _, k9, _, _, _, _, hHr, hOu, hMd, hRs, hk8, hsz⟩ hS (Nat.le_add_right _ _) (Nat.le_add_right _ _) (lv_sub hl [2, 3, 4, 5, 6] rfl)
  · have hwe := (hRA.e_wwr q1 q2).trans hw
    refine lv_aload_n hx hb dL_law_380 rfl (lv_at hl 2 rfl) ?_
    refine lv_aload_n hx hb dL_law_381 rfl (lv_at hl 1 rfl) ?_
    refine lv_iload hx hb dL_law_382 (lv_at hl 0 rfl) ?_
    refine lv_iconst (v := nI 1) hx hb dL_law_384 (by decide) ?_
    refine kn_add hx hb dL_law_385 ?_
    refine kx_sld (v := q1) hx hb hXs hbl hbA hS (by omega) hN9 hq1 dL_law_386 ?_
    refine lv_aload_n hx hb dL_law_387 rfl (lv_at hl 1 rfl) ?_
    refine lv_iload hx hb dL_law_388 (lv_at hl 0 rfl) ?_
    refine lv_iconst (v := nI 2) hx hb dL_law_390 (by decide) ?_
    refine kn_add hx hb dL_law_391 ?_
    refine kx_sld (v := q2) hx hb hXs hbl hbA hS (by omega) hN9 hq2 dL_law_392 ?_
    refine lv_aload_n hx hb dL_law_393 rfl (lv_at hl 4 rfl) ?_
    refine kx_retN (vx_runSW (As := [.ref L, .int q1, .int q2, .ref (L + 367)]) (rest := []) ⟨hx, hb, hml, hown, hts⟩ (k_L_writeT1 l D cs L e g e1 g1 nx cn se sg bt nn9 (aW k9) ln pa ft q1 q2 hI hG hwe (L + 367) f (by omega) L (Nat.le_refl L) hfl) (vx_cwSW 4 hts gL_law_L_write rfl rfl rfl (by decide +kernel) ⟨Nat.le_of_ble_eq_true rfl, Nat.le_of_ble_eq_true rfl⟩) (kx_preY hK hN hXK hXN ⟨hHr, hOu⟩) rfl rfl hl.1 rfl (lv_room (Nat.le_of_ble_eq_true rfl)) dL_law_394 hr1) hS (fun q _ h => rg_lo h) (fun q h => rg_lo h) (fun H locs hP hk hS => ?_)
    obtain ⟨hHr, hOu⟩ := hP
    have hHr : HrC D cs L e g e1 g1 nx cn se sg bt nn9 (aW k9) ln pa ft H := hHr
    have hMd := hMd.frame hk (fun q h1 h2 h => by rcases h with h | h <;> omega)
    have hsz : L + 368 ≤ H.size := Nat.le_trans hsz hk.1
    clear hk hXK hKW
    refine lv_istore (lv' := [(5, .int (nI 1)), (4, .int (nI i)), (0, .ref bs), (1, .ref L), (2, .ref (L + 360)), (3, .ref (L + 367))]) hx hb dL_law_397 hl (by decide) rfl (fun ls hl => ?_)
    refine lv_aload_n hx hb dL_law_399 rfl (lv_at hl 4 rfl) ?_
    refine lv_aload_n hx hb dL_law_400 rfl (lv_at hl 2 rfl) ?_
    refine lv_iload hx hb dL_law_401 (lv_at hl 1 rfl) ?_
    refine lv_iconst (v := nI 1) hx hb dL_law_403 (by decide) ?_
    refine kn_add hx hb dL_law_404 ?_
    refine kx_sld (v := q1) hx hb hXs hbl hbA hS (by omega) hN9 hq1 dL_law_405 ?_
    refine lv_aload_n hx hb dL_law_406 rfl (lv_at hl 2 rfl) ?_
    refine lv_iload hx hb dL_law_407 (lv_at hl 1 rfl) ?_
    refine lv_iconst (v := nI 2) hx hb dL_law_409 (by decide) ?_
    refine kn_add hx hb dL_law_410 ?_
    refine kx_sld (v := q2) hx hb hXs hbl hbA hS (by omega) hN9 hq2 dL_law_411 ?_
    refine kx_retM (va_runV (As := [.int q1, .int q2]) (rest := []) ⟨hx, hb, hml, hown, hts⟩ (k_X8_write l D cs (L + 360) z q1 q2 hZ) (cwV 2 hts gL_law_X8_write rfl rfl rfl (by decide +kernel) ⟨Nat.le_of_ble_eq_true rfl, Nat.le_of_ble_eq_true rfl⟩) (kx_preV hK hN hMd.1 rfl hMd) rfl rfl hl.1 rfl (lv_room (Nat.le_of_ble_eq_true rfl)) dL_law_412 ⟨hr1.1, hr1.2⟩) hS (fun q _ h => by have h3 := h.1; show L ≤ q; omega) (fun q h => by have h3 := h.1; show L ≤ q; omega) (fun H locs hP hk hS => ?_)
    have hHr := hHr.keepR (H1 := H) (fun q h1 h2 => hk.2 q (by omega) (fun h => by have h3 := h.1; have h4 := h.2; omega))
    have hOu := hOu.kept (hk.2 _ hOu.lt (fun h => by have h3 := h.1; have h4 := h.2; omega))
    have hsz : L + 368 ≤ H.size := Nat.le_trans hsz hk.1
    clear hk
    have hMd : MdC D (cs 0) (L + 360) (upd z 4403 (nI 1)) H := (by have q9 := hP; rw [hw, if_neg (by decide)] at q9; exact q9)
    refine kx_ci (y := nI 0) (if_neg (by rw [hw]; decide)) ?_
    refine lv_istore (lv' := [(6, .int (nI 0)), (5, .int (nI 1)), (4, .int (nI i)), (0, .ref bs), (1, .ref L), (2, .ref (L + 360)), (3, .ref (L + 367))]) hx hb dL_law_415 hl (by decide) rfl (fun ls hl => ?_)
    refine lv_aload_n hx hb dL_law_417 rfl (lv_at hl 5 rfl) ?_
    refine kx_retP (va_runV (As := []) (rest := []) ⟨hx, hb, hml, hown, hts⟩ (k_X8_thrown l D cs (L + 360) (upd z 4403 (nI 1))) (cwV 0 hts gL_law_X8_thrown rfl rfl rfl (by decide +kernel) ⟨Nat.le_of_ble_eq_true rfl, Nat.le_of_ble_eq_true rfl⟩) (kx_preV hK hN hMd.1 rfl hMd) rfl rfl hl.1 rfl (lv_room (Nat.le_of_ble_eq_true rfl)) dL_law_418 ⟨hr1.1, hr1.2⟩) ?_
    refine kx_ci (y := nI 1) (th_thr _) ?_
    refine lv_iload hx hb dL_law_421 (lv_at hl 1 rfl) ?_
    refine lv_icmp_eq (tgt := 428) hx hb dL_law_423 (by decide) (fun _ => ?_) (fun h9 => absurd rfl h9)
    refine lv_iload hx hb dL_law_428 (lv_at hl 1 rfl) ?_
    refine lv_if_ne (tgt := 445) hx hb dL_law_430 (by decide) (fun _ => ?_) (fun h9 => absurd h9 (by decide))
    refine lv_goto (tgt := 1607) hx hb dL_law_445 (by decide) ?_
    exact K _ _ _ _ _ ⟨upd z 4403 (nI 1), _, _, _, _, _, _, _, _, _, _, k9, _, _, _, _, hHr, hOu, hMd, hRA.thr _, hk8, hsz⟩ hS (Nat.le_refl _) (Nat.le_refl _) (lv_sub hl [2, 3, 4, 5, 6] rfl)
  · have hwe := (hRA.e_wwr q1 q2).trans hw
    refine lv_aload_n hx hb dL_law_380 rfl (lv_at hl 2 rfl) ?_
    refine lv_aload_n hx hb dL_law_381 rfl (lv_at hl 1 rfl) ?_
    refine lv_iload hx hb dL_law_382 (lv_at hl 0 rfl) ?_
    refine lv_iconst (v := nI 1) hx hb dL_law_384 (by decide) ?_
    refine kn_add hx hb dL_law_385 ?_
    refine kx_sld (v := q1) hx hb hXs hbl hbA hS (by omega) hN9 hq1 dL_law_386 ?_
    refine lv_aload_n hx hb dL_law_387 rfl (lv_at hl 1 rfl) ?_
    refine lv_iload hx hb dL_law_388 (lv_at hl 0 rfl) ?_
    refine lv_iconst (v := nI 2) hx hb dL_law_390 (by decide) ?_
    refine kn_add hx hb dL_law_391 ?_
    refine kx_sld (v := q2) hx hb hXs hbl hbA hS (by omega) hN9 hq2 dL_law_392 ?_
    refine lv_aload_n hx hb dL_law_393 rfl (lv_at hl 4 rfl) ?_
    refine kx_retN (vx_runSW (As := [.ref L, .int q1, .int q2, .ref (L + 367)]) (rest := []) ⟨hx, hb, hml, hown, hts⟩ (k_L_writeT2 l D cs L e g e1 g1 nx cn se sg bt nn9 (aW k9) ln pa ft q1 q2 hI hG hwe (L + 367) f (by omega) L (Nat.le_refl L) hfl) (vx_cwSW 4 hts gL_law_L_write rfl rfl rfl (by decide +kernel) ⟨Nat.le_of_ble_eq_true rfl, Nat.le_of_ble_eq_true rfl⟩) (kx_preY hK hN hXK hXN ⟨hHr, hOu⟩) rfl rfl hl.1 rfl (lv_room (Nat.le_of_ble_eq_true rfl)) dL_law_394 hr1) hS (fun q _ h => rg_lo h) (fun q h => rg_lo h) (fun H locs hP hk hS => ?_)
    obtain ⟨hHr, hOu⟩ := hP
    have hHr : HrC D cs L e g e1 g1 nx cn se sg bt nn9 (aW k9) ln pa ft H := hHr
    have hMd := hMd.frame hk (fun q h1 h2 h => by rcases h with h | h <;> omega)
    have hsz : L + 368 ≤ H.size := Nat.le_trans hsz hk.1
    clear hk hXK hKW
    refine lv_istore (lv' := [(5, .int (nI 2)), (4, .int (nI i)), (0, .ref bs), (1, .ref L), (2, .ref (L + 360)), (3, .ref (L + 367))]) hx hb dL_law_397 hl (by decide) rfl (fun ls hl => ?_)
    refine lv_aload_n hx hb dL_law_399 rfl (lv_at hl 4 rfl) ?_
    refine lv_aload_n hx hb dL_law_400 rfl (lv_at hl 2 rfl) ?_
    refine lv_iload hx hb dL_law_401 (lv_at hl 1 rfl) ?_
    refine lv_iconst (v := nI 1) hx hb dL_law_403 (by decide) ?_
    refine kn_add hx hb dL_law_404 ?_
    refine kx_sld (v := q1) hx hb hXs hbl hbA hS (by omega) hN9 hq1 dL_law_405 ?_
    refine lv_aload_n hx hb dL_law_406 rfl (lv_at hl 2 rfl) ?_
    refine lv_iload hx hb dL_law_407 (lv_at hl 1 rfl) ?_
    refine lv_iconst (v := nI 2) hx hb dL_law_409 (by decide) ?_
    refine kn_add hx hb dL_law_410 ?_
    refine kx_sld (v := q2) hx hb hXs hbl hbA hS (by omega) hN9 hq2 dL_law_411 ?_
    refine kx_retM (va_runV (As := [.int q1, .int q2]) (rest := []) ⟨hx, hb, hml, hown, hts⟩ (k_X8_write l D cs (L + 360) z q1 q2 hZ) (cwV 2 hts gL_law_X8_write rfl rfl rfl (by decide +kernel) ⟨Nat.le_of_ble_eq_true rfl, Nat.le_of_ble_eq_true rfl⟩) (kx_preV hK hN hMd.1 rfl hMd) rfl rfl hl.1 rfl (lv_room (Nat.le_of_ble_eq_true rfl)) dL_law_412 ⟨hr1.1, hr1.2⟩) hS (fun q _ h => by have h3 := h.1; show L ≤ q; omega) (fun q h => by have h3 := h.1; show L ≤ q; omega) (fun H locs hP hk hS => ?_)
    have hHr := hHr.keepR (H1 := H) (fun q h1 h2 => hk.2 q (by omega) (fun h => by have h3 := h.1; have h4 := h.2; omega))
    have hOu := hOu.kept (hk.2 _ hOu.lt (fun h => by have h3 := h.1; have h4 := h.2; omega))
    have hsz : L + 368 ≤ H.size := Nat.le_trans hsz hk.1
    clear hk
    have hMd : MdC D (cs 0) (L + 360) (upd z 4403 (nI 2)) H := (by have q9 := hP; rw [hw, if_neg (by decide)] at q9; exact q9)
    refine kx_ci (y := nI 0) (if_neg (by rw [hw]; decide)) ?_
    refine lv_istore (lv' := [(6, .int (nI 0)), (5, .int (nI 2)), (4, .int (nI i)), (0, .ref bs), (1, .ref L), (2, .ref (L + 360)), (3, .ref (L + 367))]) hx hb dL_law_415 hl (by decide) rfl (fun ls hl => ?_)
    refine lv_aload_n hx hb dL_law_417 rfl (lv_at hl 5 rfl) ?_
    refine kx_retP (va_runV (As := []) (rest := []) ⟨hx, hb, hml, hown, hts⟩ (k_X8_thrown l D cs (L + 360) (upd z 4403 (nI 2))) (cwV 0 hts gL_law_X8_thrown rfl rfl rfl (by decide +kernel) ⟨Nat.le_of_ble_eq_true rfl, Nat.le_of_ble_eq_true rfl⟩) (kx_preV hK hN hMd.1 rfl hMd) rfl rfl hl.1 rfl (lv_room (Nat.le_of_ble_eq_true rfl)) dL_law_418 ⟨hr1.1, hr1.2⟩) ?_
    refine kx_ci (y := nI 2) (th_thr _) ?_
    refine lv_iload hx hb dL_law_421 (lv_at hl 1 rfl) ?_
    refine lv_icmp_eq (tgt := 428) hx hb dL_law_423 (by decide) (fun _ => ?_) (fun h9 => absurd rfl h9)
    refine lv_iload hx hb dL_law_428 (lv_at hl 1 rfl) ?_
    refine lv_if_ne (tgt := 445) hx hb dL_law_430 (by decide) (fun _ => ?_) (fun h9 => absurd h9 (by decide))
    refine lv_goto (tgt := 1607) hx hb dL_law_445 (by decide) ?_
    exact K _ _ _ _ _ ⟨upd z 4403 (nI 2), _, _, _, _, _, _, _, _, _, _, k9, _, _, _, _, hHr, hOu, hMd, hRA.thr _, hk8, hsz⟩ hS (Nat.le_refl _) (Nat.le_refl _) (lv_sub hl [2, 3, 4, 5, 6] rfl)
  · have hwe := (hRA.e_wwr q1 q2).trans hw
    refine lv_aload_n hx hb dL_law_380 rfl (lv_at hl 2 rfl) ?_
    refine lv_aload_n hx hb dL_law_381 rfl (lv_at hl 1 rfl) ?_
    refine lv_iload hx hb dL_law_382 (lv_at hl 0 rfl) ?_
    refine lv_iconst (v := nI 1) hx hb dL_law_384 (by decide) ?_
    refine kn_add hx hb dL_law_385 ?_
    refine kx_sld (v := q1) hx hb hXs hbl hbA hS (by omega) hN9 hq1 dL_law_386 ?_
    refine lv_aload_n hx hb dL_law_387 rfl (lv_at hl 1 rfl) ?_
    refine lv_iload hx hb dL_law_388 (lv_at hl 0 rfl) ?_
    refine lv_iconst (v := nI 2) hx hb dL_law_390 (by decide) ?_
    refine kn_add hx hb dL_law_391 ?_
    refine kx_sld (v := q2) hx hb hXs hbl hbA hS (by omega) hN9 hq2 dL_law_392 ?_
    refine lv_aload_n hx hb dL_law_393 rfl (lv_at hl 4 rfl) ?_
    refine kx_retN (vx_runSW (As := [.ref L, .int q1, .int q2, .ref (L + 367)]) (rest := []) ⟨hx, hb, hml, hown, hts⟩ (k_L_writeT3 l D cs L e g e1 g1 nx cn se sg bt nn9 (aW k9) ln pa ft q1 q2 hI hG hwe (L + 367) f (by omega) L (Nat.le_refl L) hfl) (vx_cwSW 4 hts gL_law_L_write rfl rfl rfl (by decide +kernel) ⟨Nat.le_of_ble_eq_true rfl, Nat.le_of_ble_eq_true rfl⟩) (kx_preY hK hN hXK hXN ⟨hHr, hOu⟩) rfl rfl hl.1 rfl (lv_room (Nat.le_of_ble_eq_true rfl)) dL_law_394 hr1) hS (fun q _ h => rg_lo h) (fun q h => rg_lo h) (fun H locs hP hk hS => ?_)
    obtain ⟨hHr, hOu⟩ := hP
    have hHr : HrC D cs L e g e1 g1 nx cn se sg bt nn9 (aW k9) ln pa ft H := hHr
    have hMd := hMd.frame hk (fun q h1 h2 h => by rcases h with h | h <;> omega)
    have hsz : L + 368 ≤ H.size := Nat.le_trans hsz hk.1
    clear hk hXK hKW
    refine lv_istore (lv' := [(5, .int (nI 3)), (4, .int (nI i)), (0, .ref bs), (1, .ref L), (2, .ref (L + 360)), (3, .ref (L + 367))]) hx hb dL_law_397 hl (by decide) rfl (fun ls hl => ?_)
    refine lv_aload_n hx hb dL_law_399 rfl (lv_at hl 4 rfl) ?_
    refine lv_aload_n hx hb dL_law_400 rfl (lv_at hl 2 rfl) ?_
    refine lv_iload hx hb dL_law_401 (lv_at hl 1 rfl) ?_
    refine lv_iconst (v := nI 1) hx hb dL_law_403 (by decide) ?_
    refine kn_add hx hb dL_law_404 ?_
    refine kx_sld (v := q1) hx hb hXs hbl hbA hS (by omega) hN9 hq1 dL_law_405 ?_
    refine lv_aload_n hx hb dL_law_406 rfl (lv_at hl 2 rfl) ?_
    refine lv_iload hx hb dL_law_407 (lv_at hl 1 rfl) ?_
    refine lv_iconst (v := nI 2) hx hb dL_law_409 (by decide) ?_
    refine kn_add hx hb dL_law_410 ?_
    refine kx_sld (v := q2) hx hb hXs hbl hbA hS (by omega) hN9 hq2 dL_law_411 ?_
    refine kx_retM (va_runV (As := [.int q1, .int q2]) (rest := []) ⟨hx, hb, hml, hown, hts⟩ (k_X8_write l D cs (L + 360) z q1 q2 hZ) (cwV 2 hts gL_law_X8_write rfl rfl rfl (by decide +kernel) ⟨Nat.le_of_ble_eq_true rfl, Nat.le_of_ble_eq_true rfl⟩) (kx_preV hK hN hMd.1 rfl hMd) rfl rfl hl.1 rfl (lv_room (Nat.le_of_ble_eq_true rfl)) dL_law_412 ⟨hr1.1, hr1.2⟩) hS (fun q _ h => by have h3 := h.1; show L ≤ q; omega) (fun q h => by have h3 := h.1; show L ≤ q; omega) (fun H locs hP hk hS => ?_)
    have hHr := hHr.keepR (H1 := H) (fun q h1 h2 => hk.2 q (by omega) (fun h => by have h3 := h.1; have h4 := h.2; omega))
    have hOu := hOu.kept (hk.2 _ hOu.lt (fun h => by have h3 := h.1; have h4 := h.2; omega))
    have hsz : L + 368 ≤ H.size := Nat.le_trans hsz hk.1
    clear hk
    have hMd : MdC D (cs 0) (L + 360) (upd z 4403 (nI 3)) H := (by have q9 := hP; rw [hw, if_neg (by decide)] at q9; exact q9)
    refine kx_ci (y := nI 0) (if_neg (by rw [hw]; decide)) ?_
    refine lv_istore (lv' := [(6, .int (nI 0)), (5, .int (nI 3)), (4, .int (nI i)), (0, .ref bs), (1, .ref L), (2, .ref (L + 360)), (3, .ref (L + 367))]) hx hb dL_law_415 hl (by decide) rfl (fun ls hl => ?_)
    refine lv_aload_n hx hb dL_law_417 rfl (lv_at hl 5 rfl) ?_
    refine kx_retP (va_runV (As := []) (rest := []) ⟨hx, hb, hml, hown, hts⟩ (k_X8_thrown l D cs (L + 360) (upd z 4403 (nI 3))) (cwV 0 hts gL_law_X8_thrown rfl rfl rfl (by decide +kernel) ⟨Nat.le_of_ble_eq_true rfl, Nat.le_of_ble_eq_true rfl⟩) (kx_preV hK hN hMd.1 rfl hMd) rfl rfl hl.1 rfl (lv_room (Nat.le_of_ble_eq_true rfl)) dL_law_418 ⟨hr1.1, hr1.2⟩) ?_
    refine kx_ci (y := nI 3) (th_thr _) ?_
    refine lv_iload hx hb dL_law_421 (lv_at hl 1 rfl) ?_
    refine lv_icmp_eq (tgt := 428) hx hb dL_law_423 (by decide) (fun _ => ?_) (fun h9 => absurd rfl h9)
    refine lv_iload hx hb dL_law_428 (lv_at hl 1 rfl) ?_
    refine lv_if_ne (tgt := 445) hx hb dL_law_430 (by decide) (fun _ => ?_) (fun h9 => absurd h9 (by decide))
    refine lv_goto (tgt := 1607) hx hb dL_law_445 (by decide) ?_
    exact K _ _ _ _ _ ⟨upd z 4403 (nI 3), _, _, _, _, _, _, _, _, _, _, k9, _, _, _, _, hHr, hOu, hMd, hRA.thr _, hk8, hsz⟩ hS (Nat.le_refl _) (Nat.le_refl _) (lv_sub hl [2, 3, 4, 5, 6] rfl)
