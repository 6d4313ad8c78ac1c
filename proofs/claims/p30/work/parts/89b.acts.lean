/-! the actions of the law, from their labels to its comparisons -/
set_option maxHeartbeats 2500000 in
set_option maxRecDepth 100000 in
theorem cs_told {p : Program} {l : Launch} {en : Env} {s : State} {m : MethodId} {below : List Frame} {meth : Method} {c : Code} {D : va_G} {cs : Nat → ClassId} {x bs N : Nat} {xs : Nat → Int32} {Q : State → Prop} (G : LwG p l s m c D cs x bs N xs) {T t : Nat} (hT9 : T ≤ 100) {H : Heap} {locs : List Loc} {cells slots : Nat} (hr1 : cells + 20 ≤ 600086) (hr2 : slots + 200 ≤ 7301441) (W0 : LwD D cs x T H) (hS : va_S (fun y9 : Nat => x ≤ y9) s.heap H locs) (k r : Nat) (v y : Int32) (hr3 : r < 3)  {ls : Array Slot} (hl : lv_has ls 16 [(0, .ref (bs)), (1, .ref (x)), (2, .ref (x + 360)), (3, .ref (x + 360 + 1)), (4, .ref (x + 360 + 2)), (5, .ref (x + 360 + 3)), (6, .ref (x + 360 + 4)), (7, .ref (x + 360 + 5)), (8, .int (nI (t))), (9, .int (v)), (10, .int (nI (k))), (11, .int (y)), (12, .int (nI (r)))])
  (K : ∀ (H : Heap) (locs : List Loc) (c1 s1 : Nat) (ls : Array Slot) (T1 : Nat), T1 ≤ T + 4 → LwD D cs x T1 H → va_S (fun y9 : Nat => x ≤ y9) s.heap H locs → c1 ≤ cells + 1 → s1 ≤ slots + 6 → lv_has ls 16 [(0, .ref (bs)), (1, .ref (x)), (2, .ref (x + 360)), (3, .ref (x + 360 + 1)), (4, .ref (x + 360 + 2)), (5, .ref (x + 360 + 3)), (6, .ref (x + 360 + 4)), (7, .ref (x + 360 + 5)), (8, .int (nI (t)))] → W p l en room_1 s m #[Value.ref bs] below meth c H locs c1 s1 Q (F0 m 769 ls [])) :
  W p l en room_1 s m #[Value.ref bs] below meth c H locs cells slots Q (F0 m 338 ls []) := by
  obtain ⟨hx, hb, hml, hown, hts, hK, hN, hXK0, hXN, hXs, hbl, hxs, hN9, hfl⟩ := id G
  obtain ⟨e, g, e1, g1, nx, cn, se, sg, b, nn, wd, ln, pa, ft, hHr, hL, hI, hG, hB, hT, hnx, hcn⟩ := W0
  obtain ⟨hWro, hM, hM2, hWhi, hWto, hWtb, hWtn⟩ := hHr
  have h24 := hI.M24
  have h6 := hI.R6
  have h8 := hB.M8
  have hR3 := hB.R
  have hrR : r < Rn e := by omega
  rcases (show Mn e = 8 ∨ Mn e < 8 by omega) with hM8 | hM8
  · refine lv_aload_n hx hb dL_law_338 rfl (lv_at hl 1 rfl) ?_
    refine lv_iload hx hb dL_law_339 (lv_at hl 11 rfl) ?_
    refine lv_aload_n hx hb dL_law_341 rfl (lv_at hl 2 rfl) ?_
    refine lv_aload hx hb dL_law_342 (lv_at hl 4 rfl) ?_
    refine lv_aload hx hb dL_law_344 (lv_at hl 5 rfl) ?_
    refine lv_aload hx hb dL_law_346 (lv_at hl 7 rfl) ?_
    refine kx_retP (va_runS (As := [.ref (x), .int (y), .ref (x + 360), .ref (x + 360 + 2), .ref (x + 360 + 3), .ref (x + 360 + 5)]) (rest := []) ⟨hx, hb, hml, hown, hts⟩ (k_L_told8 l D cs x e g e1 g1 nx cn se sg b nn wd ln pa ft y hI hG hB hM8 (x + 360) (Nat.le_refl _)) (cwS 6 hts gL_law_L_told rfl rfl rfl (by decide +kernel) ⟨Nat.le_of_ble_eq_true rfl, Nat.le_of_ble_eq_true rfl⟩) (kx_preS hK hN ⟨⟨hWro, hM, hM2, hWhi, hWto, hWtb, hWtn⟩, hL⟩) rfl rfl hl.1 rfl (lv_room (Nat.le_of_ble_eq_true rfl)) dL_law_348 ⟨by show cells + 0 ≤ 600086; omega, by show slots + 0 ≤ 7301441; omega⟩) ?_
    refine kb_if_ne (tgt := 769) hx hb dL_law_351 (by decide) (fun c351 => ?_) (fun c351 => ?_)
    · exact K _ _ _ _ _ T (by omega) ⟨_, _, _, _, _, _, _, _, _, _, _, _, _, _, ⟨hWro, hM, hM2, hWhi, hWto, hWtb, hWtn⟩, hL, hI, hG, hB, hT, hnx, hcn⟩ hS (Nat.le_add_right _ _) (Nat.le_add_right _ _) (lv_sub hl [0, 1, 2, 3, 4, 5, 6, 7, 8] rfl)
    · exact absurd c351 (by decide)
  · refine lv_aload_n hx hb dL_law_338 rfl (lv_at hl 1 rfl) ?_
    refine lv_iload hx hb dL_law_339 (lv_at hl 11 rfl) ?_
    refine lv_aload_n hx hb dL_law_341 rfl (lv_at hl 2 rfl) ?_
    refine lv_aload hx hb dL_law_342 (lv_at hl 4 rfl) ?_
    refine lv_aload hx hb dL_law_344 (lv_at hl 5 rfl) ?_
    refine lv_aload hx hb dL_law_346 (lv_at hl 7 rfl) ?_
    refine kx_retM (va_runS (As := [.ref (x), .int (y), .ref (x + 360), .ref (x + 360 + 2), .ref (x + 360 + 3), .ref (x + 360 + 5)]) (rest := []) ⟨hx, hb, hml, hown, hts⟩ (k_L_told l D cs x e g e1 g1 nx cn se sg b nn wd ln pa ft y hI hG hB hM8 hnx hcn (x + 360) (Nat.le_refl _)) (cwS 6 hts gL_law_L_told rfl rfl rfl (by decide +kernel) ⟨Nat.le_of_ble_eq_true rfl, Nat.le_of_ble_eq_true rfl⟩) (kx_preS hK hN ⟨⟨hWro, hM, hM2, hWhi, hWto, hWtb, hWtn⟩, hL⟩) rfl rfl hl.1 rfl (lv_room (Nat.le_of_ble_eq_true rfl)) dL_law_348 ⟨by show cells + 0 ≤ 600086; omega, by show slots + 0 ≤ 7301441; omega⟩) hS (fun y9 _ h => by rcases h with h | h; exact h.1; exact Nat.le_trans (Nat.le_add_right x 360) h.1) (fun y9 h => by rcases h with h | h; exact h.1; exact Nat.le_trans (Nat.le_add_right x 360) h.1) (fun H locs hMN hk hS => ?_)
    obtain ⟨⟨hWro, hM, hM2, hWhi, hWto, hWtb, hWtn⟩, hL⟩ := hMN
    clear hk
    have hL : LwC D cs (x + 360) (pmT e y) (pmH e g y) H := hL
    refine kb_if_ne (tgt := 769) hx hb dL_law_351 (by decide) (fun c351 => ?_) (fun c351 => ?_)
    · have hw9 := told_w hI hB hM8 y
      have hf3 := dF_lt y
      have ht3 := dT_lt y
      have ha20 := dA_lt y
      have hb20 := dB_lt y
      have hmo := mo_le hI hB y
      have hdn := dN_le hI hB y
      exact K _ _ _ _ _ T (by omega) ⟨_, _, _, _, _, _, _, _, _, _, _, _, _, _, ⟨hWro, hM, hM2, hWhi, hWto, hWtb, hWtn⟩, hL, (pm_inv hI hw9), (pm_msk hI hG (by omega) (by omega) (by omega) (by omega) (by omega) (by omega)), (lb_pm hI hB hM8 y), ((pmT_out e y (by omega) (Or.inl (by omega))).trans hT), (Nat.mod_lt _ (by decide)), (Nat.min_le_right _ _)⟩ hS (Nat.le_add_right _ _) (Nat.le_add_right _ _) (lv_sub hl [0, 1, 2, 3, 4, 5, 6, 7, 8] rfl)
    · exact absurd c351 (by decide)
set_option maxHeartbeats 2500000 in
set_option maxRecDepth 100000 in
theorem cs_pass {p : Program} {l : Launch} {en : Env} {s : State} {m : MethodId} {below : List Frame} {meth : Method} {c : Code} {D : va_G} {cs : Nat → ClassId} {x bs N : Nat} {xs : Nat → Int32} {Q : State → Prop} (G : LwG p l s m c D cs x bs N xs) {T t : Nat} (hT9 : T ≤ 100) {H : Heap} {locs : List Loc} {cells slots : Nat} (hr1 : cells + 20 ≤ 600086) (hr2 : slots + 200 ≤ 7301441) (W0 : LwD D cs x T H) (hS : va_S (fun y9 : Nat => x ≤ y9) s.heap H locs) (k r : Nat) (v y : Int32) (hr3 : r < 3)  {ls : Array Slot} (hl : lv_has ls 16 [(0, .ref (bs)), (1, .ref (x)), (2, .ref (x + 360)), (3, .ref (x + 360 + 1)), (4, .ref (x + 360 + 2)), (5, .ref (x + 360 + 3)), (6, .ref (x + 360 + 4)), (7, .ref (x + 360 + 5)), (8, .int (nI (t))), (9, .int (v)), (10, .int (nI (k))), (11, .int (y)), (12, .int (nI (r)))])
  (K : ∀ (H : Heap) (locs : List Loc) (c1 s1 : Nat) (ls : Array Slot) (T1 : Nat), T1 ≤ T + 4 → LwD D cs x T1 H → va_S (fun y9 : Nat => x ≤ y9) s.heap H locs → c1 ≤ cells + 1 → s1 ≤ slots + 6 → lv_has ls 16 [(0, .ref (bs)), (1, .ref (x)), (2, .ref (x + 360)), (3, .ref (x + 360 + 1)), (4, .ref (x + 360 + 2)), (5, .ref (x + 360 + 3)), (6, .ref (x + 360 + 4)), (7, .ref (x + 360 + 5)), (8, .int (nI (t)))] → W p l en room_1 s m #[Value.ref bs] below meth c H locs c1 s1 Q (F0 m 769 ls [])) :
  W p l en room_1 s m #[Value.ref bs] below meth c H locs cells slots Q (F0 m 362 ls []) := by
  obtain ⟨hx, hb, hml, hown, hts, hK, hN, hXK0, hXN, hXs, hbl, hxs, hN9, hfl⟩ := id G
  obtain ⟨e, g, e1, g1, nx, cn, se, sg, b, nn, wd, ln, pa, ft, hHr, hL, hI, hG, hB, hT, hnx, hcn⟩ := W0
  obtain ⟨hWro, hM, hM2, hWhi, hWto, hWtb, hWtn⟩ := hHr
  have h24 := hI.M24
  have h6 := hI.R6
  have h8 := hB.M8
  have hR3 := hB.R
  have hrR : r < Rn e := by omega
  have htk := tkN_le y
  refine lv_iconst (v := nI 1) hx hb dL_law_362 (by decide) ?_
  refine lv_iload hx hb dL_law_363 (lv_at hl 11 rfl) ?_
  refine lv_iconst (v := nI 4) hx hb dL_law_365 (by decide) ?_
  refine kx_retP (va_runS (As := [.int (y), .int (nI (4))]) (rest := [.int (nI (1))]) ⟨hx, hb, hml, hown, hts⟩ (k_L_low l D cs y 4 (by decide) (by decide)) (cwS 2 hts gL_law_L_low rfl rfl rfl (by decide +kernel) ⟨Nat.le_of_ble_eq_true rfl, Nat.le_of_ble_eq_true rfl⟩) (kx_preS hK hN trivial) rfl rfl hl.1 rfl (lv_room (Nat.le_of_ble_eq_true rfl)) dL_law_366 ⟨by show cells + 0 ≤ 600086; omega, by show slots + 0 ≤ 7301441; omega⟩) ?_
  refine kn_add hx hb dL_law_369 ?_
  refine kx_ci (x := nI (1 + (lowN y 4))) (y := nI (tkN y)) rfl ?_
  refine lv_istore (lv' := [(13, .int (nI (tkN y))), (0, .ref (bs)), (1, .ref (x)), (2, .ref (x + 360)), (3, .ref (x + 360 + 1)), (4, .ref (x + 360 + 2)), (5, .ref (x + 360 + 3)), (6, .ref (x + 360 + 4)), (7, .ref (x + 360 + 5)), (8, .int (nI (t))), (9, .int (v)), (10, .int (nI (k))), (11, .int (y)), (12, .int (nI (r)))]) hx hb dL_law_370 hl (by decide) rfl (fun ls hl => ?_)
  refine lv_iconst (v := nI 0) hx hb dL_law_372 (by decide) ?_
  refine lv_istore (lv' := [(14, .int (nI (0))), (13, .int (nI (tkN y))), (0, .ref (bs)), (1, .ref (x)), (2, .ref (x + 360)), (3, .ref (x + 360 + 1)), (4, .ref (x + 360 + 2)), (5, .ref (x + 360 + 3)), (6, .ref (x + 360 + 4)), (7, .ref (x + 360 + 5)), (8, .int (nI (t))), (9, .int (v)), (10, .int (nI (k))), (11, .int (y)), (12, .int (nI (r)))]) hx hb dL_law_373 hl (by decide) rfl (fun ls hl => ?_)
  refine lv_iconst (v := nI 0) hx hb dL_law_375 (by decide) ?_
  refine lv_istore (lv' := [(15, .int (nI (0))), (14, .int (nI (0))), (13, .int (nI (tkN y))), (0, .ref (bs)), (1, .ref (x)), (2, .ref (x + 360)), (3, .ref (x + 360 + 1)), (4, .ref (x + 360 + 2)), (5, .ref (x + 360 + 3)), (6, .ref (x + 360 + 4)), (7, .ref (x + 360 + 5)), (8, .int (nI (t))), (9, .int (v)), (10, .int (nI (k))), (11, .int (y)), (12, .int (nI (r)))]) hx hb dL_law_376 hl (by decide) rfl (fun ls hl => ?_)
  have J378 : ∀ (fu378 : Nat) (k0 : Nat) (H : Heap) (locs : List Loc) (ls : Array Slot), (tkN y - k0) < fu378 → (k0 ≤ tkN y) → (HiC D cs (x + 119) nx cn se sg H) → (LwC D cs (x + 360) (psF e k0) g H) → (va_at D vwCl (x, .inr (5, [.ref (x + 1), .ref (x + 60), .ref (x + 119), .ref (x + 357)])) H) → (StC D cs (x + 1) e g H) → (StC D cs (x + 60) e1 g1 H) → (va_at D vwCl (x + 357 + 1, .inl (cs 1, 150, .inl b)) H) → (va_at D vwCl (x + 357 + 2, .inl (cs 0, 5, .inl nn)) H) → (va_at D vwCl (x + 357, .inr (0, [.ref (x + 357 + 1), .ref (x + 357 + 2), .ref (wd), .int (nI (ln)), .int (nI (pa)), .int (ft)])) H) → va_S ((fun y9 : Nat => x ≤ y9)) s.heap H locs → lv_has ls 16 [(0, .ref (bs)), (1, .ref (x)), (2, .ref (x + 360)), (3, .ref (x + 360 + 1)), (4, .ref (x + 360 + 2)), (5, .ref (x + 360 + 3)), (6, .ref (x + 360 + 4)), (7, .ref (x + 360 + 5)), (8, .int (nI (t))), (9, .int (v)), (10, .int (nI (k))), (11, .int (y)), (12, .int (nI (r))), (13, .int (nI (tkN y))), (14, .int (nI (psN e k0))), (15, .int (nI (k0)))] → W p l en room_1 s m #[Value.ref bs] below meth c H locs cells slots Q (F0 m 378 ls []) := by
    intro fu378; induction fu378 with
    | zero => intro k0 H locs ls hmu378 hk0 hWhi hL hWro hM hM2 hWtb hWtn hWto hS hl; exact absurd hmu378 (Nat.not_lt_zero _)
    | succ fu378 ih378 =>
      intro k0 H locs ls hmu378 hk0 hWhi hL hWro hM hM2 hWtb hWtn hWto hS hl
      have hP9 := ps_LB hI hB hT (by omega) k0 (by omega)
      have hPS := psF_si hI k0
      refine lv_iload hx hb dL_law_378 (lv_at hl 15 rfl) ?_
      refine lv_iload hx hb dL_law_380 (lv_at hl 13 rfl) ?_
      refine kn_icmp_ge (tgt := 409) hx hb dL_law_382 (by decide) (by omega) (by omega) (fun c_1 => ?_) (fun c_1 => ?_)
      · have hkk : k0 = tkN y := by omega
        subst hkk
        refine lv_aload_n hx hb dL_law_409 rfl (lv_at hl 1 rfl) ?_
        refine lv_iload hx hb dL_law_410 (lv_at hl 13 rfl) ?_
        refine kx_retM (va_runV (As := [.int (nI (tkN y))]) (rest := []) ⟨hx, hb, hml, hown, hts⟩ (k_X7_pass l D cs x e g e1 g1 nx cn se sg b nn wd ln pa ft (tkN y) hI hG hnx hcn (wtk_0 htk.1 htk.2 hT (by omega)) (by omega)) (cwV 1 hts gL_law_X7_pass rfl rfl rfl (by decide +kernel) ⟨Nat.le_of_ble_eq_true rfl, Nat.le_of_ble_eq_true rfl⟩) (kx_preV hK hN hWro rfl ⟨hWro, hM, hM2, hWhi, hWto, hWtb, hWtn⟩) rfl rfl hl.1 rfl (lv_room (Nat.le_of_ble_eq_true rfl)) dL_law_412 ⟨by show cells + 0 ≤ 600086; omega, by show slots + 0 ≤ 7301441; omega⟩) hS (fun y9 _ h => h.1) (fun y9 h => h.1) (fun H locs hMN hk hS => ?_)
        have hL := hL.frame hk (fun x h1 h2 h => by first | (have h3 := h.1; have h4 := h.2; omega) | (rcases h with h | h <;> first | (have h3 := h.1; have h4 := h.2; omega) | (have h3 : _ ≤ x := h; omega)) | (have h3 : _ ≤ x := h; omega))
        obtain ⟨hWro, hM, hM2, hWhi, hWto, hWtb, hWtn⟩ := hMN
        clear hk
        refine lv_iload hx hb dL_law_415 (lv_at hl 14 rfl) ?_
        refine kn_icmp_eq (tgt := 422) hx hb dL_law_417 (by decide) (Nat.lt_of_le_of_lt (psN_lt hI _) (by omega)) (Nat.lt_of_le_of_lt (psN_lt hI _) (by omega)) (fun c417 => ?_) (fun c417 => ?_)
        · refine lv_goto (tgt := 769) hx hb dL_law_422 (by decide) ?_
          exact K _ _ _ _ _ (T + tkN y) (by omega) ⟨_, _, _, _, _, _, _, _, _, _, _, _, _, _, ⟨hWro, hM, hM2, hWhi, hWto, hWtb, hWtn⟩, hL, hPS.2, (hG.stay hI hPS.1), hP9.1, hP9.2, (Nat.mod_lt _ (by decide)), (Nat.min_le_right _ _)⟩ hS (Nat.le_add_right _ _) (Nat.le_add_right _ _) (lv_sub hl [0, 1, 2, 3, 4, 5, 6, 7, 8] rfl)
        · exact absurd rfl c417
      · refine lv_iload hx hb dL_law_385 (lv_at hl 14 rfl) ?_
        refine lv_aload_n hx hb dL_law_387 rfl (lv_at hl 2 rfl) ?_
        refine lv_aload_n hx hb dL_law_388 rfl (lv_at hl 3 rfl) ?_
        refine lv_aload hx hb dL_law_389 (lv_at hl 4 rfl) ?_
        refine lv_aload hx hb dL_law_391 (lv_at hl 5 rfl) ?_
        refine lv_aload hx hb dL_law_393 (lv_at hl 6 rfl) ?_
        refine lv_aload hx hb dL_law_395 (lv_at hl 7 rfl) ?_
        refine kx_retM (va_runS (As := [.ref (x + 360), .ref (x + 360 + 1), .ref (x + 360 + 2), .ref (x + 360 + 3), .ref (x + 360 + 4), .ref (x + 360 + 5)]) (rest := [.int (nI (psN e k0))]) ⟨hx, hb, hml, hown, hts⟩ (k_L_tick l D cs (x + 360) (psF e k0) g (T + k0) hPS.2 (hG.stay hI hPS.1) hP9.1 hP9.2 (by omega)) (cwS 6 hts gL_law_L_tick rfl rfl rfl (by decide +kernel) ⟨Nat.le_of_ble_eq_true rfl, Nat.le_of_ble_eq_true rfl⟩) (kx_preS hK hN hL) rfl rfl hl.1 rfl (lv_room (Nat.le_of_ble_eq_true rfl)) dL_law_397 ⟨by show cells + 0 ≤ 600086; omega, by show slots + 0 ≤ 7301441; omega⟩) hS (fun y9 _ h => Nat.le_trans (Nat.le_add_right x 360) h.1) (fun y9 h => Nat.le_trans (Nat.le_add_right x 360) h.1) (fun H locs hMN hk hS => ?_)
        have hWhi := hWhi.frame hk (fun x h1 h2 h => by first | (have h3 := h.1; have h4 := h.2; omega) | (rcases h with h | h <;> (have h3 := h.1; have h4 := h.2; omega)))
        have hWro := hWro.kept (hk.2 _ hWro.lt (fun h => by first | (have h3 := h.1; have h4 := h.2; omega) | (rcases h with h | h <;> (have h3 := h.1; have h4 := h.2; omega))))
        have hM := hM.frame hk (fun x h1 h2 h => by first | (have h3 := h.1; have h4 := h.2; omega) | (rcases h with h | h <;> (have h3 := h.1; have h4 := h.2; omega)))
        have hM2 := hM2.frame hk (fun x h1 h2 h => by first | (have h3 := h.1; have h4 := h.2; omega) | (rcases h with h | h <;> (have h3 := h.1; have h4 := h.2; omega)))
        have hWtb := hWtb.kept (hk.2 _ hWtb.lt (fun h => by first | (have h3 := h.1; have h4 := h.2; omega) | (rcases h with h | h <;> (have h3 := h.1; have h4 := h.2; omega))))
        have hWtn := hWtn.kept (hk.2 _ hWtn.lt (fun h => by first | (have h3 := h.1; have h4 := h.2; omega) | (rcases h with h | h <;> (have h3 := h.1; have h4 := h.2; omega))))
        have hWto := hWto.kept (hk.2 _ hWto.lt (fun h => by first | (have h3 := h.1; have h4 := h.2; omega) | (rcases h with h | h <;> (have h3 := h.1; have h4 := h.2; omega))))
        have hL := hMN
        clear hk hMN
        have hL : LwC D cs (x + 360) (tickF (psF e k0)) g H := hL
        have hL : LwC D cs (x + 360) (psF e (k0 + 1)) g H := hL
        refine kn_add hx hb dL_law_400 ?_
        refine kx_ci (x := nI (psN e k0 + (tickN (psF e k0)))) (y := nI (psN e (k0 + 1))) rfl ?_
        refine lv_istore (lv' := [(14, .int (nI (psN e (k0 + 1)))), (0, .ref (bs)), (1, .ref (x)), (2, .ref (x + 360)), (3, .ref (x + 360 + 1)), (4, .ref (x + 360 + 2)), (5, .ref (x + 360 + 3)), (6, .ref (x + 360 + 4)), (7, .ref (x + 360 + 5)), (8, .int (nI (t))), (9, .int (v)), (10, .int (nI (k))), (11, .int (y)), (12, .int (nI (r))), (13, .int (nI (tkN y))), (15, .int (nI (k0)))]) hx hb dL_law_401 hl (by decide) rfl (fun ls hl => ?_)
        refine lv_iinc (v := nI (k0 + 1)) (lv' := [(15, .int (nI (k0 + 1))), (14, .int (nI (psN e (k0 + 1)))), (0, .ref (bs)), (1, .ref (x)), (2, .ref (x + 360)), (3, .ref (x + 360 + 1)), (4, .ref (x + 360 + 2)), (5, .ref (x + 360 + 3)), (6, .ref (x + 360 + 4)), (7, .ref (x + 360 + 5)), (8, .int (nI (t))), (9, .int (v)), (10, .int (nI (k))), (11, .int (y)), (12, .int (nI (r))), (13, .int (nI (tkN y)))]) (k := 15) hx hb dL_law_403 hl rfl (nI_add _ _) (by decide) rfl (fun ls hl => ?_)
        refine lv_goto (tgt := 378) hx hb dL_law_406 (by decide) ?_
        exact ih378 (k0 + 1) _ _ _ (by omega) (by omega) hWhi hL hWro hM hM2 hWtb hWtn hWto hS (lv_sub hl [2, 3, 4, 5, 6, 7, 8, 9, 10, 11, 12, 13, 14, 15, 1, 0] rfl)
  have hl : lv_has ls 16 [(15, .int (nI (0))), (14, .int (nI (psN e 0))), (13, .int (nI (tkN y))), (0, .ref (bs)), (1, .ref (x)), (2, .ref (x + 360)), (3, .ref (x + 360 + 1)), (4, .ref (x + 360 + 2)), (5, .ref (x + 360 + 3)), (6, .ref (x + 360 + 4)), (7, .ref (x + 360 + 5)), (8, .int (nI (t))), (9, .int (v)), (10, .int (nI (k))), (11, .int (y)), (12, .int (nI (r)))] := by rw [show (psN e 0) = (0) from (psN_0 _)]; exact hl
  exact J378 _ 0 _ _ _ (Nat.lt_succ_self _) (by omega) hWhi (by rw [psF_0]; exact hL) hWro hM hM2 hWtb hWtn hWto hS (lv_sub hl [3, 4, 5, 6, 7, 8, 9, 10, 11, 12, 13, 14, 15, 2, 1, 0] rfl)
set_option maxHeartbeats 2500000 in
set_option maxRecDepth 100000 in
theorem cs_sign {p : Program} {l : Launch} {en : Env} {s : State} {m : MethodId} {below : List Frame} {meth : Method} {c : Code} {D : va_G} {cs : Nat → ClassId} {x bs N : Nat} {xs : Nat → Int32} {Q : State → Prop} (G : LwG p l s m c D cs x bs N xs) {T t : Nat} (hT9 : T ≤ 100) {H : Heap} {locs : List Loc} {cells slots : Nat} (hr1 : cells + 20 ≤ 600086) (hr2 : slots + 200 ≤ 7301441) (W0 : LwD D cs x T H) (hS : va_S (fun y9 : Nat => x ≤ y9) s.heap H locs) (k r : Nat) (v y : Int32) (hr3 : r < 3)  {ls : Array Slot} (hl : lv_has ls 16 [(0, .ref (bs)), (1, .ref (x)), (2, .ref (x + 360)), (3, .ref (x + 360 + 1)), (4, .ref (x + 360 + 2)), (5, .ref (x + 360 + 3)), (6, .ref (x + 360 + 4)), (7, .ref (x + 360 + 5)), (8, .int (nI (t))), (9, .int (v)), (10, .int (nI (k))), (11, .int (y)), (12, .int (nI (r)))])
  (K : ∀ (H : Heap) (locs : List Loc) (c1 s1 : Nat) (ls : Array Slot) (T1 : Nat), T1 ≤ T + 4 → LwD D cs x T1 H → va_S (fun y9 : Nat => x ≤ y9) s.heap H locs → c1 ≤ cells + 1 → s1 ≤ slots + 6 → lv_has ls 16 [(0, .ref (bs)), (1, .ref (x)), (2, .ref (x + 360)), (3, .ref (x + 360 + 1)), (4, .ref (x + 360 + 2)), (5, .ref (x + 360 + 3)), (6, .ref (x + 360 + 4)), (7, .ref (x + 360 + 5)), (8, .int (nI (t)))] → W p l en room_1 s m #[Value.ref bs] below meth c H locs c1 s1 Q (F0 m 769 ls [])) :
  W p l en room_1 s m #[Value.ref bs] below meth c H locs cells slots Q (F0 m 431 ls []) := by
  obtain ⟨hx, hb, hml, hown, hts, hK, hN, hXK0, hXN, hXs, hbl, hxs, hN9, hfl⟩ := id G
  obtain ⟨e, g, e1, g1, nx, cn, se, sg, b, nn, wd, ln, pa, ft, hHr, hL, hI, hG, hB, hT, hnx, hcn⟩ := W0
  obtain ⟨hWro, hM, hM2, hWhi, hWto, hWtb, hWtn⟩ := hHr
  have h24 := hI.M24
  have h6 := hI.R6
  have h8 := hB.M8
  have hR3 := hB.R
  have hrR : r < Rn e := by omega
  refine lv_bipush (v := -2) hx hb dL_law_431 (by decide) ?_
  refine lv_istore (lv' := [(13, .int ((-2))), (0, .ref (bs)), (1, .ref (x)), (2, .ref (x + 360)), (3, .ref (x + 360 + 1)), (4, .ref (x + 360 + 2)), (5, .ref (x + 360 + 3)), (6, .ref (x + 360 + 4)), (7, .ref (x + 360 + 5)), (8, .int (nI (t))), (9, .int (v)), (10, .int (nI (k))), (11, .int (y)), (12, .int (nI (r)))]) hx hb dL_law_433 hl (by decide) rfl (fun ls hl => ?_)
  refine lv_aload_n hx hb dL_law_435 rfl (lv_at hl 3 rfl) ?_
  refine lv_iconst (v := nI 0) hx hb dL_law_436 (by decide) ?_
  refine kx_iald (i := 0) hx hb hK hL.q 0 rfl (by omega) (by decide) dL_law_437 ?_
  refine kx_ci (x := qF e 0) (y := nI (Mn e)) (Inv.z4 hI) ?_
  refine lv_iconst (v := nI 1) hx hb dL_law_438 (by decide) ?_
  refine lv_isub hx hb dL_law_439 ?_
  refine lv_istore (lv' := [(14, .int ((nI (Mn e)) - (nI (1)))), (13, .int ((-2))), (0, .ref (bs)), (1, .ref (x)), (2, .ref (x + 360)), (3, .ref (x + 360 + 1)), (4, .ref (x + 360 + 2)), (5, .ref (x + 360 + 3)), (6, .ref (x + 360 + 4)), (7, .ref (x + 360 + 5)), (8, .int (nI (t))), (9, .int (v)), (10, .int (nI (k))), (11, .int (y)), (12, .int (nI (r)))]) hx hb dL_law_440 hl (by decide) rfl (fun ls hl => ?_)
  have J442 : ∀ (fu442 : Nat) (k0 : Nat) (f : Int32) (H : Heap) (locs : List Loc) (ls : Array Slot), k0 < fu442 → (k0 ≤ Mn e) → (FSP e r k0 f) → (k0 = Mn e ∨ e (56 + 4 * r + 3) = 0) → (HiC D cs (x + 119) nx cn se sg H) → (LwC D cs (x + 360) e g H) → (va_at D vwCl (x, .inr (5, [.ref (x + 1), .ref (x + 60), .ref (x + 119), .ref (x + 357)])) H) → (StC D cs (x + 1) e g H) → (StC D cs (x + 60) e1 g1 H) → (va_at D vwCl (x + 357 + 1, .inl (cs 1, 150, .inl b)) H) → (va_at D vwCl (x + 357 + 2, .inl (cs 0, 5, .inl nn)) H) → (va_at D vwCl (x + 357, .inr (0, [.ref (x + 357 + 1), .ref (x + 357 + 2), .ref (wd), .int (nI (ln)), .int (nI (pa)), .int (ft)])) H) → va_S ((fun y9 : Nat => x ≤ y9)) s.heap H locs → lv_has ls 16 [(0, .ref (bs)), (1, .ref (x)), (2, .ref (x + 360)), (3, .ref (x + 360 + 1)), (4, .ref (x + 360 + 2)), (5, .ref (x + 360 + 3)), (6, .ref (x + 360 + 4)), (7, .ref (x + 360 + 5)), (8, .int (nI (t))), (9, .int (v)), (10, .int (nI (k))), (11, .int (y)), (12, .int (nI (r))), (13, .int (f)), (14, .int (nI k0 - nI 1))] → W p l en room_1 s m #[Value.ref bs] below meth c H locs cells slots Q (F0 m 442 ls []) := by
    intro fu442; induction fu442 with
    | zero => intro k0 f H locs ls hmu442 hk0 hfs hst hWhi hL hWro hM hM2 hWtb hWtn hWto hS hl; exact absurd hmu442 (Nat.not_lt_zero _)
    | succ fu442 ih442 =>
      intro k0 f H locs ls hmu442 hk0 hfs hst hWhi hL hWro hM hM2 hWtb hWtn hWto hS hl
      refine lv_iload hx hb dL_law_442 (lv_at hl 14 rfl) ?_
      refine lv_if_lt (tgt := 503) hx hb dL_law_444 (by decide) (fun c444 => ?_) (fun c444 => ?_)
      · have hx9 : k0 = 0 ∨ ¬ e (56 + 4 * r + 3) = 0 := Or.inl ((nz_lt (by omega)).mp c444)
        rcases sg_end hI hrR hfs (by first | exact hst | exact Or.inl hst | exact Or.inr hst) hx9 with ⟨hw, rfl, hfM⟩ | ⟨hw, rfl⟩
        · refine lv_aload_n hx hb dL_law_503 rfl (lv_at hl 1 rfl) ?_
          refine lv_iload hx hb dL_law_504 (lv_at hl 12 rfl) ?_
          have hXK := hXK0.kept (H1 := H) (fun a h1 h2 => hS.2.1 a h1 h2)
          refine kx_retM (vx_runSW (As := [.ref (x), .int (nI (r))]) (rest := []) ⟨hx, hb, hml, hown, hts⟩ (k_L_sign l D cs x e g e1 g1 nx cn se sg b nn wd ln pa ft r hI hnx hcn hw hrR hfM x (Nat.le_refl x) hfl) (vx_cwSW 2 hts gL_law_L_sign rfl rfl rfl (by decide +kernel) ⟨Nat.le_of_ble_eq_true rfl, Nat.le_of_ble_eq_true rfl⟩) (kx_preY hK hN hXK hXN ⟨hWro, hM, hM2, hWhi, hWto, hWtb, hWtn⟩) rfl rfl hl.1 rfl (lv_room (Nat.le_of_ble_eq_true rfl)) dL_law_506 ⟨by show cells + 0 ≤ 600086; omega, by show slots + 0 ≤ 7301441; omega⟩) hS (fun y9 _ h => h.1) (fun y9 h => h.1) (fun H locs hMN hk hS => ?_)
          have hL := hL.frame hk (fun x h1 h2 h => by first | (have h3 := h.1; have h4 := h.2; omega) | (rcases h with h | h <;> first | (have h3 := h.1; have h4 := h.2; omega) | (have h3 : _ ≤ x := h; omega)) | (have h3 : _ ≤ x := h; omega))
          obtain ⟨hWro, hM, hM2, hWhi, hWto, hWtb, hWtn⟩ := hMN
          clear hk hXK
          refine lv_iload hx hb dL_law_509 (lv_at hl 13 rfl) ?_
          refine kn_icmp_eq (tgt := 516) hx hb dL_law_511 (by decide) (by omega) (by omega) (fun c511 => ?_) (fun c511 => ?_)
          · refine lv_iload hx hb dL_law_516 (lv_at hl 13 rfl) ?_
            refine lv_if_lt (tgt := 532) hx hb dL_law_518 (by decide) (fun h => absurd h (kn_neg (by omega))) (fun _ => ?_)
            refine lv_aload hx hb dL_law_521 (lv_at hl 5 rfl) ?_
            refine lv_bipush (v := nI 8) hx hb dL_law_523 (by decide) ?_
            refine lv_iload hx hb dL_law_525 (lv_at hl 13 rfl) ?_
            refine kn_mul hx hb dL_law_527 ?_
            refine lv_iconst (v := nI 5) hx hb dL_law_528 (by decide) ?_
            refine kn_add hx hb dL_law_529 ?_
            refine lv_iconst (v := nI 3) hx hb dL_law_530 (by decide) ?_
            refine kx_iast (i := 8 * (fcN e r) + 5) hx hb hK hL.mv hS (show x ≤ _ by omega) 0 rfl (by omega) (by decide) dL_law_531 (fun H locs hc hU hS => ?_)
            have hL := hL.put_mv (k := fcN e r) (p := 5) (by omega) (by decide) hc hU
            have hWhi := hWhi.off hU (by omega)
            have hWro := hWro.kept (hU.2 _ (by omega))
            have hM := hM.off hU (by omega)
            have hM2 := hM2.off hU (by omega)
            have hWtb := hWtb.kept (hU.2 _ (by omega))
            have hWtn := hWtn.kept (hU.2 _ (by omega))
            have hWto := hWto.kept (hU.2 _ (by omega))
            clear hc hU
            have hL : LwC D cs (x + 360) (upd e (80 + 10 * (fcN e r) + 5) (nI (3))) g H := hL
            have hL : LwC D cs (x + 360) (signF e (fcN e r)) g H := hL.alike (sign_tr e (by omega))
            refine lv_goto (tgt := 769) hx hb dL_law_532 (by decide) ?_
            exact K _ _ _ _ _ T (by omega) ⟨_, _, _, _, _, _, _, _, _, _, _, _, _, _, ⟨hWro, hM, hM2, hWhi, hWto, hWtb, hWtn⟩, hL, (signF_inv hI _), (hG.stay hI (signF_stay e)), (lb_sign hI hB hfM (fc_2 hfM)), ((signF_at e (fcN e r) 0).trans (by rw [if_neg (by omega), if_neg (by omega), if_neg (by omega)]; exact hT)), (Nat.mod_lt _ (by decide)), (Nat.min_le_right _ _)⟩ hS (Nat.le_add_right _ _) (Nat.le_add_right _ _) (lv_sub hl [0, 1, 2, 3, 4, 5, 6, 7, 8] rfl)
          · exact absurd rfl c511
        · refine lv_aload_n hx hb dL_law_503 rfl (lv_at hl 1 rfl) ?_
          refine lv_iload hx hb dL_law_504 (lv_at hl 12 rfl) ?_
          have hXK := hXK0.kept (H1 := H) (fun a h1 h2 => hS.2.1 a h1 h2)
          refine kx_retN (vx_runSW (As := [.ref (x), .int (nI (r))]) (rest := []) ⟨hx, hb, hml, hown, hts⟩ (k_L_signT3 l D cs x e g e1 g1 nx cn se sg b nn wd ln pa ft (nI r) hI (by rw [hw]; rfl) x (Nat.le_refl x) hfl) (vx_cwSW 2 hts gL_law_L_sign rfl rfl rfl (by decide +kernel) ⟨Nat.le_of_ble_eq_true rfl, Nat.le_of_ble_eq_true rfl⟩) (kx_preY hK hN hXK hXN ⟨hWro, hM, hM2, hWhi, hWto, hWtb, hWtn⟩) rfl rfl hl.1 rfl (lv_room (Nat.le_of_ble_eq_true rfl)) dL_law_506 ⟨by show cells + 1 ≤ 600086; omega, by show slots + 6 ≤ 7301441; omega⟩) hS (fun y9 _ h => h.1) (fun y9 h => h.1) (fun H locs hMN hk hS => ?_)
          have hL := hL.frame hk (fun x h1 h2 h => by first | (have h3 := h.1; have h4 := h.2; omega) | (rcases h with h | h <;> first | (have h3 := h.1; have h4 := h.2; omega) | (have h3 : _ ≤ x := h; omega)) | (have h3 : _ ≤ x := h; omega))
          obtain ⟨hWro, hM, hM2, hWhi, hWto, hWtb, hWtn⟩ := hMN
          clear hk hXK
          refine lv_iload hx hb dL_law_509 (lv_at hl 13 rfl) ?_
          refine lv_icmp_eq (tgt := 516) hx hb dL_law_511 (by decide) (fun c511 => ?_) (fun c511 => ?_)
          · refine lv_iload hx hb dL_law_516 (lv_at hl 13 rfl) ?_
            refine lv_if_lt (tgt := 532) hx hb dL_law_518 (by decide) (fun c518 => ?_) (fun c518 => ?_)
            · refine lv_goto (tgt := 769) hx hb dL_law_532 (by decide) ?_
              exact K _ _ _ _ _ T (by omega) ⟨_, _, _, _, _, _, _, _, _, _, _, _, _, _, ⟨hWro, hM, hM2, hWhi, hWto, hWtb, hWtn⟩, hL, hI, hG, hB, hT, hnx, hcn⟩ hS (Nat.le_refl _) (Nat.le_refl _) (lv_sub hl [0, 1, 2, 3, 4, 5, 6, 7, 8] rfl)
            · exact absurd (show (-2 : Int32) < 0 by decide) c518
          · exact absurd rfl c511
      · obtain ⟨k1, rfl⟩ : ∃ k1, k0 = k1 + 1 := ⟨k0 - 1, by have h7 : ¬ k0 = 0 := fun q => c444 ((nz_lt (by omega)).mpr q); omega⟩
        have hl : lv_has ls 16 [(0, .ref (bs)), (1, .ref (x)), (2, .ref (x + 360)), (3, .ref (x + 360 + 1)), (4, .ref (x + 360 + 2)), (5, .ref (x + 360 + 3)), (6, .ref (x + 360 + 4)), (7, .ref (x + 360 + 5)), (8, .int (nI (t))), (9, .int (v)), (10, .int (nI (k))), (11, .int (y)), (12, .int (nI (r))), (13, .int (f)), (14, .int (nI (k1)))] := by rw [nI_prd] at hl; exact hl
        have hkM : k1 < Mn e := by omega
        have hs3 := hI.s3 hkM
        have hmt := hI.mt hkM
        refine lv_aload hx hb dL_law_447 (lv_at hl 4 rfl) ?_
        refine lv_iconst (v := nI 4) hx hb dL_law_449 (by decide) ?_
        refine lv_iload hx hb dL_law_450 (lv_at hl 12 rfl) ?_
        refine kn_mul hx hb dL_law_452 ?_
        refine lv_iconst (v := nI 3) hx hb dL_law_453 (by decide) ?_
        refine kn_add hx hb dL_law_454 ?_
        refine kx_iald (i := 4 * r + 3) hx hb hK hL.rg 0 rfl (by omega) (by decide) dL_law_455 ?_
        refine kx_ci (x := e (56 + (4 * r + 3))) (y := e (56 + 4 * r + 3)) (congrArg e (by omega)) ?_
        refine lv_if_ne (tgt := 503) hx hb dL_law_456 (by decide) (fun c456 => ?_) (fun c456 => ?_)
        · have hx9 : k1 + 1 = 0 ∨ ¬ e (56 + 4 * r + 3) = 0 := Or.inr c456
          have hl : lv_has ls 16 [(0, .ref (bs)), (1, .ref (x)), (2, .ref (x + 360)), (3, .ref (x + 360 + 1)), (4, .ref (x + 360 + 2)), (5, .ref (x + 360 + 3)), (6, .ref (x + 360 + 4)), (7, .ref (x + 360 + 5)), (8, .int (nI (t))), (9, .int (v)), (10, .int (nI (k))), (11, .int (y)), (12, .int (nI (r))), (13, .int (f)), (14, .int (nI (k1 + 1) - nI 1))] := by rw [nI_prd]; exact hl
          rcases sg_end hI hrR hfs (by first | exact hst | exact Or.inl hst | exact Or.inr hst) hx9 with ⟨hw, rfl, hfM⟩ | ⟨hw, rfl⟩
          · refine lv_aload_n hx hb dL_law_503 rfl (lv_at hl 1 rfl) ?_
            refine lv_iload hx hb dL_law_504 (lv_at hl 12 rfl) ?_
            have hXK := hXK0.kept (H1 := H) (fun a h1 h2 => hS.2.1 a h1 h2)
            refine kx_retM (vx_runSW (As := [.ref (x), .int (nI (r))]) (rest := []) ⟨hx, hb, hml, hown, hts⟩ (k_L_sign l D cs x e g e1 g1 nx cn se sg b nn wd ln pa ft r hI hnx hcn hw hrR hfM x (Nat.le_refl x) hfl) (vx_cwSW 2 hts gL_law_L_sign rfl rfl rfl (by decide +kernel) ⟨Nat.le_of_ble_eq_true rfl, Nat.le_of_ble_eq_true rfl⟩) (kx_preY hK hN hXK hXN ⟨hWro, hM, hM2, hWhi, hWto, hWtb, hWtn⟩) rfl rfl hl.1 rfl (lv_room (Nat.le_of_ble_eq_true rfl)) dL_law_506 ⟨by show cells + 0 ≤ 600086; omega, by show slots + 0 ≤ 7301441; omega⟩) hS (fun y9 _ h => h.1) (fun y9 h => h.1) (fun H locs hMN hk hS => ?_)
            have hL := hL.frame hk (fun x h1 h2 h => by first | (have h3 := h.1; have h4 := h.2; omega) | (rcases h with h | h <;> first | (have h3 := h.1; have h4 := h.2; omega) | (have h3 : _ ≤ x := h; omega)) | (have h3 : _ ≤ x := h; omega))
            obtain ⟨hWro, hM, hM2, hWhi, hWto, hWtb, hWtn⟩ := hMN
            clear hk hXK
            refine lv_iload hx hb dL_law_509 (lv_at hl 13 rfl) ?_
            refine kn_icmp_eq (tgt := 516) hx hb dL_law_511 (by decide) (by omega) (by omega) (fun c511 => ?_) (fun c511 => ?_)
            · refine lv_iload hx hb dL_law_516 (lv_at hl 13 rfl) ?_
              refine lv_if_lt (tgt := 532) hx hb dL_law_518 (by decide) (fun h => absurd h (kn_neg (by omega))) (fun _ => ?_)
              refine lv_aload hx hb dL_law_521 (lv_at hl 5 rfl) ?_
              refine lv_bipush (v := nI 8) hx hb dL_law_523 (by decide) ?_
              refine lv_iload hx hb dL_law_525 (lv_at hl 13 rfl) ?_
              refine kn_mul hx hb dL_law_527 ?_
              refine lv_iconst (v := nI 5) hx hb dL_law_528 (by decide) ?_
              refine kn_add hx hb dL_law_529 ?_
              refine lv_iconst (v := nI 3) hx hb dL_law_530 (by decide) ?_
              refine kx_iast (i := 8 * (fcN e r) + 5) hx hb hK hL.mv hS (show x ≤ _ by omega) 0 rfl (by omega) (by decide) dL_law_531 (fun H locs hc hU hS => ?_)
              have hL := hL.put_mv (k := fcN e r) (p := 5) (by omega) (by decide) hc hU
              have hWhi := hWhi.off hU (by omega)
              have hWro := hWro.kept (hU.2 _ (by omega))
              have hM := hM.off hU (by omega)
              have hM2 := hM2.off hU (by omega)
              have hWtb := hWtb.kept (hU.2 _ (by omega))
              have hWtn := hWtn.kept (hU.2 _ (by omega))
              have hWto := hWto.kept (hU.2 _ (by omega))
              clear hc hU
              have hL : LwC D cs (x + 360) (upd e (80 + 10 * (fcN e r) + 5) (nI (3))) g H := hL
              have hL : LwC D cs (x + 360) (signF e (fcN e r)) g H := hL.alike (sign_tr e (by omega))
              refine lv_goto (tgt := 769) hx hb dL_law_532 (by decide) ?_
              exact K _ _ _ _ _ T (by omega) ⟨_, _, _, _, _, _, _, _, _, _, _, _, _, _, ⟨hWro, hM, hM2, hWhi, hWto, hWtb, hWtn⟩, hL, (signF_inv hI _), (hG.stay hI (signF_stay e)), (lb_sign hI hB hfM (fc_2 hfM)), ((signF_at e (fcN e r) 0).trans (by rw [if_neg (by omega), if_neg (by omega), if_neg (by omega)]; exact hT)), (Nat.mod_lt _ (by decide)), (Nat.min_le_right _ _)⟩ hS (Nat.le_add_right _ _) (Nat.le_add_right _ _) (lv_sub hl [0, 1, 2, 3, 4, 5, 6, 7, 8] rfl)
            · exact absurd rfl c511
          · refine lv_aload_n hx hb dL_law_503 rfl (lv_at hl 1 rfl) ?_
            refine lv_iload hx hb dL_law_504 (lv_at hl 12 rfl) ?_
            have hXK := hXK0.kept (H1 := H) (fun a h1 h2 => hS.2.1 a h1 h2)
            refine kx_retN (vx_runSW (As := [.ref (x), .int (nI (r))]) (rest := []) ⟨hx, hb, hml, hown, hts⟩ (k_L_signT3 l D cs x e g e1 g1 nx cn se sg b nn wd ln pa ft (nI r) hI (by rw [hw]; rfl) x (Nat.le_refl x) hfl) (vx_cwSW 2 hts gL_law_L_sign rfl rfl rfl (by decide +kernel) ⟨Nat.le_of_ble_eq_true rfl, Nat.le_of_ble_eq_true rfl⟩) (kx_preY hK hN hXK hXN ⟨hWro, hM, hM2, hWhi, hWto, hWtb, hWtn⟩) rfl rfl hl.1 rfl (lv_room (Nat.le_of_ble_eq_true rfl)) dL_law_506 ⟨by show cells + 1 ≤ 600086; omega, by show slots + 6 ≤ 7301441; omega⟩) hS (fun y9 _ h => h.1) (fun y9 h => h.1) (fun H locs hMN hk hS => ?_)
            have hL := hL.frame hk (fun x h1 h2 h => by first | (have h3 := h.1; have h4 := h.2; omega) | (rcases h with h | h <;> first | (have h3 := h.1; have h4 := h.2; omega) | (have h3 : _ ≤ x := h; omega)) | (have h3 : _ ≤ x := h; omega))
            obtain ⟨hWro, hM, hM2, hWhi, hWto, hWtb, hWtn⟩ := hMN
            clear hk hXK
            refine lv_iload hx hb dL_law_509 (lv_at hl 13 rfl) ?_
            refine lv_icmp_eq (tgt := 516) hx hb dL_law_511 (by decide) (fun c511 => ?_) (fun c511 => ?_)
            · refine lv_iload hx hb dL_law_516 (lv_at hl 13 rfl) ?_
              refine lv_if_lt (tgt := 532) hx hb dL_law_518 (by decide) (fun c518 => ?_) (fun c518 => ?_)
              · refine lv_goto (tgt := 769) hx hb dL_law_532 (by decide) ?_
                exact K _ _ _ _ _ T (by omega) ⟨_, _, _, _, _, _, _, _, _, _, _, _, _, _, ⟨hWro, hM, hM2, hWhi, hWto, hWtb, hWtn⟩, hL, hI, hG, hB, hT, hnx, hcn⟩ hS (Nat.le_refl _) (Nat.le_refl _) (lv_sub hl [0, 1, 2, 3, 4, 5, 6, 7, 8] rfl)
              · exact absurd (show (-2 : Int32) < 0 by decide) c518
            · exact absurd rfl c511
        · refine lv_aload hx hb dL_law_459 (lv_at hl 5 rfl) ?_
          refine lv_bipush (v := nI 8) hx hb dL_law_461 (by decide) ?_
          refine lv_iload hx hb dL_law_463 (lv_at hl 14 rfl) ?_
          refine kn_mul hx hb dL_law_465 ?_
          refine lv_iconst (v := nI 2) hx hb dL_law_466 (by decide) ?_
          refine kn_add hx hb dL_law_467 ?_
          refine kx_iald (i := 8 * k1 + 2) hx hb hK hL.mv 0 rfl (by omega) (by decide) dL_law_468 ?_
          refine kx_ci (x := mvF e (8 * k1 + 2)) (y := nI (mT e k1)) (Eq.trans (mvF_lo e k1 (p := 2) (by omega)) (Inv.m2 hI hkM)) ?_
          refine lv_iload hx hb dL_law_469 (lv_at hl 12 rfl) ?_
          refine kn_icmp_ne (tgt := 493) hx hb dL_law_471 (by decide) (by omega) (by omega) (fun c471 => ?_) (fun c471 => ?_)
          · refine lv_iload hx hb dL_law_493 (lv_at hl 13 rfl) ?_
            refine lv_istore (lv' := [(13, .int (f)), (0, .ref (bs)), (1, .ref (x)), (2, .ref (x + 360)), (3, .ref (x + 360 + 1)), (4, .ref (x + 360 + 2)), (5, .ref (x + 360 + 3)), (6, .ref (x + 360 + 4)), (7, .ref (x + 360 + 5)), (8, .int (nI (t))), (9, .int (v)), (10, .int (nI (k))), (11, .int (y)), (12, .int (nI (r))), (14, .int (nI (k1)))]) hx hb dL_law_495 hl (by decide) rfl (fun ls hl => ?_)
            refine lv_iinc (v := nI (k1) + (-1)) (lv' := [(14, .int (nI (k1) + (-1))), (13, .int (f)), (0, .ref (bs)), (1, .ref (x)), (2, .ref (x + 360)), (3, .ref (x + 360 + 1)), (4, .ref (x + 360 + 2)), (5, .ref (x + 360 + 3)), (6, .ref (x + 360 + 4)), (7, .ref (x + 360 + 5)), (8, .int (nI (t))), (9, .int (v)), (10, .int (nI (k))), (11, .int (y)), (12, .int (nI (r)))]) (k := 14) hx hb dL_law_497 hl rfl rfl (by decide) rfl (fun ls hl => ?_)
            refine lv_goto (tgt := 442) hx hb dL_law_500 (by decide) ?_
            have hl : lv_has ls 16 [(14, .int (nI k1 - nI 1)), (13, .int (f)), (0, .ref (bs)), (1, .ref (x)), (2, .ref (x + 360)), (3, .ref (x + 360 + 1)), (4, .ref (x + 360 + 2)), (5, .ref (x + 360 + 3)), (6, .ref (x + 360 + 4)), (7, .ref (x + 360 + 5)), (8, .int (nI (t))), (9, .int (v)), (10, .int (nI (k))), (11, .int (y)), (12, .int (nI (r)))] := by rw [dec_is] at hl; exact hl
            exact ih442 k1 f _ _ _ (by omega) (by omega) (fs_n (isC_f (by first | exact Or.inl c471 | exact Or.inr c485)) hfs) (Or.inr c456) hWhi hL hWro hM hM2 hWtb hWtn hWto hS (lv_sub hl [2, 3, 4, 5, 6, 7, 8, 9, 10, 11, 12, 13, 14, 1, 0] rfl)
          · refine lv_aload hx hb dL_law_474 (lv_at hl 5 rfl) ?_
            refine lv_bipush (v := nI 8) hx hb dL_law_476 (by decide) ?_
            refine lv_iload hx hb dL_law_478 (lv_at hl 14 rfl) ?_
            refine kn_mul hx hb dL_law_480 ?_
            refine lv_iconst (v := nI 5) hx hb dL_law_481 (by decide) ?_
            refine kn_add hx hb dL_law_482 ?_
            refine kx_iald (i := 8 * k1 + 5) hx hb hK hL.mv 0 rfl (by omega) (by decide) dL_law_483 ?_
            refine kx_ci (x := mvF e (8 * k1 + 5)) (y := nI (mS e k1)) (Eq.trans (mvF_lo e k1 (p := 5) (by omega)) (Inv.m5 hI hkM)) ?_
            refine lv_iconst (v := nI 2) hx hb dL_law_484 (by decide) ?_
            refine kn_icmp_ne (tgt := 493) hx hb dL_law_485 (by decide) (by omega) (by decide) (fun c485 => ?_) (fun c485 => ?_)
            · refine lv_iload hx hb dL_law_493 (lv_at hl 13 rfl) ?_
              refine lv_istore (lv' := [(13, .int (f)), (0, .ref (bs)), (1, .ref (x)), (2, .ref (x + 360)), (3, .ref (x + 360 + 1)), (4, .ref (x + 360 + 2)), (5, .ref (x + 360 + 3)), (6, .ref (x + 360 + 4)), (7, .ref (x + 360 + 5)), (8, .int (nI (t))), (9, .int (v)), (10, .int (nI (k))), (11, .int (y)), (12, .int (nI (r))), (14, .int (nI (k1)))]) hx hb dL_law_495 hl (by decide) rfl (fun ls hl => ?_)
              refine lv_iinc (v := nI (k1) + (-1)) (lv' := [(14, .int (nI (k1) + (-1))), (13, .int (f)), (0, .ref (bs)), (1, .ref (x)), (2, .ref (x + 360)), (3, .ref (x + 360 + 1)), (4, .ref (x + 360 + 2)), (5, .ref (x + 360 + 3)), (6, .ref (x + 360 + 4)), (7, .ref (x + 360 + 5)), (8, .int (nI (t))), (9, .int (v)), (10, .int (nI (k))), (11, .int (y)), (12, .int (nI (r)))]) (k := 14) hx hb dL_law_497 hl rfl rfl (by decide) rfl (fun ls hl => ?_)
              refine lv_goto (tgt := 442) hx hb dL_law_500 (by decide) ?_
              have hl : lv_has ls 16 [(14, .int (nI k1 - nI 1)), (13, .int (f)), (0, .ref (bs)), (1, .ref (x)), (2, .ref (x + 360)), (3, .ref (x + 360 + 1)), (4, .ref (x + 360 + 2)), (5, .ref (x + 360 + 3)), (6, .ref (x + 360 + 4)), (7, .ref (x + 360 + 5)), (8, .int (nI (t))), (9, .int (v)), (10, .int (nI (k))), (11, .int (y)), (12, .int (nI (r)))] := by rw [dec_is] at hl; exact hl
              exact ih442 k1 f _ _ _ (by omega) (by omega) (fs_n (isC_f (by first | exact Or.inl c471 | exact Or.inr c485)) hfs) (Or.inr c456) hWhi hL hWro hM hM2 hWtb hWtn hWto hS (lv_sub hl [2, 3, 4, 5, 6, 7, 8, 9, 10, 11, 12, 13, 14, 1, 0] rfl)
            · refine lv_iload hx hb dL_law_488 (lv_at hl 14 rfl) ?_
              refine lv_goto (tgt := 495) hx hb dL_law_490 (by decide) ?_
              refine lv_istore (lv' := [(13, .int (nI (k1))), (0, .ref (bs)), (1, .ref (x)), (2, .ref (x + 360)), (3, .ref (x + 360 + 1)), (4, .ref (x + 360 + 2)), (5, .ref (x + 360 + 3)), (6, .ref (x + 360 + 4)), (7, .ref (x + 360 + 5)), (8, .int (nI (t))), (9, .int (v)), (10, .int (nI (k))), (11, .int (y)), (12, .int (nI (r))), (14, .int (nI (k1)))]) hx hb dL_law_495 hl (by decide) rfl (fun ls hl => ?_)
              refine lv_iinc (v := nI (k1) + (-1)) (lv' := [(14, .int (nI (k1) + (-1))), (13, .int (nI (k1))), (0, .ref (bs)), (1, .ref (x)), (2, .ref (x + 360)), (3, .ref (x + 360 + 1)), (4, .ref (x + 360 + 2)), (5, .ref (x + 360 + 3)), (6, .ref (x + 360 + 4)), (7, .ref (x + 360 + 5)), (8, .int (nI (t))), (9, .int (v)), (10, .int (nI (k))), (11, .int (y)), (12, .int (nI (r)))]) (k := 14) hx hb dL_law_497 hl rfl rfl (by decide) rfl (fun ls hl => ?_)
              refine lv_goto (tgt := 442) hx hb dL_law_500 (by decide) ?_
              have hl : lv_has ls 16 [(14, .int (nI k1 - nI 1)), (13, .int (nI (k1))), (0, .ref (bs)), (1, .ref (x)), (2, .ref (x + 360)), (3, .ref (x + 360 + 1)), (4, .ref (x + 360 + 2)), (5, .ref (x + 360 + 3)), (6, .ref (x + 360 + 4)), (7, .ref (x + 360 + 5)), (8, .int (nI (t))), (9, .int (v)), (10, .int (nI (k))), (11, .int (y)), (12, .int (nI (r)))] := by rw [dec_is] at hl; exact hl
              exact ih442 k1 (nI (k1)) _ _ _ (by omega) (by omega) (fs_y f hkM (isC_t c471 c485)) (Or.inr c456) hWhi hL hWro hM hM2 hWtb hWtn hWto hS (lv_sub hl [2, 3, 4, 5, 6, 7, 8, 9, 10, 11, 12, 13, 14, 1, 0] rfl)
  exact J442 _ (Mn e) (-2) _ _ _ (Nat.lt_succ_self _) (by omega) (fs_0 e r) (Or.inl rfl) hWhi hL hWro hM hM2 hWtb hWtn hWto hS (lv_sub hl [2, 3, 4, 5, 6, 7, 8, 9, 10, 11, 12, 13, 14, 1, 0] rfl)
set_option maxHeartbeats 2500000 in
set_option maxRecDepth 100000 in
theorem cs_strike {p : Program} {l : Launch} {en : Env} {s : State} {m : MethodId} {below : List Frame} {meth : Method} {c : Code} {D : va_G} {cs : Nat → ClassId} {x bs N : Nat} {xs : Nat → Int32} {Q : State → Prop} (G : LwG p l s m c D cs x bs N xs) {T t : Nat} (hT9 : T ≤ 100) {H : Heap} {locs : List Loc} {cells slots : Nat} (hr1 : cells + 20 ≤ 600086) (hr2 : slots + 200 ≤ 7301441) (W0 : LwD D cs x T H) (hS : va_S (fun y9 : Nat => x ≤ y9) s.heap H locs) (k r : Nat) (v y : Int32) (hr3 : r < 3)  {ls : Array Slot} (hl : lv_has ls 16 [(0, .ref (bs)), (1, .ref (x)), (2, .ref (x + 360)), (3, .ref (x + 360 + 1)), (4, .ref (x + 360 + 2)), (5, .ref (x + 360 + 3)), (6, .ref (x + 360 + 4)), (7, .ref (x + 360 + 5)), (8, .int (nI (t))), (9, .int (v)), (10, .int (nI (k))), (11, .int (y)), (12, .int (nI (r)))])
  (K : ∀ (H : Heap) (locs : List Loc) (c1 s1 : Nat) (ls : Array Slot) (T1 : Nat), T1 ≤ T + 4 → LwD D cs x T1 H → va_S (fun y9 : Nat => x ≤ y9) s.heap H locs → c1 ≤ cells + 1 → s1 ≤ slots + 6 → lv_has ls 16 [(0, .ref (bs)), (1, .ref (x)), (2, .ref (x + 360)), (3, .ref (x + 360 + 1)), (4, .ref (x + 360 + 2)), (5, .ref (x + 360 + 3)), (6, .ref (x + 360 + 4)), (7, .ref (x + 360 + 5)), (8, .int (nI (t)))] → W p l en room_1 s m #[Value.ref bs] below meth c H locs c1 s1 Q (F0 m 769 ls [])) :
  W p l en room_1 s m #[Value.ref bs] below meth c H locs cells slots Q (F0 m 542 ls []) := by
  obtain ⟨hx, hb, hml, hown, hts, hK, hN, hXK0, hXN, hXs, hbl, hxs, hN9, hfl⟩ := id G
  obtain ⟨e, g, e1, g1, nx, cn, se, sg, b, nn, wd, ln, pa, ft, hHr, hL, hI, hG, hB, hT, hnx, hcn⟩ := W0
  obtain ⟨hWro, hM, hM2, hWhi, hWto, hWtb, hWtn⟩ := hHr
  have h24 := hI.M24
  have h6 := hI.R6
  have h8 := hB.M8
  have hR3 := hB.R
  have hrR : r < Rn e := by omega
  have J559 : ∀ (H : Heap) (locs : List Loc) (ls : Array Slot), (HiC D cs (x + 119) nx cn se sg H) → (LwC D cs (x + 360) e g H) → (va_at D vwCl (x, .inr (5, [.ref (x + 1), .ref (x + 60), .ref (x + 119), .ref (x + 357)])) H) → (StC D cs (x + 1) e g H) → (StC D cs (x + 60) e1 g1 H) → (va_at D vwCl (x + 357 + 1, .inl (cs 1, 150, .inl b)) H) → (va_at D vwCl (x + 357 + 2, .inl (cs 0, 5, .inl nn)) H) → (va_at D vwCl (x + 357, .inr (0, [.ref (x + 357 + 1), .ref (x + 357 + 2), .ref (wd), .int (nI (ln)), .int (nI (pa)), .int (ft)])) H) → va_S ((fun y9 : Nat => x ≤ y9)) s.heap H locs → lv_has ls 16 [(0, .ref (bs)), (1, .ref (x)), (2, .ref (x + 360)), (3, .ref (x + 360 + 1)), (4, .ref (x + 360 + 2)), (5, .ref (x + 360 + 3)), (6, .ref (x + 360 + 4)), (7, .ref (x + 360 + 5)), (8, .int (nI (t))), (9, .int (v)), (10, .int (nI (k))), (11, .int (y)), (12, .int (nI (r)))] → W p l en room_1 s m #[Value.ref bs] below meth c H locs cells slots Q (F0 m 559 ls [.int (bI (sgD y))]) := by
    intro H locs ls hWhi hL hWro hM hM2 hWtb hWtn hWto hS hl
    refine lv_istore (lv' := [(13, .int (bI (sgD y))), (0, .ref (bs)), (1, .ref (x)), (2, .ref (x + 360)), (3, .ref (x + 360 + 1)), (4, .ref (x + 360 + 2)), (5, .ref (x + 360 + 3)), (6, .ref (x + 360 + 4)), (7, .ref (x + 360 + 5)), (8, .int (nI (t))), (9, .int (v)), (10, .int (nI (k))), (11, .int (y)), (12, .int (nI (r)))]) hx hb dL_law_559 hl (by decide) rfl (fun ls hl => ?_)
    refine lv_iconst (v := nI 0) hx hb dL_law_561 (by decide) ?_
    refine lv_istore (lv' := [(14, .int (nI (0))), (13, .int (bI (sgD y))), (0, .ref (bs)), (1, .ref (x)), (2, .ref (x + 360)), (3, .ref (x + 360 + 1)), (4, .ref (x + 360 + 2)), (5, .ref (x + 360 + 3)), (6, .ref (x + 360 + 4)), (7, .ref (x + 360 + 5)), (8, .int (nI (t))), (9, .int (v)), (10, .int (nI (k))), (11, .int (y)), (12, .int (nI (r)))]) hx hb dL_law_562 hl (by decide) rfl (fun ls hl => ?_)
    refine lv_iconst (v := nI 0) hx hb dL_law_564 (by decide) ?_
    refine lv_istore (lv' := [(15, .int (nI (0))), (14, .int (nI (0))), (13, .int (bI (sgD y))), (0, .ref (bs)), (1, .ref (x)), (2, .ref (x + 360)), (3, .ref (x + 360 + 1)), (4, .ref (x + 360 + 2)), (5, .ref (x + 360 + 3)), (6, .ref (x + 360 + 4)), (7, .ref (x + 360 + 5)), (8, .int (nI (t))), (9, .int (v)), (10, .int (nI (k))), (11, .int (y)), (12, .int (nI (r)))]) hx hb dL_law_565 hl (by decide) rfl (fun ls hl => ?_)
    have J567 : ∀ (fu567 : Nat) (k0 : Nat) (H : Heap) (locs : List Loc) (ls : Array Slot), (Mn e - k0) < fu567 → (k0 ≤ Mn e) → (HiC D cs (x + 119) nx cn se sg H) → (LwC D cs (x + 360) e g H) → (va_at D vwCl (x, .inr (5, [.ref (x + 1), .ref (x + 60), .ref (x + 119), .ref (x + 357)])) H) → (StC D cs (x + 1) e g H) → (StC D cs (x + 60) e1 g1 H) → (va_at D vwCl (x + 357 + 1, .inl (cs 1, 150, .inl b)) H) → (va_at D vwCl (x + 357 + 2, .inl (cs 0, 5, .inl nn)) H) → (va_at D vwCl (x + 357, .inr (0, [.ref (x + 357 + 1), .ref (x + 357 + 2), .ref (wd), .int (nI (ln)), .int (nI (pa)), .int (ft)])) H) → va_S ((fun y9 : Nat => x ≤ y9)) s.heap H locs → lv_has ls 16 [(0, .ref (bs)), (1, .ref (x)), (2, .ref (x + 360)), (3, .ref (x + 360 + 1)), (4, .ref (x + 360 + 2)), (5, .ref (x + 360 + 3)), (6, .ref (x + 360 + 4)), (7, .ref (x + 360 + 5)), (8, .int (nI (t))), (9, .int (v)), (10, .int (nI (k))), (11, .int (y)), (12, .int (nI (r))), (13, .int (bI (sgD y))), (14, .int (nI (cpK e r k0))), (15, .int (nI (k0)))] → W p l en room_1 s m #[Value.ref bs] below meth c H locs cells slots Q (F0 m 567 ls []) := by
      intro fu567; induction fu567 with
      | zero => intro k0 H locs ls hmu567 hk0 hWhi hL hWro hM hM2 hWtb hWtn hWto hS hl; exact absurd hmu567 (Nat.not_lt_zero _)
      | succ fu567 ih567 =>
        intro k0 H locs ls hmu567 hk0 hWhi hL hWro hM hM2 hWtb hWtn hWto hS hl
        refine lv_iload hx hb dL_law_567 (lv_at hl 15 rfl) ?_
        refine lv_aload_n hx hb dL_law_569 rfl (lv_at hl 2 rfl) ?_
        refine lv_iconst (v := nI 0) hx hb dL_law_570 (by decide) ?_
        refine kx_iald (i := 0) hx hb hK hL.q 0 rfl (by omega) (by decide) dL_law_571 ?_
        refine kx_ci (x := qF e 0) (y := nI (Mn e)) (Inv.z4 hI) ?_
        refine kn_icmp_ge (tgt := 620) hx hb dL_law_572 (by decide) (by omega) (by omega) (fun c_1 => ?_) (fun c_1 => ?_)
        · rcases sk_four hI hrR y with ⟨h3, hd, hw⟩ | ⟨h3, hd, hw⟩ | ⟨h3, hd, hw⟩ | ⟨h3, hd, hw⟩
          · have hkk : k0 = Mn e := by omega
            subst hkk
            have hl : lv_has ls 16 [(0, .ref (bs)), (1, .ref (x)), (2, .ref (x + 360)), (3, .ref (x + 360 + 1)), (4, .ref (x + 360 + 2)), (5, .ref (x + 360 + 3)), (6, .ref (x + 360 + 4)), (7, .ref (x + 360 + 5)), (8, .int (nI (t))), (9, .int (v)), (10, .int (nI (k))), (11, .int (y)), (12, .int (nI (r))), (13, .int (bI (sgD y))), (14, .int (nI (cpN e r))), (15, .int (nI (Mn e)))] := hl
            have hcp := cpK_le e r (Mn e)
            refine lv_aload_n hx hb dL_law_620 rfl (lv_at hl 1 rfl) ?_
            refine lv_iload hx hb dL_law_621 (lv_at hl 12 rfl) ?_
            refine lv_iload hx hb dL_law_623 (lv_at hl 13 rfl) ?_
            have hXK := hXK0.kept (H1 := H) (fun a h1 h2 => hS.2.1 a h1 h2)
            refine kx_retN (vx_runSW (As := [.ref (x), .int (nI (r)), .int (bI (sgD y))]) (rest := []) ⟨hx, hb, hml, hown, hts⟩ (k_L_strikeT3 l D cs x e g e1 g1 nx cn se sg b nn wd ln pa ft (nI r) (sgD y) hI hw x (Nat.le_refl x) hfl) (vx_cwSW 3 hts gL_law_L_strike rfl rfl rfl (by decide +kernel) ⟨Nat.le_of_ble_eq_true rfl, Nat.le_of_ble_eq_true rfl⟩) (kx_preY hK hN hXK hXN ⟨hWro, hM, hM2, hWhi, hWto, hWtb, hWtn⟩) rfl rfl hl.1 rfl (lv_room (Nat.le_of_ble_eq_true rfl)) dL_law_625 ⟨by show cells + 1 ≤ 600086; omega, by show slots + 6 ≤ 7301441; omega⟩) hS (fun y9 _ h => h.1) (fun y9 h => h.1) (fun H locs hMN hk hS => ?_)
            have hL := hL.frame hk (fun x h1 h2 h => by first | (have h3 := h.1; have h4 := h.2; omega) | (rcases h with h | h <;> first | (have h3 := h.1; have h4 := h.2; omega) | (have h3 : _ ≤ x := h; omega)) | (have h3 : _ ≤ x := h; omega))
            obtain ⟨hWro, hM, hM2, hWhi, hWto, hWtb, hWtn⟩ := hMN
            clear hk hXK
            refine lv_aload hx hb dL_law_628 (lv_at hl 4 rfl) ?_
            refine lv_iconst (v := nI 4) hx hb dL_law_630 (by decide) ?_
            refine lv_iload hx hb dL_law_631 (lv_at hl 12 rfl) ?_
            refine kn_mul hx hb dL_law_633 ?_
            refine lv_iconst (v := nI 3) hx hb dL_law_634 (by decide) ?_
            refine kn_add hx hb dL_law_635 ?_
            refine kx_iald (i := 4 * r + 3) hx hb hK hL.rg 0 rfl (by omega) (by decide) dL_law_636 ?_
            refine kx_ci (x := e (56 + (4 * r + 3))) (y := e (56 + 4 * r + 3)) (congrArg e (by omega)) ?_
            refine lv_iconst (v := nI 1) hx hb dL_law_637 (by decide) ?_
            refine lv_icmp_ne (tgt := 645) hx hb dL_law_638 (by decide) (fun c638 => ?_) (fun c638 => ?_)
            · refine lv_iconst (v := nI 0) hx hb dL_law_645 (by decide) ?_
              refine lv_iload hx hb dL_law_646 (lv_at hl 13 rfl) ?_
              refine lv_icmp_ne (tgt := 656) hx hb dL_law_648 (by decide) (fun c648 => ?_) (fun c648 => ?_)
              · exact absurd (by rw [hd]; rfl) c648
              · refine lv_bipush (v := -2) hx hb dL_law_651 (by decide) ?_
                refine lv_goto (tgt := 658) hx hb dL_law_653 (by decide) ?_
                refine lv_icmp_eq (tgt := 663) hx hb dL_law_658 (by decide) (fun c658 => ?_) (fun c658 => ?_)
                · refine lv_aload hx hb dL_law_663 (lv_at hl 4 rfl) ?_
                  refine lv_iconst (v := nI 4) hx hb dL_law_665 (by decide) ?_
                  refine lv_iload hx hb dL_law_666 (lv_at hl 12 rfl) ?_
                  refine kn_mul hx hb dL_law_668 ?_
                  refine lv_iconst (v := nI 3) hx hb dL_law_669 (by decide) ?_
                  refine kn_add hx hb dL_law_670 ?_
                  refine lv_iload hx hb dL_law_671 (lv_at hl 13 rfl) ?_
                  refine kb_if_eq (tgt := 680) hx hb dL_law_673 (by decide) (fun c673 => ?_) (fun c673 => ?_)
                  · refine lv_iconst (v := nI 0) hx hb dL_law_680 (by decide) ?_
                    refine kx_iast (i := 4 * r + 3) hx hb hK hL.rg hS (show x ≤ _ by omega) 0 rfl (by omega) (by decide) dL_law_681 (fun H locs hc hU hS => ?_)
                    have hL := hL.put_rg (i := 4 * r + 3) (by omega) hc hU
                    have hWhi := hWhi.off hU (by omega)
                    have hWro := hWro.kept (hU.2 _ (by omega))
                    have hM := hM.off hU (by omega)
                    have hM2 := hM2.off hU (by omega)
                    have hWtb := hWtb.kept (hU.2 _ (by omega))
                    have hWtn := hWtn.kept (hU.2 _ (by omega))
                    have hWto := hWto.kept (hU.2 _ (by omega))
                    clear hc hU
                    have hL : LwC D cs (x + 360) (upd e (56 + (4 * r + 3)) (nI (0))) g H := hL
                    have hL : LwC D cs (x + 360) e g H := (by have q9 := hL; rw [show 56 + (4 * r + 3) = 56 + 4 * r + 3 by omega, upd_same h3] at q9; exact q9)
                    refine lv_goto (tgt := 769) hx hb dL_law_682 (by decide) ?_
                    exact K _ _ _ _ _ T (by omega) ⟨_, _, _, _, _, _, _, _, _, _, _, _, _, _, ⟨hWro, hM, hM2, hWhi, hWto, hWtb, hWtn⟩, hL, hI, hG, hB, hT, hnx, hcn⟩ hS (Nat.le_refl _) (Nat.le_refl _) (lv_sub hl [0, 1, 2, 3, 4, 5, 6, 7, 8] rfl)
                  · exact absurd (hd.symm.trans c673) (by decide)
                · exact absurd rfl c658
            · exact absurd (h3.symm.trans c638) (by decide)
          · have hkk : k0 = Mn e := by omega
            subst hkk
            have hl : lv_has ls 16 [(0, .ref (bs)), (1, .ref (x)), (2, .ref (x + 360)), (3, .ref (x + 360 + 1)), (4, .ref (x + 360 + 2)), (5, .ref (x + 360 + 3)), (6, .ref (x + 360 + 4)), (7, .ref (x + 360 + 5)), (8, .int (nI (t))), (9, .int (v)), (10, .int (nI (k))), (11, .int (y)), (12, .int (nI (r))), (13, .int (bI (sgD y))), (14, .int (nI (cpN e r))), (15, .int (nI (Mn e)))] := hl
            have hcp := cpK_le e r (Mn e)
            refine lv_aload_n hx hb dL_law_620 rfl (lv_at hl 1 rfl) ?_
            refine lv_iload hx hb dL_law_621 (lv_at hl 12 rfl) ?_
            refine lv_iload hx hb dL_law_623 (lv_at hl 13 rfl) ?_
            have hXK := hXK0.kept (H1 := H) (fun a h1 h2 => hS.2.1 a h1 h2)
            refine kx_retN (vx_runSW (As := [.ref (x), .int (nI (r)), .int (bI (sgD y))]) (rest := []) ⟨hx, hb, hml, hown, hts⟩ (k_L_strikeT3 l D cs x e g e1 g1 nx cn se sg b nn wd ln pa ft (nI r) (sgD y) hI hw x (Nat.le_refl x) hfl) (vx_cwSW 3 hts gL_law_L_strike rfl rfl rfl (by decide +kernel) ⟨Nat.le_of_ble_eq_true rfl, Nat.le_of_ble_eq_true rfl⟩) (kx_preY hK hN hXK hXN ⟨hWro, hM, hM2, hWhi, hWto, hWtb, hWtn⟩) rfl rfl hl.1 rfl (lv_room (Nat.le_of_ble_eq_true rfl)) dL_law_625 ⟨by show cells + 1 ≤ 600086; omega, by show slots + 6 ≤ 7301441; omega⟩) hS (fun y9 _ h => h.1) (fun y9 h => h.1) (fun H locs hMN hk hS => ?_)
            have hL := hL.frame hk (fun x h1 h2 h => by first | (have h3 := h.1; have h4 := h.2; omega) | (rcases h with h | h <;> first | (have h3 := h.1; have h4 := h.2; omega) | (have h3 : _ ≤ x := h; omega)) | (have h3 : _ ≤ x := h; omega))
            obtain ⟨hWro, hM, hM2, hWhi, hWto, hWtb, hWtn⟩ := hMN
            clear hk hXK
            refine lv_aload hx hb dL_law_628 (lv_at hl 4 rfl) ?_
            refine lv_iconst (v := nI 4) hx hb dL_law_630 (by decide) ?_
            refine lv_iload hx hb dL_law_631 (lv_at hl 12 rfl) ?_
            refine kn_mul hx hb dL_law_633 ?_
            refine lv_iconst (v := nI 3) hx hb dL_law_634 (by decide) ?_
            refine kn_add hx hb dL_law_635 ?_
            refine kx_iald (i := 4 * r + 3) hx hb hK hL.rg 0 rfl (by omega) (by decide) dL_law_636 ?_
            refine kx_ci (x := e (56 + (4 * r + 3))) (y := e (56 + 4 * r + 3)) (congrArg e (by omega)) ?_
            refine lv_iconst (v := nI 1) hx hb dL_law_637 (by decide) ?_
            refine lv_icmp_ne (tgt := 645) hx hb dL_law_638 (by decide) (fun c638 => ?_) (fun c638 => ?_)
            · exact absurd h3 c638
            · refine lv_iconst (v := nI 1) hx hb dL_law_641 (by decide) ?_
              refine lv_goto (tgt := 646) hx hb dL_law_642 (by decide) ?_
              refine lv_iload hx hb dL_law_646 (lv_at hl 13 rfl) ?_
              refine lv_icmp_ne (tgt := 656) hx hb dL_law_648 (by decide) (fun c648 => ?_) (fun c648 => ?_)
              · exact absurd (by rw [hd]; rfl) c648
              · refine lv_bipush (v := -2) hx hb dL_law_651 (by decide) ?_
                refine lv_goto (tgt := 658) hx hb dL_law_653 (by decide) ?_
                refine lv_icmp_eq (tgt := 663) hx hb dL_law_658 (by decide) (fun c658 => ?_) (fun c658 => ?_)
                · refine lv_aload hx hb dL_law_663 (lv_at hl 4 rfl) ?_
                  refine lv_iconst (v := nI 4) hx hb dL_law_665 (by decide) ?_
                  refine lv_iload hx hb dL_law_666 (lv_at hl 12 rfl) ?_
                  refine kn_mul hx hb dL_law_668 ?_
                  refine lv_iconst (v := nI 3) hx hb dL_law_669 (by decide) ?_
                  refine kn_add hx hb dL_law_670 ?_
                  refine lv_iload hx hb dL_law_671 (lv_at hl 13 rfl) ?_
                  refine kb_if_eq (tgt := 680) hx hb dL_law_673 (by decide) (fun c673 => ?_) (fun c673 => ?_)
                  · exact absurd (hd.symm.trans c673) (by decide)
                  · refine lv_iconst (v := nI 1) hx hb dL_law_676 (by decide) ?_
                    refine lv_goto (tgt := 681) hx hb dL_law_677 (by decide) ?_
                    refine kx_iast (i := 4 * r + 3) hx hb hK hL.rg hS (show x ≤ _ by omega) 0 rfl (by omega) (by decide) dL_law_681 (fun H locs hc hU hS => ?_)
                    have hL := hL.put_rg (i := 4 * r + 3) (by omega) hc hU
                    have hWhi := hWhi.off hU (by omega)
                    have hWro := hWro.kept (hU.2 _ (by omega))
                    have hM := hM.off hU (by omega)
                    have hM2 := hM2.off hU (by omega)
                    have hWtb := hWtb.kept (hU.2 _ (by omega))
                    have hWtn := hWtn.kept (hU.2 _ (by omega))
                    have hWto := hWto.kept (hU.2 _ (by omega))
                    clear hc hU
                    have hL : LwC D cs (x + 360) (upd e (56 + (4 * r + 3)) (nI (1))) g H := hL
                    have hL : LwC D cs (x + 360) e g H := (by have q9 := hL; rw [show 56 + (4 * r + 3) = 56 + 4 * r + 3 by omega, upd_same h3] at q9; exact q9)
                    refine lv_goto (tgt := 769) hx hb dL_law_682 (by decide) ?_
                    exact K _ _ _ _ _ T (by omega) ⟨_, _, _, _, _, _, _, _, _, _, _, _, _, _, ⟨hWro, hM, hM2, hWhi, hWto, hWtb, hWtn⟩, hL, hI, hG, hB, hT, hnx, hcn⟩ hS (Nat.le_refl _) (Nat.le_refl _) (lv_sub hl [0, 1, 2, 3, 4, 5, 6, 7, 8] rfl)
                · exact absurd rfl c658
          · have hkk : k0 = Mn e := by omega
            subst hkk
            have hl : lv_has ls 16 [(0, .ref (bs)), (1, .ref (x)), (2, .ref (x + 360)), (3, .ref (x + 360 + 1)), (4, .ref (x + 360 + 2)), (5, .ref (x + 360 + 3)), (6, .ref (x + 360 + 4)), (7, .ref (x + 360 + 5)), (8, .int (nI (t))), (9, .int (v)), (10, .int (nI (k))), (11, .int (y)), (12, .int (nI (r))), (13, .int (bI (sgD y))), (14, .int (nI (cpN e r))), (15, .int (nI (Mn e)))] := hl
            have hcp := cpK_le e r (Mn e)
            refine lv_aload_n hx hb dL_law_620 rfl (lv_at hl 1 rfl) ?_
            refine lv_iload hx hb dL_law_621 (lv_at hl 12 rfl) ?_
            refine lv_iload hx hb dL_law_623 (lv_at hl 13 rfl) ?_
            have hXK := hXK0.kept (H1 := H) (fun a h1 h2 => hS.2.1 a h1 h2)
            refine kx_retM (vx_runSW (As := [.ref (x), .int (nI (r)), .int (bI (sgD y))]) (rest := []) ⟨hx, hb, hml, hown, hts⟩ (k_L_strike l D cs x e g e1 g1 nx cn se sg b nn wd ln pa ft r (sgD y) hI hnx hcn hw hrR x (Nat.le_refl x) hfl) (vx_cwSW 3 hts gL_law_L_strike rfl rfl rfl (by decide +kernel) ⟨Nat.le_of_ble_eq_true rfl, Nat.le_of_ble_eq_true rfl⟩) (kx_preY hK hN hXK hXN ⟨hWro, hM, hM2, hWhi, hWto, hWtb, hWtn⟩) rfl rfl hl.1 rfl (lv_room (Nat.le_of_ble_eq_true rfl)) dL_law_625 ⟨by show cells + 0 ≤ 600086; omega, by show slots + 0 ≤ 7301441; omega⟩) hS (fun y9 _ h => h.1) (fun y9 h => h.1) (fun H locs hMN hk hS => ?_)
            have hL := hL.frame hk (fun x h1 h2 h => by first | (have h3 := h.1; have h4 := h.2; omega) | (rcases h with h | h <;> first | (have h3 := h.1; have h4 := h.2; omega) | (have h3 : _ ≤ x := h; omega)) | (have h3 : _ ≤ x := h; omega))
            obtain ⟨hWro, hM, hM2, hWhi, hWto, hWtb, hWtn⟩ := hMN
            clear hk hXK
            refine lv_aload hx hb dL_law_628 (lv_at hl 4 rfl) ?_
            refine lv_iconst (v := nI 4) hx hb dL_law_630 (by decide) ?_
            refine lv_iload hx hb dL_law_631 (lv_at hl 12 rfl) ?_
            refine kn_mul hx hb dL_law_633 ?_
            refine lv_iconst (v := nI 3) hx hb dL_law_634 (by decide) ?_
            refine kn_add hx hb dL_law_635 ?_
            refine kx_iald (i := 4 * r + 3) hx hb hK hL.rg 0 rfl (by omega) (by decide) dL_law_636 ?_
            refine kx_ci (x := e (56 + (4 * r + 3))) (y := e (56 + 4 * r + 3)) (congrArg e (by omega)) ?_
            refine lv_iconst (v := nI 1) hx hb dL_law_637 (by decide) ?_
            refine lv_icmp_ne (tgt := 645) hx hb dL_law_638 (by decide) (fun c638 => ?_) (fun c638 => ?_)
            · refine lv_iconst (v := nI 0) hx hb dL_law_645 (by decide) ?_
              refine lv_iload hx hb dL_law_646 (lv_at hl 13 rfl) ?_
              refine lv_icmp_ne (tgt := 656) hx hb dL_law_648 (by decide) (fun c648 => ?_) (fun c648 => ?_)
              · refine lv_iload hx hb dL_law_656 (lv_at hl 14 rfl) ?_
                refine kn_icmp_eq (tgt := 663) hx hb dL_law_658 (by decide) (by unfold cpN; omega) (by unfold cpN; omega) (fun c658 => ?_) (fun c658 => ?_)
                · refine lv_aload hx hb dL_law_663 (lv_at hl 4 rfl) ?_
                  refine lv_iconst (v := nI 4) hx hb dL_law_665 (by decide) ?_
                  refine lv_iload hx hb dL_law_666 (lv_at hl 12 rfl) ?_
                  refine kn_mul hx hb dL_law_668 ?_
                  refine lv_iconst (v := nI 3) hx hb dL_law_669 (by decide) ?_
                  refine kn_add hx hb dL_law_670 ?_
                  refine lv_iload hx hb dL_law_671 (lv_at hl 13 rfl) ?_
                  refine kb_if_eq (tgt := 680) hx hb dL_law_673 (by decide) (fun c673 => ?_) (fun c673 => ?_)
                  · exact absurd (hd.symm.trans c673) (by decide)
                  · refine lv_iconst (v := nI 1) hx hb dL_law_676 (by decide) ?_
                    refine lv_goto (tgt := 681) hx hb dL_law_677 (by decide) ?_
                    refine kx_iast (i := 4 * r + 3) hx hb hK hL.rg hS (show x ≤ _ by omega) 0 rfl (by omega) (by decide) dL_law_681 (fun H locs hc hU hS => ?_)
                    have hL := hL.put_rg (i := 4 * r + 3) (by omega) hc hU
                    have hWhi := hWhi.off hU (by omega)
                    have hWro := hWro.kept (hU.2 _ (by omega))
                    have hM := hM.off hU (by omega)
                    have hM2 := hM2.off hU (by omega)
                    have hWtb := hWtb.kept (hU.2 _ (by omega))
                    have hWtn := hWtn.kept (hU.2 _ (by omega))
                    have hWto := hWto.kept (hU.2 _ (by omega))
                    clear hc hU
                    have hL : LwC D cs (x + 360) (upd e (56 + (4 * r + 3)) (nI (1))) g H := hL
                    have hL : LwC D cs (x + 360) (upd e (56 + 4 * r + 3) (bI (sgD y))) g H := (by have q9 := hL; rw [show 56 + (4 * r + 3) = 56 + 4 * r + 3 by omega] at q9; rw [hd]; exact q9)
                    refine lv_goto (tgt := 769) hx hb dL_law_682 (by decide) ?_
                    exact K _ _ _ _ _ T (by omega) ⟨_, _, _, _, _, _, _, _, _, _, _, _, _, _, ⟨hWro, hM, hM2, hWhi, hWto, hWtb, hWtn⟩, hL, (sk_inv hI (by omega) _), (st_msk hI hG (by omega) _), (st_lb hB (by omega) _), ((upd_ne (by omega)).trans hT), (Nat.mod_lt _ (by decide)), (Nat.min_le_right _ _)⟩ hS (Nat.le_add_right _ _) (Nat.le_add_right _ _) (lv_sub hl [0, 1, 2, 3, 4, 5, 6, 7, 8] rfl)
                · exact absurd rfl c658
              · exact absurd c648 (by rw [hd]; decide)
            · exact absurd (h3.symm.trans c638) (by decide)
          · have hkk : k0 = Mn e := by omega
            subst hkk
            have hl : lv_has ls 16 [(0, .ref (bs)), (1, .ref (x)), (2, .ref (x + 360)), (3, .ref (x + 360 + 1)), (4, .ref (x + 360 + 2)), (5, .ref (x + 360 + 3)), (6, .ref (x + 360 + 4)), (7, .ref (x + 360 + 5)), (8, .int (nI (t))), (9, .int (v)), (10, .int (nI (k))), (11, .int (y)), (12, .int (nI (r))), (13, .int (bI (sgD y))), (14, .int (nI (cpN e r))), (15, .int (nI (Mn e)))] := hl
            have hcp := cpK_le e r (Mn e)
            refine lv_aload_n hx hb dL_law_620 rfl (lv_at hl 1 rfl) ?_
            refine lv_iload hx hb dL_law_621 (lv_at hl 12 rfl) ?_
            refine lv_iload hx hb dL_law_623 (lv_at hl 13 rfl) ?_
            have hXK := hXK0.kept (H1 := H) (fun a h1 h2 => hS.2.1 a h1 h2)
            refine kx_retM (vx_runSW (As := [.ref (x), .int (nI (r)), .int (bI (sgD y))]) (rest := []) ⟨hx, hb, hml, hown, hts⟩ (k_L_strike l D cs x e g e1 g1 nx cn se sg b nn wd ln pa ft r (sgD y) hI hnx hcn hw hrR x (Nat.le_refl x) hfl) (vx_cwSW 3 hts gL_law_L_strike rfl rfl rfl (by decide +kernel) ⟨Nat.le_of_ble_eq_true rfl, Nat.le_of_ble_eq_true rfl⟩) (kx_preY hK hN hXK hXN ⟨hWro, hM, hM2, hWhi, hWto, hWtb, hWtn⟩) rfl rfl hl.1 rfl (lv_room (Nat.le_of_ble_eq_true rfl)) dL_law_625 ⟨by show cells + 0 ≤ 600086; omega, by show slots + 0 ≤ 7301441; omega⟩) hS (fun y9 _ h => h.1) (fun y9 h => h.1) (fun H locs hMN hk hS => ?_)
            have hL := hL.frame hk (fun x h1 h2 h => by first | (have h3 := h.1; have h4 := h.2; omega) | (rcases h with h | h <;> first | (have h3 := h.1; have h4 := h.2; omega) | (have h3 : _ ≤ x := h; omega)) | (have h3 : _ ≤ x := h; omega))
            obtain ⟨hWro, hM, hM2, hWhi, hWto, hWtb, hWtn⟩ := hMN
            clear hk hXK
            refine lv_aload hx hb dL_law_628 (lv_at hl 4 rfl) ?_
            refine lv_iconst (v := nI 4) hx hb dL_law_630 (by decide) ?_
            refine lv_iload hx hb dL_law_631 (lv_at hl 12 rfl) ?_
            refine kn_mul hx hb dL_law_633 ?_
            refine lv_iconst (v := nI 3) hx hb dL_law_634 (by decide) ?_
            refine kn_add hx hb dL_law_635 ?_
            refine kx_iald (i := 4 * r + 3) hx hb hK hL.rg 0 rfl (by omega) (by decide) dL_law_636 ?_
            refine kx_ci (x := e (56 + (4 * r + 3))) (y := e (56 + 4 * r + 3)) (congrArg e (by omega)) ?_
            refine lv_iconst (v := nI 1) hx hb dL_law_637 (by decide) ?_
            refine lv_icmp_ne (tgt := 645) hx hb dL_law_638 (by decide) (fun c638 => ?_) (fun c638 => ?_)
            · exact absurd h3 c638
            · refine lv_iconst (v := nI 1) hx hb dL_law_641 (by decide) ?_
              refine lv_goto (tgt := 646) hx hb dL_law_642 (by decide) ?_
              refine lv_iload hx hb dL_law_646 (lv_at hl 13 rfl) ?_
              refine lv_icmp_ne (tgt := 656) hx hb dL_law_648 (by decide) (fun c648 => ?_) (fun c648 => ?_)
              · refine lv_iload hx hb dL_law_656 (lv_at hl 14 rfl) ?_
                refine kn_icmp_eq (tgt := 663) hx hb dL_law_658 (by decide) (by unfold cpN; omega) (by unfold cpN; omega) (fun c658 => ?_) (fun c658 => ?_)
                · refine lv_aload hx hb dL_law_663 (lv_at hl 4 rfl) ?_
                  refine lv_iconst (v := nI 4) hx hb dL_law_665 (by decide) ?_
                  refine lv_iload hx hb dL_law_666 (lv_at hl 12 rfl) ?_
                  refine kn_mul hx hb dL_law_668 ?_
                  refine lv_iconst (v := nI 3) hx hb dL_law_669 (by decide) ?_
                  refine kn_add hx hb dL_law_670 ?_
                  refine lv_iload hx hb dL_law_671 (lv_at hl 13 rfl) ?_
                  refine kb_if_eq (tgt := 680) hx hb dL_law_673 (by decide) (fun c673 => ?_) (fun c673 => ?_)
                  · refine lv_iconst (v := nI 0) hx hb dL_law_680 (by decide) ?_
                    refine kx_iast (i := 4 * r + 3) hx hb hK hL.rg hS (show x ≤ _ by omega) 0 rfl (by omega) (by decide) dL_law_681 (fun H locs hc hU hS => ?_)
                    have hL := hL.put_rg (i := 4 * r + 3) (by omega) hc hU
                    have hWhi := hWhi.off hU (by omega)
                    have hWro := hWro.kept (hU.2 _ (by omega))
                    have hM := hM.off hU (by omega)
                    have hM2 := hM2.off hU (by omega)
                    have hWtb := hWtb.kept (hU.2 _ (by omega))
                    have hWtn := hWtn.kept (hU.2 _ (by omega))
                    have hWto := hWto.kept (hU.2 _ (by omega))
                    clear hc hU
                    have hL : LwC D cs (x + 360) (upd e (56 + (4 * r + 3)) (nI (0))) g H := hL
                    have hL : LwC D cs (x + 360) (upd e (56 + 4 * r + 3) (bI (sgD y))) g H := (by have q9 := hL; rw [show 56 + (4 * r + 3) = 56 + 4 * r + 3 by omega] at q9; rw [hd]; exact q9)
                    refine lv_goto (tgt := 769) hx hb dL_law_682 (by decide) ?_
                    exact K _ _ _ _ _ T (by omega) ⟨_, _, _, _, _, _, _, _, _, _, _, _, _, _, ⟨hWro, hM, hM2, hWhi, hWto, hWtb, hWtn⟩, hL, (sk_inv hI (by omega) _), (st_msk hI hG (by omega) _), (st_lb hB (by omega) _), ((upd_ne (by omega)).trans hT), (Nat.mod_lt _ (by decide)), (Nat.min_le_right _ _)⟩ hS (Nat.le_add_right _ _) (Nat.le_add_right _ _) (lv_sub hl [0, 1, 2, 3, 4, 5, 6, 7, 8] rfl)
                  · exact absurd (hd.symm.trans c673) (by decide)
                · exact absurd rfl c658
              · exact absurd c648 (by rw [hd]; decide)
        · have hkM : k0 < Mn e := by omega
          have hs3 := hI.s3 hkM
          have hmt := hI.mt hkM
          refine lv_iload hx hb dL_law_575 (lv_at hl 14 rfl) ?_
          refine lv_aload hx hb dL_law_577 (lv_at hl 5 rfl) ?_
          refine lv_bipush (v := nI 8) hx hb dL_law_579 (by decide) ?_
          refine lv_iload hx hb dL_law_581 (lv_at hl 15 rfl) ?_
          refine kn_mul hx hb dL_law_583 ?_
          refine lv_iconst (v := nI 2) hx hb dL_law_584 (by decide) ?_
          refine kn_add hx hb dL_law_585 ?_
          refine kx_iald (i := 8 * k0 + 2) hx hb hK hL.mv 0 rfl (by omega) (by decide) dL_law_586 ?_
          refine kx_ci (x := mvF e (8 * k0 + 2)) (y := nI (mT e k0)) (Eq.trans (mvF_lo e k0 (p := 2) (by omega)) (Inv.m2 hI hkM)) ?_
          refine lv_iload hx hb dL_law_587 (lv_at hl 12 rfl) ?_
          refine kn_icmp_ne (tgt := 610) hx hb dL_law_589 (by decide) (by omega) (by omega) (fun c589 => ?_) (fun c589 => ?_)
          · refine lv_iconst (v := nI 0) hx hb dL_law_610 (by decide) ?_
            refine kn_add hx hb dL_law_611 ?_
            refine kx_ci (x := nI (cpK e r k0 + 0)) (y := nI (cpK e r (k0 + 1))) (congrArg nI (by rw [cpK_s]; simp [*])) ?_
            refine lv_istore (lv' := [(14, .int (nI (cpK e r (k0 + 1)))), (0, .ref (bs)), (1, .ref (x)), (2, .ref (x + 360)), (3, .ref (x + 360 + 1)), (4, .ref (x + 360 + 2)), (5, .ref (x + 360 + 3)), (6, .ref (x + 360 + 4)), (7, .ref (x + 360 + 5)), (8, .int (nI (t))), (9, .int (v)), (10, .int (nI (k))), (11, .int (y)), (12, .int (nI (r))), (13, .int (bI (sgD y))), (15, .int (nI (k0)))]) hx hb dL_law_612 hl (by decide) rfl (fun ls hl => ?_)
            refine lv_iinc (v := nI (k0 + 1)) (lv' := [(15, .int (nI (k0 + 1))), (14, .int (nI (cpK e r (k0 + 1)))), (0, .ref (bs)), (1, .ref (x)), (2, .ref (x + 360)), (3, .ref (x + 360 + 1)), (4, .ref (x + 360 + 2)), (5, .ref (x + 360 + 3)), (6, .ref (x + 360 + 4)), (7, .ref (x + 360 + 5)), (8, .int (nI (t))), (9, .int (v)), (10, .int (nI (k))), (11, .int (y)), (12, .int (nI (r))), (13, .int (bI (sgD y)))]) (k := 15) hx hb dL_law_614 hl rfl (nI_add _ _) (by decide) rfl (fun ls hl => ?_)
            refine lv_goto (tgt := 567) hx hb dL_law_617 (by decide) ?_
            exact ih567 (k0 + 1) _ _ _ (by omega) (by omega) hWhi hL hWro hM hM2 hWtb hWtn hWto hS (lv_sub hl [2, 3, 4, 5, 6, 7, 8, 9, 10, 11, 12, 13, 14, 15, 1, 0] rfl)
          · refine lv_aload hx hb dL_law_592 (lv_at hl 5 rfl) ?_
            refine lv_bipush (v := nI 8) hx hb dL_law_594 (by decide) ?_
            refine lv_iload hx hb dL_law_596 (lv_at hl 15 rfl) ?_
            refine kn_mul hx hb dL_law_598 ?_
            refine lv_iconst (v := nI 5) hx hb dL_law_599 (by decide) ?_
            refine kn_add hx hb dL_law_600 ?_
            refine kx_iald (i := 8 * k0 + 5) hx hb hK hL.mv 0 rfl (by omega) (by decide) dL_law_601 ?_
            refine kx_ci (x := mvF e (8 * k0 + 5)) (y := nI (mS e k0)) (Eq.trans (mvF_lo e k0 (p := 5) (by omega)) (Inv.m5 hI (by first | assumption | omega))) ?_
            refine lv_iconst (v := nI 2) hx hb dL_law_602 (by decide) ?_
            refine kn_icmp_ne (tgt := 610) hx hb dL_law_603 (by decide) (by omega) (by decide) (fun c603 => ?_) (fun c603 => ?_)
            · refine lv_iconst (v := nI 0) hx hb dL_law_610 (by decide) ?_
              refine kn_add hx hb dL_law_611 ?_
              refine kx_ci (x := nI (cpK e r k0 + 0)) (y := nI (cpK e r (k0 + 1))) (congrArg nI (by rw [cpK_s]; simp [*])) ?_
              refine lv_istore (lv' := [(14, .int (nI (cpK e r (k0 + 1)))), (0, .ref (bs)), (1, .ref (x)), (2, .ref (x + 360)), (3, .ref (x + 360 + 1)), (4, .ref (x + 360 + 2)), (5, .ref (x + 360 + 3)), (6, .ref (x + 360 + 4)), (7, .ref (x + 360 + 5)), (8, .int (nI (t))), (9, .int (v)), (10, .int (nI (k))), (11, .int (y)), (12, .int (nI (r))), (13, .int (bI (sgD y))), (15, .int (nI (k0)))]) hx hb dL_law_612 hl (by decide) rfl (fun ls hl => ?_)
              refine lv_iinc (v := nI (k0 + 1)) (lv' := [(15, .int (nI (k0 + 1))), (14, .int (nI (cpK e r (k0 + 1)))), (0, .ref (bs)), (1, .ref (x)), (2, .ref (x + 360)), (3, .ref (x + 360 + 1)), (4, .ref (x + 360 + 2)), (5, .ref (x + 360 + 3)), (6, .ref (x + 360 + 4)), (7, .ref (x + 360 + 5)), (8, .int (nI (t))), (9, .int (v)), (10, .int (nI (k))), (11, .int (y)), (12, .int (nI (r))), (13, .int (bI (sgD y)))]) (k := 15) hx hb dL_law_614 hl rfl (nI_add _ _) (by decide) rfl (fun ls hl => ?_)
              refine lv_goto (tgt := 567) hx hb dL_law_617 (by decide) ?_
              exact ih567 (k0 + 1) _ _ _ (by omega) (by omega) hWhi hL hWro hM hM2 hWtb hWtn hWto hS (lv_sub hl [2, 3, 4, 5, 6, 7, 8, 9, 10, 11, 12, 13, 14, 15, 1, 0] rfl)
            · refine lv_iconst (v := nI 1) hx hb dL_law_606 (by decide) ?_
              refine lv_goto (tgt := 611) hx hb dL_law_607 (by decide) ?_
              refine kn_add hx hb dL_law_611 ?_
              refine kx_ci (x := nI (cpK e r k0 + 1)) (y := nI (cpK e r (k0 + 1))) (congrArg nI (by rw [cpK_s]; simp [*])) ?_
              refine lv_istore (lv' := [(14, .int (nI (cpK e r (k0 + 1)))), (0, .ref (bs)), (1, .ref (x)), (2, .ref (x + 360)), (3, .ref (x + 360 + 1)), (4, .ref (x + 360 + 2)), (5, .ref (x + 360 + 3)), (6, .ref (x + 360 + 4)), (7, .ref (x + 360 + 5)), (8, .int (nI (t))), (9, .int (v)), (10, .int (nI (k))), (11, .int (y)), (12, .int (nI (r))), (13, .int (bI (sgD y))), (15, .int (nI (k0)))]) hx hb dL_law_612 hl (by decide) rfl (fun ls hl => ?_)
              refine lv_iinc (v := nI (k0 + 1)) (lv' := [(15, .int (nI (k0 + 1))), (14, .int (nI (cpK e r (k0 + 1)))), (0, .ref (bs)), (1, .ref (x)), (2, .ref (x + 360)), (3, .ref (x + 360 + 1)), (4, .ref (x + 360 + 2)), (5, .ref (x + 360 + 3)), (6, .ref (x + 360 + 4)), (7, .ref (x + 360 + 5)), (8, .int (nI (t))), (9, .int (v)), (10, .int (nI (k))), (11, .int (y)), (12, .int (nI (r))), (13, .int (bI (sgD y)))]) (k := 15) hx hb dL_law_614 hl rfl (nI_add _ _) (by decide) rfl (fun ls hl => ?_)
              refine lv_goto (tgt := 567) hx hb dL_law_617 (by decide) ?_
              exact ih567 (k0 + 1) _ _ _ (by omega) (by omega) hWhi hL hWro hM hM2 hWtb hWtn hWto hS (lv_sub hl [2, 3, 4, 5, 6, 7, 8, 9, 10, 11, 12, 13, 14, 15, 1, 0] rfl)
    have hl : lv_has ls 16 [(15, .int (nI (0))), (14, .int (nI (cpK e r 0))), (13, .int (bI (sgD y))), (0, .ref (bs)), (1, .ref (x)), (2, .ref (x + 360)), (3, .ref (x + 360 + 1)), (4, .ref (x + 360 + 2)), (5, .ref (x + 360 + 3)), (6, .ref (x + 360 + 4)), (7, .ref (x + 360 + 5)), (8, .int (nI (t))), (9, .int (v)), (10, .int (nI (k))), (11, .int (y)), (12, .int (nI (r)))] := by rw [show (cpK e r 0) = (0) from rfl]; exact hl
    exact J567 _ 0 _ _ _ (Nat.lt_succ_self _) (by omega) hWhi hL hWro hM hM2 hWtb hWtn hWto hS (lv_sub hl [3, 4, 5, 6, 7, 8, 9, 10, 11, 12, 13, 14, 15, 2, 1, 0] rfl)
  refine lv_iload hx hb dL_law_542 (lv_at hl 11 rfl) ?_
  refine lv_iconst (v := nI 2) hx hb dL_law_544 (by decide) ?_
  refine lv_ishr hx hb dL_law_545 ?_
  refine lv_iconst (v := nI 2) hx hb dL_law_546 (by decide) ?_
  refine kx_retP (va_runS (As := [.int (y >>> ((nI (2)) &&& 31)), .int (nI (2))]) (rest := []) ⟨hx, hb, hml, hown, hts⟩ (k_L_low l D cs (y >>> ((nI (2)) &&& 31)) 2 (by decide) (by decide)) (cwS 2 hts gL_law_L_low rfl rfl rfl (by decide +kernel) ⟨Nat.le_of_ble_eq_true rfl, Nat.le_of_ble_eq_true rfl⟩) (kx_preS hK hN trivial) rfl rfl hl.1 rfl (lv_room (Nat.le_of_ble_eq_true rfl)) dL_law_547 ⟨by show cells + 0 ≤ 600086; omega, by show slots + 0 ≤ 7301441; omega⟩) ?_
  refine lv_iconst (v := nI 1) hx hb dL_law_550 (by decide) ?_
  refine kn_icmp_ne (tgt := 558) hx hb dL_law_551 (by decide) (Nat.lt_trans (lowN_lt _ (by decide)) (by decide)) (by decide) (fun c551 => ?_) (fun c551 => ?_)
  · refine lv_iconst (v := nI 0) hx hb dL_law_558 (by decide) ?_
    refine kx_ci (x := nI (0)) (y := bI (sgD y)) (by rw [bI_sg]; first | rw [if_pos c551] | rw [if_neg c551]) ?_
    exact J559 _ _ _ hWhi hL hWro hM hM2 hWtb hWtn hWto hS (lv_sub hl [0, 1, 2, 3, 4, 5, 6, 7, 8, 9, 10, 11, 12] rfl)
  · refine lv_iconst (v := nI 1) hx hb dL_law_554 (by decide) ?_
    refine lv_goto (tgt := 559) hx hb dL_law_555 (by decide) ?_
    refine kx_ci (x := nI (1)) (y := bI (sgD y)) (by rw [bI_sg]; first | rw [if_pos c551] | rw [if_neg c551]) ?_
    exact J559 _ _ _ hWhi hL hWro hM hM2 hWtb hWtn hWto hS (lv_sub hl [0, 1, 2, 3, 4, 5, 6, 7, 8, 9, 10, 11, 12] rfl)
set_option maxHeartbeats 2500000 in
set_option maxRecDepth 100000 in
theorem cs_write {p : Program} {l : Launch} {en : Env} {s : State} {m : MethodId} {below : List Frame} {meth : Method} {c : Code} {D : va_G} {cs : Nat → ClassId} {x bs N : Nat} {xs : Nat → Int32} {Q : State → Prop} (G : LwG p l s m c D cs x bs N xs) {T t : Nat} (hT9 : T ≤ 100) {H : Heap} {locs : List Loc} {cells slots : Nat} (hr1 : cells + 20 ≤ 600086) (hr2 : slots + 200 ≤ 7301441) (W0 : LwD D cs x T H) (hS : va_S (fun y9 : Nat => x ≤ y9) s.heap H locs) (k r : Nat) (v y : Int32) (hr3 : r < 3)  {ls : Array Slot} (hl : lv_has ls 16 [(0, .ref (bs)), (1, .ref (x)), (2, .ref (x + 360)), (3, .ref (x + 360 + 1)), (4, .ref (x + 360 + 2)), (5, .ref (x + 360 + 3)), (6, .ref (x + 360 + 4)), (7, .ref (x + 360 + 5)), (8, .int (nI (t))), (9, .int (v)), (10, .int (nI (k))), (11, .int (y)), (12, .int (nI (r)))])
  (K : ∀ (H : Heap) (locs : List Loc) (c1 s1 : Nat) (ls : Array Slot) (T1 : Nat), T1 ≤ T + 4 → LwD D cs x T1 H → va_S (fun y9 : Nat => x ≤ y9) s.heap H locs → c1 ≤ cells + 1 → s1 ≤ slots + 6 → lv_has ls 16 [(0, .ref (bs)), (1, .ref (x)), (2, .ref (x + 360)), (3, .ref (x + 360 + 1)), (4, .ref (x + 360 + 2)), (5, .ref (x + 360 + 3)), (6, .ref (x + 360 + 4)), (7, .ref (x + 360 + 5)), (8, .int (nI (t)))] → W p l en room_1 s m #[Value.ref bs] below meth c H locs c1 s1 Q (F0 m 769 ls [])) :
  W p l en room_1 s m #[Value.ref bs] below meth c H locs cells slots Q (F0 m 685 ls []) := by
  obtain ⟨hx, hb, hml, hown, hts, hK, hN, hXK0, hXN, hXs, hbl, hxs, hN9, hfl⟩ := id G
  obtain ⟨e, g, e1, g1, nx, cn, se, sg, b, nn, wd, ln, pa, ft, hHr, hL, hI, hG, hB, hT, hnx, hcn⟩ := W0
  obtain ⟨hWro, hM, hM2, hWhi, hWto, hWtb, hWtn⟩ := hHr
  have h24 := hI.M24
  have h6 := hI.R6
  have h8 := hB.M8
  have hR3 := hB.R
  have hrR : r < Rn e := by omega
  refine lv_iload hx hb dL_law_685 (lv_at hl 11 rfl) ?_
  refine lv_bipush (v := nI 48) hx hb dL_law_687 (by decide) ?_
  refine kx_retP (va_runS (As := [.int (y), .int (nI (48))]) (rest := []) ⟨hx, hb, hml, hown, hts⟩ (k_L_low l D cs y 48 (by decide) (by decide)) (cwS 2 hts gL_law_L_low rfl rfl rfl (by decide +kernel) ⟨Nat.le_of_ble_eq_true rfl, Nat.le_of_ble_eq_true rfl⟩) (kx_preS hK hN trivial) rfl rfl hl.1 rfl (lv_room (Nat.le_of_ble_eq_true rfl)) dL_law_689 ⟨by show cells + 0 ≤ 600086; omega, by show slots + 0 ≤ 7301441; omega⟩) ?_
  obtain ⟨c0, hc9⟩ : ∃ c0, lowN y 48 = c0 := ⟨_, rfl⟩
  have hc0 : c0 < 48 := hc9 ▸ lowN_lt y (by decide)
  rw [hc9]
  have hrs := rsC_lt e c0
  refine lv_istore (lv' := [(13, .int (nI (c0))), (0, .ref (bs)), (1, .ref (x)), (2, .ref (x + 360)), (3, .ref (x + 360 + 1)), (4, .ref (x + 360 + 2)), (5, .ref (x + 360 + 3)), (6, .ref (x + 360 + 4)), (7, .ref (x + 360 + 5)), (8, .int (nI (t))), (9, .int (v)), (10, .int (nI (k))), (11, .int (y)), (12, .int (nI (r)))]) hx hb dL_law_692 hl (by decide) rfl (fun ls hl => ?_)
  refine lv_iload hx hb dL_law_694 (lv_at hl 12 rfl) ?_
  refine lv_bipush (v := nI 6) hx hb dL_law_696 (by decide) ?_
  refine lv_ishr hx hb dL_law_698 ?_
  refine lv_sipush (v := nI 1999) hx hb dL_law_699 (by decide) ?_
  refine kx_retP (va_runS (As := [.int (y >>> ((nI (6)) &&& 31)), .int (nI (1999))]) (rest := []) ⟨hx, hb, hml, hown, hts⟩ (k_L_low l D cs (y >>> ((nI (6)) &&& 31)) 1999 (by decide) (by decide)) (cwS 2 hts gL_law_L_low rfl rfl rfl (by decide +kernel) ⟨Nat.le_of_ble_eq_true rfl, Nat.le_of_ble_eq_true rfl⟩) (kx_preS hK hN trivial) rfl rfl hl.1 rfl (lv_room (Nat.le_of_ble_eq_true rfl)) dL_law_702 ⟨by show cells + 0 ≤ 600086; omega, by show slots + 0 ≤ 7301441; omega⟩) ?_
  refine lv_sipush (v := nI 999) hx hb dL_law_705 (by decide) ?_
  refine lv_isub hx hb dL_law_708 ?_
  refine kx_ci (x := (nI (lowN (y >>> ((nI (6)) &&& 31)) 1999)) - (nI (999))) (y := wvD y) rfl ?_
  refine lv_istore (lv' := [(14, .int (wvD y)), (13, .int (nI (c0))), (0, .ref (bs)), (1, .ref (x)), (2, .ref (x + 360)), (3, .ref (x + 360 + 1)), (4, .ref (x + 360 + 2)), (5, .ref (x + 360 + 3)), (6, .ref (x + 360 + 4)), (7, .ref (x + 360 + 5)), (8, .int (nI (t))), (9, .int (v)), (10, .int (nI (k))), (11, .int (y)), (12, .int (nI (r)))]) hx hb dL_law_709 hl (by decide) rfl (fun ls hl => ?_)
  refine lv_iload hx hb dL_law_711 (lv_at hl 1 rfl) ?_
  refine lv_aload_n hx hb dL_law_713 rfl (lv_at hl 4 rfl) ?_
  refine lv_aload hx hb dL_law_714 (lv_at hl 7 rfl) ?_
  refine lv_aload hx hb dL_law_716 (lv_at hl 9 rfl) ?_
  refine kx_retP (va_runS (As := [.int (nI (c0)), .ref (x + 360), .ref (x + 360 + 3), .ref (x + 360 + 5)]) (rest := []) ⟨hx, hb, hml, hown, hts⟩ (k_L_reason l D cs (x + 360) e g c0 hI hG hB hc0) (cwS 4 hts gL_law_L_reason rfl rfl rfl (by decide +kernel) ⟨Nat.le_of_ble_eq_true rfl, Nat.le_of_ble_eq_true rfl⟩) (kx_preS hK hN hL) rfl rfl hl.1 rfl (lv_room (Nat.le_of_ble_eq_true rfl)) dL_law_718 ⟨by show cells + 0 ≤ 600086; omega, by show slots + 0 ≤ 7301441; omega⟩) ?_
  refine lv_istore (lv' := [(15, .int (nI (rsC e c0))), (14, .int (wvD y)), (13, .int (nI (c0))), (0, .ref (bs)), (1, .ref (x)), (2, .ref (x + 360)), (3, .ref (x + 360 + 1)), (4, .ref (x + 360 + 2)), (5, .ref (x + 360 + 3)), (6, .ref (x + 360 + 4)), (7, .ref (x + 360 + 5)), (8, .int (nI (t))), (9, .int (v)), (10, .int (nI (k))), (11, .int (y)), (12, .int (nI (r)))]) hx hb dL_law_721 hl (by decide) rfl (fun ls hl => ?_)
  rcases (show rsC e c0 = 0 ∨ 0 < rsC e c0 by omega) with hrz | hrz
  · refine lv_aload_n hx hb dL_law_723 rfl (lv_at hl 4 rfl) ?_
    refine lv_iload hx hb dL_law_724 (lv_at hl 2 rfl) ?_
    refine lv_iload hx hb dL_law_726 (lv_at hl 1 rfl) ?_
    have hXK := hXK0.kept (H1 := H) (fun a h1 h2 => hS.2.1 a h1 h2)
    refine kx_retM (vx_runSW (As := [.ref (x), .int (nI (c0)), .int (wvD y)]) (rest := []) ⟨hx, hb, hml, hown, hts⟩ (k_L_write l D cs x e g e1 g1 nx cn se sg b nn wd ln pa ft c0 (wvD y) hI hG hnx hcn (by rw [wwr_c hc0, if_neg (by omega)]) hc0 x (Nat.le_refl x) hfl) (vx_cwSW 3 hts gL_law_L_write rfl rfl rfl (by decide +kernel) ⟨Nat.le_of_ble_eq_true rfl, Nat.le_of_ble_eq_true rfl⟩) (kx_preY hK hN hXK hXN ⟨hWro, hM, hM2, hWhi, hWto, hWtb, hWtn⟩) rfl rfl hl.1 rfl (lv_room (Nat.le_of_ble_eq_true rfl)) dL_law_728 ⟨by show cells + 0 ≤ 600086; omega, by show slots + 0 ≤ 7301441; omega⟩) hS (fun y9 _ h => h.1) (fun y9 h => h.1) (fun H locs hMN hk hS => ?_)
    have hL := hL.frame hk (fun x h1 h2 h => by first | (have h3 := h.1; have h4 := h.2; omega) | (rcases h with h | h <;> first | (have h3 := h.1; have h4 := h.2; omega) | (have h3 : _ ≤ x := h; omega)) | (have h3 : _ ≤ x := h; omega))
    obtain ⟨hWro, hM, hM2, hWhi, hWto, hWtb, hWtn⟩ := hMN
    clear hk hXK
    refine lv_iload hx hb dL_law_731 (lv_at hl 0 rfl) ?_
    refine kn_if_le (tgt := 742) hx hb dL_law_733 (by decide) (by omega) (fun c733 => ?_) (fun c733 => ?_)
    · refine lv_aload_n hx hb dL_law_742 rfl (lv_at hl 6 rfl) ?_
      refine lv_iload hx hb dL_law_743 (lv_at hl 2 rfl) ?_
      refine kx_iald (i := c0) hx hb hK hL.me 0 rfl hc0 (by decide) dL_law_745 ?_
      refine lv_icmp_eq (tgt := 751) hx hb dL_law_746 (by decide) (fun c746 => ?_) (fun c746 => ?_)
      · refine lv_aload_n hx hb dL_law_751 rfl (lv_at hl 6 rfl) ?_
        refine lv_iload hx hb dL_law_752 (lv_at hl 2 rfl) ?_
        refine lv_iload hx hb dL_law_754 (lv_at hl 0 rfl) ?_
        refine kn_if_le (tgt := 766) hx hb dL_law_756 (by decide) (by omega) (fun c756 => ?_) (fun c756 => ?_)
        · refine lv_iload hx hb dL_law_766 (lv_at hl 1 rfl) ?_
          refine kx_iast (i := c0) hx hb hK hL.me hS (show x ≤ _ by omega) 0 rfl hc0 (by decide) dL_law_768 (fun H locs hc hU hS => ?_)
          have hL := hL.put_me (i := c0) hc0 hc hU
          have hWhi := hWhi.off hU (by omega)
          have hWro := hWro.kept (hU.2 _ (by omega))
          have hM := hM.off hU (by omega)
          have hM2 := hM2.off hU (by omega)
          have hWtb := hWtb.kept (hU.2 _ (by omega))
          have hWtn := hWtn.kept (hU.2 _ (by omega))
          have hWto := hWto.kept (hU.2 _ (by omega))
          clear hc hU
          have hL : LwC D cs (x + 360) (upd e (8 + c0) (wvD y)) g H := hL
          exact K _ _ _ _ _ T (by omega) ⟨_, _, _, _, _, _, _, _, _, _, _, _, _, _, ⟨hWro, hM, hM2, hWhi, hWto, hWtb, hWtn⟩, hL, (lo_inv hI (by omega) (by omega) (by omega) (by omega) _), (hG.stay hI (lo_stay e (by omega) (by omega) (by omega) (by omega) _)), (lo_lb hB (by omega) (by omega) _), ((upd_ne (by omega)).trans hT), (Nat.mod_lt _ (by decide)), (Nat.min_le_right _ _)⟩ hS (Nat.le_add_right _ _) (Nat.le_add_right _ _) (lv_sub hl [3, 4, 5, 6, 7, 8, 9, 10, 11] rfl)
        · omega
      · exact absurd rfl c746
    · omega
  · refine lv_aload_n hx hb dL_law_723 rfl (lv_at hl 4 rfl) ?_
    refine lv_iload hx hb dL_law_724 (lv_at hl 2 rfl) ?_
    refine lv_iload hx hb dL_law_726 (lv_at hl 1 rfl) ?_
    have hXK := hXK0.kept (H1 := H) (fun a h1 h2 => hS.2.1 a h1 h2)
    refine kx_retN (vx_runSW (As := [.ref (x), .int (nI (c0)), .int (wvD y)]) (rest := []) ⟨hx, hb, hml, hown, hts⟩ (k_L_writeT3 l D cs x e g e1 g1 nx cn se sg b nn wd ln pa ft (nI c0) (wvD y) hI hG (by rw [wwr_c hc0, if_pos (by omega)]) x (Nat.le_refl x) hfl) (vx_cwSW 3 hts gL_law_L_write rfl rfl rfl (by decide +kernel) ⟨Nat.le_of_ble_eq_true rfl, Nat.le_of_ble_eq_true rfl⟩) (kx_preY hK hN hXK hXN ⟨hWro, hM, hM2, hWhi, hWto, hWtb, hWtn⟩) rfl rfl hl.1 rfl (lv_room (Nat.le_of_ble_eq_true rfl)) dL_law_728 ⟨by show cells + 1 ≤ 600086; omega, by show slots + 6 ≤ 7301441; omega⟩) hS (fun y9 _ h => h.1) (fun y9 h => h.1) (fun H locs hMN hk hS => ?_)
    have hL := hL.frame hk (fun x h1 h2 h => by first | (have h3 := h.1; have h4 := h.2; omega) | (rcases h with h | h <;> first | (have h3 := h.1; have h4 := h.2; omega) | (have h3 : _ ≤ x := h; omega)) | (have h3 : _ ≤ x := h; omega))
    obtain ⟨hWro, hM, hM2, hWhi, hWto, hWtb, hWtn⟩ := hMN
    clear hk hXK
    refine lv_iload hx hb dL_law_731 (lv_at hl 0 rfl) ?_
    refine kn_if_le (tgt := 742) hx hb dL_law_733 (by decide) (by omega) (fun c733 => ?_) (fun c733 => ?_)
    · omega
    · refine lv_sipush (v := -1003) hx hb dL_law_736 (by decide) ?_
      refine lv_goto (tgt := 746) hx hb dL_law_739 (by decide) ?_
      refine lv_icmp_eq (tgt := 751) hx hb dL_law_746 (by decide) (fun c746 => ?_) (fun c746 => ?_)
      · refine lv_aload_n hx hb dL_law_751 rfl (lv_at hl 6 rfl) ?_
        refine lv_iload hx hb dL_law_752 (lv_at hl 2 rfl) ?_
        refine lv_iload hx hb dL_law_754 (lv_at hl 0 rfl) ?_
        refine kn_if_le (tgt := 766) hx hb dL_law_756 (by decide) (by omega) (fun c756 => ?_) (fun c756 => ?_)
        · omega
        · refine lv_aload_n hx hb dL_law_759 rfl (lv_at hl 6 rfl) ?_
          refine lv_iload hx hb dL_law_760 (lv_at hl 2 rfl) ?_
          refine kx_iald (i := c0) hx hb hK hL.me 0 rfl hc0 (by decide) dL_law_762 ?_
          refine lv_goto (tgt := 768) hx hb dL_law_763 (by decide) ?_
          refine kx_iast (i := c0) hx hb hK hL.me hS (show x ≤ _ by omega) 0 rfl hc0 (by decide) dL_law_768 (fun H locs hc hU hS => ?_)
          have hL := hL.put_me (i := c0) hc0 hc hU
          have hWhi := hWhi.off hU (by omega)
          have hWro := hWro.kept (hU.2 _ (by omega))
          have hM := hM.off hU (by omega)
          have hM2 := hM2.off hU (by omega)
          have hWtb := hWtb.kept (hU.2 _ (by omega))
          have hWtn := hWtn.kept (hU.2 _ (by omega))
          have hWto := hWto.kept (hU.2 _ (by omega))
          clear hc hU
          have hL : LwC D cs (x + 360) (upd e (8 + c0) (e (8 + c0))) g H := hL
          have hL : LwC D cs (x + 360) e g H := (by have q9 := hL; rw [upd_same rfl] at q9; exact q9)
          exact K _ _ _ _ _ T (by omega) ⟨_, _, _, _, _, _, _, _, _, _, _, _, _, _, ⟨hWro, hM, hM2, hWhi, hWto, hWtb, hWtn⟩, hL, hI, hG, hB, hT, hnx, hcn⟩ hS (Nat.le_refl _) (Nat.le_refl _) (lv_sub hl [3, 4, 5, 6, 7, 8, 9, 10, 11] rfl)
      · exact absurd rfl c746
