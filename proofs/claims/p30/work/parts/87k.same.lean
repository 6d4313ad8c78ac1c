/-! the law's comparisons -/
set_option maxHeartbeats 2500000 in
set_option maxRecDepth 100000 in
theorem k_L_same (l : Launch) (D : va_G) (cs : Nat → ClassId) (x : Nat) (e : Nat → Int32) (g : Nat → Int64) (e1 : Nat → Int32) (g1 : Nat → Int64) (nx cn : Nat) (se : Nat → Nat → Int32) (sg : Nat → Nat → Int64) (b nn : Nat → Int32) (wd ln pa : Nat) (ft : Int32) (hI : Inv e) (hG : Msk e g) (hB : LB e) (a : Nat) (ha : x + 360 ≤ a) (n : Nat) : Met l yL_same wsL_same ({ frames := 5, cells := 9, slots := 68, locals := 106 } : Room) (PcK D cs [.ref (x), .ref (a), .ref (a + 1), .ref (a + 2), .ref (a + 3), .ref (a + 4), .ref (a + 5)] (fun H => (HrC D cs x e g e1 g1 nx cn se sg b nn wd ln pa ft H ∧ LwC D cs a e g H) ∧ H.size = n)) (QcM (some (.int (bI (true)))) (fun H => (HrC D cs x ((dcK e (Mn e))) g e1 g1 nx cn se sg b nn wd ln pa ft H ∧ LwC D cs a e g H)) (fun y9 => (x ≤ y9 ∧ y9 < x + 360) ∨ n ≤ y9)) 9 68 ((fun y9 => (x ≤ y9 ∧ y9 < x + 360) ∨ n ≤ y9)) := by
  refine kx_met (cc := cL_same) (maxL := 14) (ret := (some .boolean)) (by decide) rfl (Nat.le_of_ble_eq_true rfl) ?_
  intro p en s m args below meth c hx hb hml hrt hts hown hlk hK hN hP ls hl
  have hl : lv_has ls 14 [(0, .ref (x)), (1, .ref (a)), (2, .ref (a + 1)), (3, .ref (a + 2)), (4, .ref (a + 3)), (5, .ref (a + 4)), (6, .ref (a + 5))] := hl
  obtain ⟨H, hHe⟩ : ∃ H : Heap, H = s.heap := ⟨_, rfl⟩
  rw [← hHe] at hP ⊢
  have hS : va_S ((fun y9 => (x ≤ y9 ∧ y9 < x + 360) ∨ n ≤ y9)) s.heap H [] := by rw [← hHe]; exact va_S.rf
  obtain ⟨⟨hWro, hM, hM2, hWhi, hWto, hWtb, hWtn⟩, hL⟩ := hP.1
  have hz := hP.2
  have han := hL.lt (a + 5) (by omega) (by omega)
  rw [hz] at han
  have hn9 : n ≤ H.size := Nat.le_of_eq hz.symm
  have h24 := hI.M24
  have h6 := hI.R6
  have h8 := hB.M8
  have hR3 := hB.R
  refine lv_lconst (v := lN 0) hx hb dL_same_0 rfl ?_
  refine lv_lstore (lv' := [(7, .long (lN (0))), (0, .ref (x)), (1, .ref (a)), (2, .ref (a + 1)), (3, .ref (a + 2)), (4, .ref (a + 3)), (5, .ref (a + 4)), (6, .ref (a + 5))]) hx hb dL_same_1 hl (by decide) rfl (fun ls hl => ?_)
  refine lv_iconst (v := nI 4) hx hb dL_same_3 (by decide) ?_
  refine kx_newi hx hb hts (by decide +kernel) hK hS hz 0 rfl (n := 4) (by decide) (Nat.le_of_ble_eq_true rfl) (Nat.le_of_ble_eq_true rfl) dL_same_4 (fun H hA9 z1 o1 hS => ?_)
  have hL := hL.keep (fun x h1 h2 => o1 x (by omega))
  obtain ⟨hWro, hM, hM2, hWhi, hWto, hWtb, hWtn⟩ := HrC.grow (x := x) ⟨hWro, hM, hM2, hWhi, hWto, hWtb, hWtn⟩ (fun y hy => o1 y (by omega))
  have hn9 : n ≤ H.size := by rw [z1]; omega
  have hWsx := hA9
  have hz := z1
  clear hA9 z1 o1
  refine lv_astore (lv' := [(9, .ref (n)), (7, .long (lN (0))), (0, .ref (x)), (1, .ref (a)), (2, .ref (a + 1)), (3, .ref (a + 2)), (4, .ref (a + 3)), (5, .ref (a + 4)), (6, .ref (a + 5))]) hx hb dL_same_6 hl (by decide) rfl (fun ls hl => ?_)
  refine lv_iconst (v := nI 0) hx hb dL_same_8 (by decide) ?_
  refine lv_istore (lv' := [(10, .int (nI (0))), (9, .ref (n)), (7, .long (lN (0))), (0, .ref (x)), (1, .ref (a)), (2, .ref (a + 1)), (3, .ref (a + 2)), (4, .ref (a + 3)), (5, .ref (a + 4)), (6, .ref (a + 5))]) hx hb dL_same_9 hl (by decide) rfl (fun ls hl => ?_)
  have J11 : ∀ (fu11 : Nat) (k : Nat) (H : Heap) (locs : List Loc) (ls : Array Slot), (Mn e - k) < fu11 → (k ≤ Mn e) → (HiC D cs (x + 119) nx cn se sg H) → (LwC D cs a e g H) → (n ≤ H.size) → (va_at D vwCl (x, .inr (5, [.ref (x + 1), .ref (x + 60), .ref (x + 119), .ref (x + 357)])) H) → (StC D cs (x + 1) (dcK e k) g H) → (StC D cs (x + 60) e1 g1 H) → (va_at D vwCl (n, .inl (cs 0, 4, .inl (smF e k))) H) → (va_at D vwCl (x + 357 + 1, .inl (cs 1, 150, .inl b)) H) → (va_at D vwCl (x + 357 + 2, .inl (cs 0, 5, .inl nn)) H) → (va_at D vwCl (x + 357, .inr (0, [.ref (x + 357 + 1), .ref (x + 357 + 2), .ref (wd), .int (nI (ln)), .int (nI (pa)), .int (ft)])) H) → va_S ((fun y9 => (x ≤ y9 ∧ y9 < x + 360) ∨ n ≤ y9)) s.heap H locs → lv_has ls 14 [(0, .ref (x)), (1, .ref (a)), (2, .ref (a + 1)), (3, .ref (a + 2)), (4, .ref (a + 3)), (5, .ref (a + 4)), (6, .ref (a + 5)), (7, .long (lN (hdK e k))), (9, .ref (n)), (10, .int (nI (k)))] → W p l en ({ frames := 5, cells := 9, slots := 68, locals := 106 } : Room) s m args below meth c H locs (0 + 1 + k) (0 + 4 + 8 * k) (MQ below (QcM (some (.int (bI (true)))) (fun H => (HrC D cs x ((dcK e (Mn e))) g e1 g1 nx cn se sg b nn wd ln pa ft H ∧ LwC D cs a e g H)) (fun y9 => (x ≤ y9 ∧ y9 < x + 360) ∨ n ≤ y9)) args s 9 68 ((fun y9 => (x ≤ y9 ∧ y9 < x + 360) ∨ n ≤ y9))) (F0 m 11 ls []) := by
    intro fu11; induction fu11 with
    | zero => intro k H locs ls hmu11 hk hWhi hL hn9 hWro hM hM2 hWsx hWtb hWtn hWto hS hl; exact absurd hmu11 (Nat.not_lt_zero _)
    | succ fu11 ih11 =>
      intro k H locs ls hmu11 hk hWhi hL hn9 hWro hM hM2 hWsx hWtb hWtn hWto hS hl
      have hEy := dc_ei hI k
      have hIy := ev_R hEy
      have hGy := hG.eqv hI hEy.1
      have hMy : Mn (dcK e k) = Mn e := EI.M hEy
      refine lv_iload hx hb dL_same_11 (lv_at hl 9 rfl) ?_
      refine lv_aload_n hx hb dL_same_13 rfl (lv_at hl 1 rfl) ?_
      refine lv_iconst (v := nI 0) hx hb dL_same_14 (by decide) ?_
      refine kx_iald (i := 0) hx hb hK hL.q 0 rfl (by omega) (by decide) dL_same_15 ?_
      refine kx_ci (x := qF e 0) (y := nI (Mn e)) (Inv.z4 hI) ?_
      refine kn_icmp_ge (tgt := 319) hx hb dL_same_16 (by decide) (by omega) (by omega) (fun c_1 => ?_) (fun c_1 => ?_)
      · have hkk : k = Mn e := by omega
        subst hkk
        refine lv_iconst (v := nI 0) hx hb dL_same_319 (by decide) ?_
        refine lv_istore (lv' := [(10, .int (nI (0))), (0, .ref (x)), (1, .ref (a)), (2, .ref (a + 1)), (3, .ref (a + 2)), (4, .ref (a + 3)), (5, .ref (a + 4)), (6, .ref (a + 5)), (7, .long (lN (hdK e (Mn e)))), (9, .ref (n))]) hx hb dL_same_320 hl (by decide) rfl (fun ls hl => ?_)
        have J322 : ∀ (fu322 : Nat) (i : Nat) (H : Heap) (locs : List Loc) (ls : Array Slot), (48 - i) < fu322 → (i ≤ 48) → (HiC D cs (x + 119) nx cn se sg H) → (LwC D cs a e g H) → (n ≤ H.size) → (va_at D vwCl (x, .inr (5, [.ref (x + 1), .ref (x + 60), .ref (x + 119), .ref (x + 357)])) H) → (StC D cs (x + 1) (dcK e (Mn e)) g H) → (StC D cs (x + 60) e1 g1 H) → (va_at D vwCl (n, .inl (cs 0, 4, .inl (smF e (Mn e)))) H) → (va_at D vwCl (x + 357 + 1, .inl (cs 1, 150, .inl b)) H) → (va_at D vwCl (x + 357 + 2, .inl (cs 0, 5, .inl nn)) H) → (va_at D vwCl (x + 357, .inr (0, [.ref (x + 357 + 1), .ref (x + 357 + 2), .ref (wd), .int (nI (ln)), .int (nI (pa)), .int (ft)])) H) → va_S ((fun y9 => (x ≤ y9 ∧ y9 < x + 360) ∨ n ≤ y9)) s.heap H locs → lv_has ls 14 [(0, .ref (x)), (1, .ref (a)), (2, .ref (a + 1)), (3, .ref (a + 2)), (4, .ref (a + 3)), (5, .ref (a + 4)), (6, .ref (a + 5)), (7, .long (lN (hdK e (Mn e)))), (9, .ref (n)), (10, .int (nI (i)))] → W p l en ({ frames := 5, cells := 9, slots := 68, locals := 106 } : Room) s m args below meth c H locs (0 + 1 + Mn e) (0 + 4 + 8 * Mn e) (MQ below (QcM (some (.int (bI (true)))) (fun H => (HrC D cs x ((dcK e (Mn e))) g e1 g1 nx cn se sg b nn wd ln pa ft H ∧ LwC D cs a e g H)) (fun y9 => (x ≤ y9 ∧ y9 < x + 360) ∨ n ≤ y9)) args s 9 68 ((fun y9 => (x ≤ y9 ∧ y9 < x + 360) ∨ n ≤ y9))) (F0 m 322 ls []) := by
          intro fu322; induction fu322 with
          | zero => intro i H locs ls hmu322 hi hWhi hL hn9 hWro hM hM2 hWsx hWtb hWtn hWto hS hl; exact absurd hmu322 (Nat.not_lt_zero _)
          | succ fu322 ih322 =>
            intro i H locs ls hmu322 hi hWhi hL hn9 hWro hM hM2 hWsx hWtb hWtn hWto hS hl
            refine lv_iload hx hb dL_same_322 (lv_at hl 9 rfl) ?_
            refine lv_bipush (v := nI 48) hx hb dL_same_324 (by decide) ?_
            refine kn_icmp_ge (tgt := 369) hx hb dL_same_326 (by decide) (by omega) (by decide) (fun c_2 => ?_) (fun c_2 => ?_)
            · refine lv_iconst (v := nI 0) hx hb dL_same_369 (by decide) ?_
              refine lv_istore (lv' := [(10, .int (nI (0))), (0, .ref (x)), (1, .ref (a)), (2, .ref (a + 1)), (3, .ref (a + 2)), (4, .ref (a + 3)), (5, .ref (a + 4)), (6, .ref (a + 5)), (7, .long (lN (hdK e (Mn e)))), (9, .ref (n))]) hx hb dL_same_370 hl (by decide) rfl (fun ls hl => ?_)
              have J372 : ∀ (fu372 : Nat) (i : Nat) (H : Heap) (locs : List Loc) (ls : Array Slot), (4 - i) < fu372 → (i ≤ 4) → (HiC D cs (x + 119) nx cn se sg H) → (LwC D cs a e g H) → (n ≤ H.size) → (va_at D vwCl (x, .inr (5, [.ref (x + 1), .ref (x + 60), .ref (x + 119), .ref (x + 357)])) H) → (StC D cs (x + 1) (dcK e (Mn e)) g H) → (StC D cs (x + 60) e1 g1 H) → (va_at D vwCl (n, .inl (cs 0, 4, .inl (smF e (Mn e)))) H) → (va_at D vwCl (x + 357 + 1, .inl (cs 1, 150, .inl b)) H) → (va_at D vwCl (x + 357 + 2, .inl (cs 0, 5, .inl nn)) H) → (va_at D vwCl (x + 357, .inr (0, [.ref (x + 357 + 1), .ref (x + 357 + 2), .ref (wd), .int (nI (ln)), .int (nI (pa)), .int (ft)])) H) → va_S ((fun y9 => (x ≤ y9 ∧ y9 < x + 360) ∨ n ≤ y9)) s.heap H locs → lv_has ls 14 [(0, .ref (x)), (1, .ref (a)), (2, .ref (a + 1)), (3, .ref (a + 2)), (4, .ref (a + 3)), (5, .ref (a + 4)), (6, .ref (a + 5)), (7, .long (lN (hdK e (Mn e)))), (9, .ref (n)), (10, .int (nI (i)))] → W p l en ({ frames := 5, cells := 9, slots := 68, locals := 106 } : Room) s m args below meth c H locs (0 + 1 + Mn e) (0 + 4 + 8 * Mn e) (MQ below (QcM (some (.int (bI (true)))) (fun H => (HrC D cs x ((dcK e (Mn e))) g e1 g1 nx cn se sg b nn wd ln pa ft H ∧ LwC D cs a e g H)) (fun y9 => (x ≤ y9 ∧ y9 < x + 360) ∨ n ≤ y9)) args s 9 68 ((fun y9 => (x ≤ y9 ∧ y9 < x + 360) ∨ n ≤ y9))) (F0 m 372 ls []) := by
                intro fu372; induction fu372 with
                | zero => intro i H locs ls hmu372 hi hWhi hL hn9 hWro hM hM2 hWsx hWtb hWtn hWto hS hl; exact absurd hmu372 (Nat.not_lt_zero _)
                | succ fu372 ih372 =>
                  intro i H locs ls hmu372 hi hWhi hL hn9 hWro hM hM2 hWsx hWtb hWtn hWto hS hl
                  refine lv_iload hx hb dL_same_372 (lv_at hl 9 rfl) ?_
                  refine lv_iconst (v := nI 4) hx hb dL_same_374 (by decide) ?_
                  refine kn_icmp_ge (tgt := 402) hx hb dL_same_375 (by decide) (by omega) (by decide) (fun c_3 => ?_) (fun c_3 => ?_)
                  · refine lv_aload_n hx hb dL_same_402 rfl (lv_at hl 0 rfl) ?_
                    refine kx_retP (va_runV (As := []) (rest := []) ⟨hx, hb, hml, hown, hts⟩ (k_X7_held l D cs x (dcK e (Mn e)) g e1 g1 nx cn se sg b nn wd ln pa ft hIy hGy) (cwV 0 hts gL_same_X7_held rfl rfl rfl (by decide +kernel) ⟨Nat.le_of_ble_eq_true rfl, Nat.le_of_ble_eq_true rfl⟩) (kx_preV hK hN hWro rfl ⟨hWro, hM, hM2, hWhi, hWto, hWtb, hWtn⟩) rfl rfl hl.1 rfl (lv_room (Nat.le_of_ble_eq_true rfl)) dL_same_403 ⟨by show 0 + 1 + Mn e + 0 ≤ 9; omega, by show 0 + 4 + 8 * Mn e + 0 ≤ 68; omega⟩) ?_
                    refine kx_cl (x := lN (hdN (dcK e (Mn e)))) (y := lN (hdN e)) (congrArg lN (ev_hd hEy)) ?_
                    refine lv_lload hx hb dL_same_406 (lv_at hl 7 rfl) ?_
                    refine W.lcmp hx hb dL_same_408 ?_
                    refine kl_if_ne (tgt := 439) hx hb dL_same_409 (by decide) (fun c409 => ?_) (fun c409 => ?_)
                    · exact absurd rfl c409
                    · refine lv_aload_n hx hb dL_same_412 rfl (lv_at hl 0 rfl) ?_
                      refine lv_iconst (v := nI 1) hx hb dL_same_413 (by decide) ?_
                      refine kx_retP (va_runV (As := [.int (nI (1))]) (rest := []) ⟨hx, hb, hml, hown, hts⟩ (k_X7_whole l D cs x (dcK e (Mn e)) g e1 g1 nx cn se sg b nn wd ln pa ft 1 hIy hGy (by decide)) (cwV 1 hts gL_same_X7_whole rfl rfl rfl (by decide +kernel) ⟨Nat.le_of_ble_eq_true rfl, Nat.le_of_ble_eq_true rfl⟩) (kx_preV hK hN hWro rfl ⟨hWro, hM, hM2, hWhi, hWto, hWtb, hWtn⟩) rfl rfl hl.1 rfl (lv_room (Nat.le_of_ble_eq_true rfl)) dL_same_414 ⟨by show 0 + 1 + Mn e + 0 ≤ 9; omega, by show 0 + 4 + 8 * Mn e + 0 ≤ 68; omega⟩) ?_
                      refine kx_ci (x := if 1 = 14 then nI ln else wvI (dcK e (Mn e)) 1) (y := nI (Mn e)) ((wv_1 _ ln).trans (congrArg nI hMy)) ?_
                      refine lv_aload_n hx hb dL_same_417 rfl (lv_at hl 1 rfl) ?_
                      refine lv_iconst (v := nI 0) hx hb dL_same_418 (by decide) ?_
                      refine kx_iald (i := 0) hx hb hK hL.q 0 rfl (by omega) (by decide) dL_same_419 ?_
                      refine kx_ci (x := qF e 0) (y := nI (Mn e)) (Inv.z4 hI) ?_
                      refine kn_icmp_ne (tgt := 439) hx hb dL_same_420 (by decide) (by omega) (by omega) (fun c420 => ?_) (fun c420 => ?_)
                      · exact absurd rfl c420
                      · refine lv_aload_n hx hb dL_same_423 rfl (lv_at hl 0 rfl) ?_
                        refine lv_bipush (v := nI 8) hx hb dL_same_424 (by decide) ?_
                        refine kx_retP (va_runV (As := [.int (nI (8))]) (rest := []) ⟨hx, hb, hml, hown, hts⟩ (k_X7_whole l D cs x (dcK e (Mn e)) g e1 g1 nx cn se sg b nn wd ln pa ft 8 hIy hGy (by decide)) (cwV 1 hts gL_same_X7_whole rfl rfl rfl (by decide +kernel) ⟨Nat.le_of_ble_eq_true rfl, Nat.le_of_ble_eq_true rfl⟩) (kx_preV hK hN hWro rfl ⟨hWro, hM, hM2, hWhi, hWto, hWtb, hWtn⟩) rfl rfl hl.1 rfl (lv_room (Nat.le_of_ble_eq_true rfl)) dL_same_426 ⟨by show 0 + 1 + Mn e + 0 ≤ 9; omega, by show 0 + 4 + 8 * Mn e + 0 ≤ 68; omega⟩) ?_
                        refine kx_ci (x := if 8 = 14 then nI ln else wvI (dcK e (Mn e)) 8) (y := e 0) ((wv_8 _ ln).trans (dcK_lo e (Mn e) (by omega))) ?_
                        refine lv_aload_n hx hb dL_same_429 rfl (lv_at hl 1 rfl) ?_
                        refine lv_iconst (v := nI 1) hx hb dL_same_430 (by decide) ?_
                        refine kx_iald (i := 1) hx hb hK hL.q 0 rfl (by omega) (by decide) dL_same_431 ?_
                        refine kx_ci (x := qF e 1) (y := e 0) rfl ?_
                        refine lv_icmp_ne (tgt := 439) hx hb dL_same_432 (by decide) (fun c432 => ?_) (fun c432 => ?_)
                        · exact absurd rfl c432
                        · refine lv_iconst (v := nI 1) hx hb dL_same_435 (by decide) ?_
                          refine lv_goto (tgt := 440) hx hb dL_same_436 (by decide) ?_
                          exact kx_zretN hx hb hrt hlk rfl ⟨⟨hWro, hM, hM2, hWhi, hWto, hWtb, hWtn⟩, hL⟩ hS (by omega) (by omega) dL_same_440
                  · refine lv_aload_n hx hb dL_same_378 rfl (lv_at hl 0 rfl) ?_
                    refine lv_iconst (v := nI 2) hx hb dL_same_379 (by decide) ?_
                    refine lv_iload hx hb dL_same_380 (lv_at hl 9 rfl) ?_
                    refine kn_add hx hb dL_same_382 ?_
                    refine kx_retP (va_runV (As := [.int (nI (2 + i))]) (rest := []) ⟨hx, hb, hml, hown, hts⟩ (k_X7_whole l D cs x (dcK e (Mn e)) g e1 g1 nx cn se sg b nn wd ln pa ft (2 + i) hIy hGy (by omega)) (cwV 1 hts gL_same_X7_whole rfl rfl rfl (by decide +kernel) ⟨Nat.le_of_ble_eq_true rfl, Nat.le_of_ble_eq_true rfl⟩) (kx_preV hK hN hWro rfl ⟨hWro, hM, hM2, hWhi, hWto, hWtb, hWtn⟩) rfl rfl hl.1 rfl (lv_room (Nat.le_of_ble_eq_true rfl)) dL_same_383 ⟨by show 0 + 1 + Mn e + 0 ≤ 9; omega, by show 0 + 4 + 8 * Mn e + 0 ≤ 68; omega⟩) ?_
                    refine kx_ci (x := if (2 + i) = 14 then nI ln else wvI (dcK e (Mn e)) (2 + i)) (y := nI (msN e i)) ((wv_st _ ln (by omega)).trans (congrArg nI (hEy.1.ms i))) ?_
                    refine lv_aload hx hb dL_same_386 (lv_at hl 8 rfl) ?_
                    refine lv_iload hx hb dL_same_388 (lv_at hl 9 rfl) ?_
                    refine kx_iald (i := i) hx hb hK hWsx 0 rfl (by omega) (by omega) dL_same_390 ?_
                    refine kx_ci (x := (smF e (Mn e)) i) (y := nI (msN e i)) rfl ?_
                    refine kn_icmp_eq (tgt := 396) hx hb dL_same_391 (by decide) (Nat.lt_trans (msK_24 e i (by omega)) (by decide)) (Nat.lt_trans (msK_24 e i (by omega)) (by decide)) (fun c391 => ?_) (fun c391 => ?_)
                    · refine lv_iinc (v := nI (i + 1)) (lv' := [(10, .int (nI (i + 1))), (0, .ref (x)), (1, .ref (a)), (2, .ref (a + 1)), (3, .ref (a + 2)), (4, .ref (a + 3)), (5, .ref (a + 4)), (6, .ref (a + 5)), (7, .long (lN (hdK e (Mn e)))), (9, .ref (n))]) (k := 9) hx hb dL_same_396 hl rfl (nI_add _ _) (by decide) rfl (fun ls hl => ?_)
                      refine lv_goto (tgt := 372) hx hb dL_same_399 (by decide) ?_
                      exact ih372 (i + 1) _ _ _ (by omega) (by omega) hWhi hL hn9 hWro hM hM2 hWsx hWtb hWtn hWto hS (lv_sub hl [1, 2, 3, 4, 5, 6, 7, 8, 9, 0] rfl)
                    · exact absurd rfl c391
              exact J372 _ 0 _ _ _ (Nat.lt_succ_self _) (by omega) hWhi hL hn9 hWro hM hM2 hWsx hWtb hWtn hWto hS (lv_sub hl [1, 2, 3, 4, 5, 6, 7, 8, 9, 0] rfl)
            · refine lv_aload_n hx hb dL_same_329 rfl (lv_at hl 0 rfl) ?_
              refine lv_iload hx hb dL_same_330 (lv_at hl 9 rfl) ?_
              refine kx_retP (va_runV (As := [.int (nI (i))]) (rest := []) ⟨hx, hb, hml, hown, hts⟩ (k_X7_cell l D cs x (dcK e (Mn e)) g e1 g1 nx cn se sg b nn wd ln pa ft i (by omega)) (cwV 1 hts gL_same_X7_cell rfl rfl rfl (by decide +kernel) ⟨Nat.le_of_ble_eq_true rfl, Nat.le_of_ble_eq_true rfl⟩) (kx_preV hK hN hWro rfl ⟨hWro, hM, hM2, hWhi, hWto, hWtb, hWtn⟩) rfl rfl hl.1 rfl (lv_room (Nat.le_of_ble_eq_true rfl)) dL_same_332 ⟨by show 0 + 1 + Mn e + 0 ≤ 9; omega, by show 0 + 4 + 8 * Mn e + 0 ≤ 68; omega⟩) ?_
              refine kx_ci (x := (dcK e (Mn e)) (8 + i)) (y := e (8 + i)) (dcK_lo e (Mn e) (by omega)) ?_
              refine lv_aload_n hx hb dL_same_335 rfl (lv_at hl 2 rfl) ?_
              refine lv_iload hx hb dL_same_336 (lv_at hl 9 rfl) ?_
              refine kx_iald (i := i) hx hb hK hL.me 0 rfl (by omega) (by decide) dL_same_338 ?_
              refine lv_icmp_ne (tgt := 361) hx hb dL_same_339 (by decide) (fun c339 => ?_) (fun c339 => ?_)
              · exact absurd rfl c339
              · refine lv_aload_n hx hb dL_same_342 rfl (lv_at hl 0 rfl) ?_
                refine lv_iload hx hb dL_same_343 (lv_at hl 9 rfl) ?_
                refine kx_retP (va_runV (As := [.int (nI (i))]) (rest := []) ⟨hx, hb, hml, hown, hts⟩ (k_X7_reason l D cs x (dcK e (Mn e)) g e1 g1 nx cn se sg b nn wd ln pa ft i hIy hGy (by omega)) (cwV 1 hts gL_same_X7_reason rfl rfl rfl (by decide +kernel) ⟨Nat.le_of_ble_eq_true rfl, Nat.le_of_ble_eq_true rfl⟩) (kx_preV hK hN hWro rfl ⟨hWro, hM, hM2, hWhi, hWto, hWtb, hWtn⟩) rfl rfl hl.1 rfl (lv_room (Nat.le_of_ble_eq_true rfl)) dL_same_345 ⟨by show 0 + 1 + Mn e + 0 ≤ 9; omega, by show 0 + 4 + 8 * Mn e + 0 ≤ 68; omega⟩) ?_
                refine kx_ci (x := nI (barN (dcK e (Mn e)) i)) (y := nI (rsC e i)) (congrArg nI (ev_rb hEy i)) ?_
                refine lv_iload hx hb dL_same_348 (lv_at hl 9 rfl) ?_
                refine lv_aload_n hx hb dL_same_350 rfl (lv_at hl 1 rfl) ?_
                refine lv_aload hx hb dL_same_351 (lv_at hl 4 rfl) ?_
                refine lv_aload hx hb dL_same_353 (lv_at hl 6 rfl) ?_
                refine kx_retP (va_runS (As := [.int (nI (i)), .ref (a), .ref (a + 3), .ref (a + 5)]) (rest := [.int (nI (rsC e i))]) ⟨hx, hb, hml, hown, hts⟩ (k_L_reason l D cs a e g i hI hG hB (by omega)) (cwS 4 hts gL_same_L_reason rfl rfl rfl (by decide +kernel) ⟨Nat.le_of_ble_eq_true rfl, Nat.le_of_ble_eq_true rfl⟩) (kx_preS hK hN hL) rfl rfl hl.1 rfl (lv_room (Nat.le_of_ble_eq_true rfl)) dL_same_355 ⟨by show 0 + 1 + Mn e + 0 ≤ 9; omega, by show 0 + 4 + 8 * Mn e + 0 ≤ 68; omega⟩) ?_
                refine kn_icmp_eq (tgt := 363) hx hb dL_same_358 (by decide) (Nat.lt_of_lt_of_le (Nat.mod_lt _ (by decide)) (by decide)) (Nat.lt_of_lt_of_le (Nat.mod_lt _ (by decide)) (by decide)) (fun c358 => ?_) (fun c358 => ?_)
                · refine lv_iinc (v := nI (i + 1)) (lv' := [(10, .int (nI (i + 1))), (0, .ref (x)), (1, .ref (a)), (2, .ref (a + 1)), (3, .ref (a + 2)), (4, .ref (a + 3)), (5, .ref (a + 4)), (6, .ref (a + 5)), (7, .long (lN (hdK e (Mn e)))), (9, .ref (n))]) (k := 9) hx hb dL_same_363 hl rfl (nI_add _ _) (by decide) rfl (fun ls hl => ?_)
                  refine lv_goto (tgt := 322) hx hb dL_same_366 (by decide) ?_
                  exact ih322 (i + 1) _ _ _ (by omega) (by omega) hWhi hL hn9 hWro hM hM2 hWsx hWtb hWtn hWto hS (lv_sub hl [1, 2, 3, 4, 5, 6, 7, 8, 9, 0] rfl)
                · exact absurd rfl c358
        exact J322 _ 0 _ _ _ (Nat.lt_succ_self _) (by omega) hWhi hL hn9 hWro hM hM2 hWsx hWtb hWtn hWto hS (lv_sub hl [1, 2, 3, 4, 5, 6, 7, 8, 9, 0] rfl)
      · have hkM : k < Mn e := by omega
        have hs3 := hI.s3 hkM
        have hc8 := hB.c8 hkM
        have hwc := hI.wc hkM
        refine lv_aload hx hb dL_same_19 (lv_at hl 4 rfl) ?_
        refine lv_bipush (v := nI 8) hx hb dL_same_21 (by decide) ?_
        refine lv_iload hx hb dL_same_23 (lv_at hl 9 rfl) ?_
        refine kn_mul hx hb dL_same_25 ?_
        refine lv_iconst (v := nI 5) hx hb dL_same_26 (by decide) ?_
        refine kn_add hx hb dL_same_27 ?_
        refine kx_iald (i := 8 * k + 5) hx hb hK hL.mv 0 rfl (by omega) (by decide) dL_same_28 ?_
        refine kx_ci (x := mvF e (8 * k + 5)) (y := nI (mS e k)) (Eq.trans (mvF_lo e k (p := 5) (by omega)) (Inv.m5 hI (by first | assumption | omega))) ?_
        refine lv_istore (lv' := [(11, .int (nI (mS e k))), (0, .ref (x)), (1, .ref (a)), (2, .ref (a + 1)), (3, .ref (a + 2)), (4, .ref (a + 3)), (5, .ref (a + 4)), (6, .ref (a + 5)), (7, .long (lN (hdK e k))), (9, .ref (n)), (10, .int (nI (k)))]) hx hb dL_same_29 hl (by decide) rfl (fun ls hl => ?_)
        have J57 : ∀ (H : Heap) (locs : List Loc) (ls : Array Slot), (HiC D cs (x + 119) nx cn se sg H) → (LwC D cs a e g H) → (n ≤ H.size) → (va_at D vwCl (x, .inr (5, [.ref (x + 1), .ref (x + 60), .ref (x + 119), .ref (x + 357)])) H) → (StC D cs (x + 1) (dcK e k) g H) → (StC D cs (x + 60) e1 g1 H) → (va_at D vwCl (n, .inl (cs 0, 4, .inl (smF e k))) H) → (va_at D vwCl (x + 357 + 1, .inl (cs 1, 150, .inl b)) H) → (va_at D vwCl (x + 357 + 2, .inl (cs 0, 5, .inl nn)) H) → (va_at D vwCl (x + 357, .inr (0, [.ref (x + 357 + 1), .ref (x + 357 + 2), .ref (wd), .int (nI (ln)), .int (nI (pa)), .int (ft)])) H) → va_S ((fun y9 => (x ≤ y9 ∧ y9 < x + 360) ∨ n ≤ y9)) s.heap H locs → lv_has ls 14 [(0, .ref (x)), (1, .ref (a)), (2, .ref (a + 1)), (3, .ref (a + 2)), (4, .ref (a + 3)), (5, .ref (a + 4)), (6, .ref (a + 5)), (7, .long (lN (hdK e k))), (9, .ref (n)), (10, .int (nI (k))), (11, .int (nI (mS e k)))] → W p l en ({ frames := 5, cells := 9, slots := 68, locals := 106 } : Room) s m args below meth c H locs (0 + 1 + k) (0 + 4 + 8 * k) (MQ below (QcM (some (.int (bI (true)))) (fun H => (HrC D cs x ((dcK e (Mn e))) g e1 g1 nx cn se sg b nn wd ln pa ft H ∧ LwC D cs a e g H)) (fun y9 => (x ≤ y9 ∧ y9 < x + 360) ∨ n ≤ y9)) args s 9 68 ((fun y9 => (x ≤ y9 ∧ y9 < x + 360) ∨ n ≤ y9))) (F0 m 57 ls [.long (lN (hdK e (k + 1)))]) := by
          intro H locs ls hWhi hL hn9 hWro hM hM2 hWsx hWtb hWtn hWto hS hl
          refine lv_lstore (lv' := [(7, .long (lN (hdK e (k + 1)))), (0, .ref (x)), (1, .ref (a)), (2, .ref (a + 1)), (3, .ref (a + 2)), (4, .ref (a + 3)), (5, .ref (a + 4)), (6, .ref (a + 5)), (9, .ref (n)), (10, .int (nI (k))), (11, .int (nI (mS e k)))]) hx hb dL_same_57 hl (by decide) rfl (fun ls hl => ?_)
          refine lv_aload hx hb dL_same_59 (lv_at hl 8 rfl) ?_
          refine lv_iload hx hb dL_same_61 (lv_at hl 10 rfl) ?_
          refine lv_dup2_11 hx hb dL_same_63 rfl rfl ?_
          refine kx_iald (i := mS e k) hx hb hK hWsx 0 rfl (by omega) (by omega) dL_same_64 ?_
          refine kx_ci (x := (smF e k) (mS e k)) (y := nI (msK e (mS e k) k)) rfl ?_
          refine lv_iconst (v := nI 1) hx hb dL_same_65 (by decide) ?_
          refine kn_add hx hb dL_same_66 ?_
          refine kx_iast (i := mS e k) hx hb hK hWsx hS (Or.inr (Nat.le_refl n)) 0 rfl (by omega) (by omega) dL_same_67 (fun H locs hc hU hS => ?_)
          have hWsx : va_at D vwCl (n, .inl (cs 0, 4, .inl (upd (smF e k) (mS e k) (nI (msK e (mS e k) k + 1))))) H := hc
          have hWhi := hWhi.off hU (by omega)
          have hL := hL.off hU (by omega)
          have hn9 := hU.1 ▸ hn9
          have hWro := hWro.kept (hU.2 _ (by omega))
          have hM := hM.off hU (by omega)
          have hM2 := hM2.off hU (by omega)
          have hWtb := hWtb.kept (hU.2 _ (by omega))
          have hWtn := hWtn.kept (hU.2 _ (by omega))
          have hWto := hWto.kept (hU.2 _ (by omega))
          clear hc hU
          have hWsx : va_at D vwCl (n, .inl (cs 0, 4, .inl (smF e (k + 1)))) H := by rw [← sm_s]; exact hWsx
          refine lv_aload_n hx hb dL_same_68 rfl (lv_at hl 1 rfl) ?_
          refine lv_iload hx hb dL_same_69 (lv_at hl 9 rfl) ?_
          refine lv_iconst (v := nI 5) hx hb dL_same_71 (by decide) ?_
          refine kx_retP (va_runV (As := [.int (nI (k)), .int (nI (5))]) (rest := []) ⟨hx, hb, hml, hown, hts⟩ (k_X7_moveOf l D cs x (dcK e k) g e1 g1 nx cn se sg b nn wd ln pa ft k 5 hIy (by omega) (by decide)) (cwV 2 hts gL_same_X7_moveOf rfl rfl rfl (by decide +kernel) ⟨Nat.le_of_ble_eq_true rfl, Nat.le_of_ble_eq_true rfl⟩) (kx_preV hK hN hWro rfl ⟨hWro, hM, hM2, hWhi, hWto, hWtb, hWtn⟩) rfl rfl hl.1 rfl (lv_room (Nat.le_of_ble_eq_true rfl)) dL_same_72 ⟨by show 0 + 1 + k + 0 ≤ 9; omega, by show 0 + 4 + 8 * k + 0 ≤ 68; omega⟩) ?_
          refine kx_ci (x := (dcK e k) (80 + 10 * k + 5)) (y := nI (mS e k)) ((dcK_lo e k (by omega)).trans (hI.m5 hkM)) ?_
          refine lv_iload hx hb dL_same_75 (lv_at hl 10 rfl) ?_
          refine kn_icmp_ne (tgt := 176) hx hb dL_same_77 (by decide) (by omega) (by omega) (fun c77 => ?_) (fun c77 => ?_)
          · exact absurd rfl c77
          · refine lv_aload_n hx hb dL_same_80 rfl (lv_at hl 1 rfl) ?_
            refine lv_iload hx hb dL_same_81 (lv_at hl 9 rfl) ?_
            refine lv_bipush (v := nI 6) hx hb dL_same_83 (by decide) ?_
            refine kx_retP (va_runV (As := [.int (nI (k)), .int (nI (6))]) (rest := []) ⟨hx, hb, hml, hown, hts⟩ (k_X7_moveOf l D cs x (dcK e k) g e1 g1 nx cn se sg b nn wd ln pa ft k 6 hIy (by omega) (by decide)) (cwV 2 hts gL_same_X7_moveOf rfl rfl rfl (by decide +kernel) ⟨Nat.le_of_ble_eq_true rfl, Nat.le_of_ble_eq_true rfl⟩) (kx_preV hK hN hWro rfl ⟨hWro, hM, hM2, hWhi, hWto, hWtb, hWtn⟩) rfl rfl hl.1 rfl (lv_room (Nat.le_of_ble_eq_true rfl)) dL_same_85 ⟨by show 0 + 1 + k + 0 ≤ 9; omega, by show 0 + 4 + 8 * k + 0 ≤ 68; omega⟩) ?_
            refine kx_ci (x := (dcK e k) (80 + 10 * k + 6)) (y := nI (mW e k)) ((dcK_lo e k (by omega)).trans (hI.m6 hkM)) ?_
            refine lv_aload hx hb dL_same_88 (lv_at hl 5 rfl) ?_
            refine lv_bipush (v := nI 8) hx hb dL_same_90 (by decide) ?_
            refine lv_iload hx hb dL_same_92 (lv_at hl 9 rfl) ?_
            refine kn_mul hx hb dL_same_94 ?_
            refine lv_bipush (v := nI 6) hx hb dL_same_95 (by decide) ?_
            refine kn_add hx hb dL_same_97 ?_
            refine kx_iald (i := 8 * k + 6) hx hb hK hL.mv 0 rfl (by omega) (by decide) dL_same_98 ?_
            refine kx_ci (x := mvF e (8 * k + 6)) (y := nI (mW e k)) (Eq.trans (mvF_lo e k (p := 6) (by omega)) (Inv.m6 hI (by first | assumption | omega))) ?_
            refine kn_icmp_ne (tgt := 176) hx hb dL_same_99 (by decide) (by omega) (by omega) (fun c99 => ?_) (fun c99 => ?_)
            · exact absurd rfl c99
            · refine lv_aload_n hx hb dL_same_102 rfl (lv_at hl 1 rfl) ?_
              refine lv_iload hx hb dL_same_103 (lv_at hl 9 rfl) ?_
              refine kx_retP (va_runV (As := [.int (nI (k))]) (rest := []) ⟨hx, hb, hml, hown, hts⟩ (k_X7_waitsFor l D cs x (dcK e k) g e1 g1 nx cn se sg b nn wd ln pa ft k hIy hGy (by omega)) (cwV 1 hts gL_same_X7_waitsFor rfl rfl rfl (by decide +kernel) ⟨Nat.le_of_ble_eq_true rfl, Nat.le_of_ble_eq_true rfl⟩) (kx_preV hK hN hWro rfl ⟨hWro, hM, hM2, hWhi, hWto, hWtb, hWtn⟩) rfl rfl hl.1 rfl (lv_room (Nat.le_of_ble_eq_true rfl)) dL_same_105 ⟨by show 0 + 1 + k + 0 ≤ 9; omega, by show 0 + 4 + 8 * k + 0 ≤ 68; omega⟩) ?_
              refine kx_ci (x := nI (woN (dcK e k) k)) (y := nI (woN e k)) (congrArg nI (hEy.1.wo hI hkM)) ?_
              refine lv_iload hx hb dL_same_108 (lv_at hl 9 rfl) ?_
              refine lv_aload hx hb dL_same_110 (lv_at hl 5 rfl) ?_
              refine lv_aload hx hb dL_same_112 (lv_at hl 7 rfl) ?_
              refine kx_retP (va_runS (As := [.int (nI (k)), .ref (a + 3), .ref (a + 5)]) (rest := [.int (nI (woN e k))]) ⟨hx, hb, hml, hown, hts⟩ (k_L_waitsFor l D cs a e g k hI hG hB hkM) (cwS 3 hts gL_same_L_waitsFor rfl rfl rfl (by decide +kernel) ⟨Nat.le_of_ble_eq_true rfl, Nat.le_of_ble_eq_true rfl⟩) (kx_preS hK hN hL) rfl rfl hl.1 rfl (lv_room (Nat.le_of_ble_eq_true rfl)) dL_same_114 ⟨by show 0 + 1 + k + 0 ≤ 9; omega, by show 0 + 4 + 8 * k + 0 ≤ 68; omega⟩) ?_
              refine kn_icmp_ne (tgt := 176) hx hb dL_same_117 (by decide) (Nat.lt_trans (woN_lt e (by omega)) (by decide)) (Nat.lt_trans (woN_lt e (by omega)) (by decide)) (fun c117 => ?_) (fun c117 => ?_)
              · exact absurd rfl c117
              · refine lv_aload_n hx hb dL_same_120 rfl (lv_at hl 1 rfl) ?_
                refine lv_iload hx hb dL_same_121 (lv_at hl 9 rfl) ?_
                refine kx_retM (va_runV (As := [.int (nI (k))]) (rest := []) ⟨hx, hb, hml, hown, hts⟩ (k_X7_depth l D cs x (dcK e k) g e1 g1 nx cn se sg b nn wd ln pa ft k hIy hGy (by omega)) (cwV 1 hts gL_same_X7_depth rfl rfl rfl (by decide +kernel) ⟨Nat.le_of_ble_eq_true rfl, Nat.le_of_ble_eq_true rfl⟩) (kx_preV hK hN hWro rfl ⟨hWro, hM, hM2, hWhi, hWto, hWtb, hWtn⟩) rfl rfl hl.1 rfl (lv_room (Nat.le_of_ble_eq_true rfl)) dL_same_123 ⟨by show 0 + 1 + k + 0 ≤ 9; omega, by show 0 + 4 + 8 * k + 0 ≤ 68; omega⟩) hS (fun x _ h => (Or.inl h)) (fun x h => (Or.inl h)) (fun H locs hMN hk hS => ?_)
                have hL := hL.frame hk (fun x h1 h2 h => by first | (have h3 := h.1; have h4 := h.2; omega) | (rcases h with h | h <;> first | (have h3 := h.1; have h4 := h.2; omega) | (have h3 : _ ≤ x := h; omega)) | (have h3 : _ ≤ x := h; omega))
                have hn9 := Nat.le_trans hn9 hk.1
                have hWsx := hWsx.kept (hk.2 _ hWsx.lt (fun h => by first | (have h3 := h.1; have h4 := h.2; omega) | (rcases h with h | h <;> (have h3 := h.1; have h4 := h.2; omega))))
                obtain ⟨hWro, hM, hM2, hWhi, hWto, hWtb, hWtn⟩ := hMN
                clear hk
                rw [dcK_dcK hI hkM] at hM
                have hE1 := dc_ei hI (k + 1)
                have hIy1 := ev_R hE1
                have hGy1 := hG.eqv hI hE1.1
                have hMy1 : Mn (dcK e (k + 1)) = Mn e := EI.M hE1
                refine kx_ci (x := nI (dpN (dcK e k) k)) (y := nI (dpN e k)) (congrArg nI (ev_dp hEy hkM)) ?_
                refine lv_iload hx hb dL_same_126 (lv_at hl 9 rfl) ?_
                refine lv_aload hx hb dL_same_128 (lv_at hl 5 rfl) ?_
                refine lv_aload hx hb dL_same_130 (lv_at hl 7 rfl) ?_
                refine kx_retN (va_runS (As := [.int (nI (k)), .ref (a + 3), .ref (a + 5)]) (rest := [.int (nI (dpN e k))]) ⟨hx, hb, hml, hown, hts⟩ (k_L_depth l D cs a e g k hI hG hB hkM H.size) (cwS 3 hts gL_same_L_depth rfl rfl rfl (by decide +kernel) ⟨Nat.le_of_ble_eq_true rfl, Nat.le_of_ble_eq_true rfl⟩) (kx_preS hK hN ⟨hL, rfl⟩) rfl rfl hl.1 rfl (lv_room (Nat.le_of_ble_eq_true rfl)) dL_same_132 ⟨by show 0 + 1 + k + 1 ≤ 9; omega, by show 0 + 4 + 8 * k + 8 ≤ 68; omega⟩) hS (fun y9 _ h => Or.inr (Nat.le_trans hn9 h)) (fun y9 h => Or.inr (Nat.le_trans hn9 h)) (fun H locs hMN hk hS => ?_)
                have hg9 := fun (y : Nat) hy => hk.2 y hy (Nat.not_le.mpr hy)
                obtain ⟨hWro, hM, hM2, hWhi, hWto, hWtb, hWtn⟩ := HrC.grow (x := x) ⟨hWro, hM, hM2, hWhi, hWto, hWtb, hWtn⟩ hg9
                have hWsx := hWsx.kept (hg9 _ hWsx.lt)
                have hL := hMN.1
                have hn9 := Nat.le_trans hn9 hk.1
                clear hk hMN hg9
                refine kn_icmp_ne (tgt := 176) hx hb dL_same_135 (by decide) (Nat.lt_trans (dpT_lt e (by omega)) (by decide)) (Nat.lt_trans (dpT_lt e (by omega)) (by decide)) (fun c135 => ?_) (fun c135 => ?_)
                · exact absurd rfl c135
                · refine lv_aload_n hx hb dL_same_138 rfl (lv_at hl 1 rfl) ?_
                  refine lv_iload hx hb dL_same_139 (lv_at hl 9 rfl) ?_
                  refine lv_iconst (v := nI 0) hx hb dL_same_141 (by decide) ?_
                  refine kx_ci (x := nI (0)) (y := bI (false)) rfl ?_
                  refine kx_retP (va_runV (As := [.int (nI (k)), .int (bI (false))]) (rest := []) ⟨hx, hb, hml, hown, hts⟩ (k_X7_cellSet l D cs x (dcK e (k + 1)) g e1 g1 nx cn se sg b nn wd ln pa ft k false hIy1 hGy1 (by omega)) (cwV 2 hts gL_same_X7_cellSet rfl rfl rfl (by decide +kernel) ⟨Nat.le_of_ble_eq_true rfl, Nat.le_of_ble_eq_true rfl⟩) (kx_preV hK hN hWro rfl ⟨hWro, hM, hM2, hWhi, hWto, hWtb, hWtn⟩) rfl rfl hl.1 rfl (lv_room (Nat.le_of_ble_eq_true rfl)) dL_same_142 ⟨by show 0 + 1 + k + 1 + 0 ≤ 9; omega, by show 0 + 4 + 8 * k + 8 + 0 ≤ 68; omega⟩) ?_
                  refine kx_cl (x := lN (csN (dcK e (k + 1)) false k)) (y := lN (csN e false k)) (congrArg lN (ev_cs hE1 hkM _)) ?_
                  refine lv_aload hx hb dL_same_145 (lv_at hl 7 rfl) ?_
                  refine lv_iconst (v := nI 2) hx hb dL_same_147 (by decide) ?_
                  refine lv_iload hx hb dL_same_148 (lv_at hl 9 rfl) ?_
                  refine kn_mul hx hb dL_same_150 ?_
                  refine kx_lald (i := 2 * k) hx hb hK hL.ce 5 rfl (by omega) (by decide) dL_same_151 ?_
                  refine kx_cl (x := g (2 * k)) (y := lN (csN e false k)) (hG k (by first | assumption | omega)).1 ?_
                  refine W.lcmp hx hb dL_same_152 ?_
                  refine kl_if_ne (tgt := 176) hx hb dL_same_153 (by decide) (fun c153 => ?_) (fun c153 => ?_)
                  · exact absurd rfl c153
                  · refine lv_aload_n hx hb dL_same_156 rfl (lv_at hl 1 rfl) ?_
                    refine lv_iload hx hb dL_same_157 (lv_at hl 9 rfl) ?_
                    refine lv_iconst (v := nI 1) hx hb dL_same_159 (by decide) ?_
                    refine kx_ci (x := nI (1)) (y := bI (true)) rfl ?_
                    refine kx_retP (va_runV (As := [.int (nI (k)), .int (bI (true))]) (rest := []) ⟨hx, hb, hml, hown, hts⟩ (k_X7_cellSet l D cs x (dcK e (k + 1)) g e1 g1 nx cn se sg b nn wd ln pa ft k true hIy1 hGy1 (by omega)) (cwV 2 hts gL_same_X7_cellSet rfl rfl rfl (by decide +kernel) ⟨Nat.le_of_ble_eq_true rfl, Nat.le_of_ble_eq_true rfl⟩) (kx_preV hK hN hWro rfl ⟨hWro, hM, hM2, hWhi, hWto, hWtb, hWtn⟩) rfl rfl hl.1 rfl (lv_room (Nat.le_of_ble_eq_true rfl)) dL_same_160 ⟨by show 0 + 1 + k + 1 + 0 ≤ 9; omega, by show 0 + 4 + 8 * k + 8 + 0 ≤ 68; omega⟩) ?_
                    refine kx_cl (x := lN (csN (dcK e (k + 1)) true k)) (y := lN (csN e true k)) (congrArg lN (ev_cs hE1 hkM _)) ?_
                    refine lv_aload hx hb dL_same_163 (lv_at hl 7 rfl) ?_
                    refine lv_iconst (v := nI 2) hx hb dL_same_165 (by decide) ?_
                    refine lv_iload hx hb dL_same_166 (lv_at hl 9 rfl) ?_
                    refine kn_mul hx hb dL_same_168 ?_
                    refine lv_iconst (v := nI 1) hx hb dL_same_169 (by decide) ?_
                    refine kn_add hx hb dL_same_170 ?_
                    refine kx_lald (i := 2 * k + 1) hx hb hK hL.ce 5 rfl (by omega) (by decide) dL_same_171 ?_
                    refine kx_cl (x := g (2 * k + 1)) (y := lN (csN e true k)) (hG k (by first | assumption | omega)).2 ?_
                    refine W.lcmp hx hb dL_same_172 ?_
                    refine kl_if_eq (tgt := 178) hx hb dL_same_173 (by decide) (fun c173 => ?_) (fun c173 => ?_)
                    · have J214 : ∀ (H : Heap) (locs : List Loc) (ls : Array Slot), (HiC D cs (x + 119) nx cn se sg H) → (LwC D cs a e g H) → (n ≤ H.size) → (va_at D vwCl (x, .inr (5, [.ref (x + 1), .ref (x + 60), .ref (x + 119), .ref (x + 357)])) H) → (StC D cs (x + 1) (dcK e (k + 1)) g H) → (StC D cs (x + 60) e1 g1 H) → (va_at D vwCl (n, .inl (cs 0, 4, .inl (smF e (k + 1)))) H) → (va_at D vwCl (x + 357 + 1, .inl (cs 1, 150, .inl b)) H) → (va_at D vwCl (x + 357 + 2, .inl (cs 0, 5, .inl nn)) H) → (va_at D vwCl (x + 357, .inr (0, [.ref (x + 357 + 1), .ref (x + 357 + 2), .ref (wd), .int (nI (ln)), .int (nI (pa)), .int (ft)])) H) → va_S ((fun y9 => (x ≤ y9 ∧ y9 < x + 360) ∨ n ≤ y9)) s.heap H locs → lv_has ls 14 [(0, .ref (x)), (1, .ref (a)), (2, .ref (a + 1)), (3, .ref (a + 2)), (4, .ref (a + 3)), (5, .ref (a + 4)), (6, .ref (a + 5)), (7, .long (lN (hdK e (k + 1)))), (9, .ref (n)), (10, .int (nI (k))), (11, .int (nI (mS e k)))] → W p l en ({ frames := 5, cells := 9, slots := 68, locals := 106 } : Room) s m args below meth c H locs (0 + 1 + k + 1) (0 + 4 + 8 * k + 8) (MQ below (QcM (some (.int (bI (true)))) (fun H => (HrC D cs x ((dcK e (Mn e))) g e1 g1 nx cn se sg b nn wd ln pa ft H ∧ LwC D cs a e g H)) (fun y9 => (x ≤ y9 ∧ y9 < x + 360) ∨ n ≤ y9)) args s 9 68 ((fun y9 => (x ≤ y9 ∧ y9 < x + 360) ∨ n ≤ y9))) (F0 m 214 ls []) := by
                        intro H locs ls hWhi hL hn9 hWro hM hM2 hWsx hWtb hWtn hWto hS hl
                        have J246 : ∀ (H : Heap) (locs : List Loc) (ls : Array Slot), (HiC D cs (x + 119) nx cn se sg H) → (LwC D cs a e g H) → (n ≤ H.size) → (va_at D vwCl (x, .inr (5, [.ref (x + 1), .ref (x + 60), .ref (x + 119), .ref (x + 357)])) H) → (StC D cs (x + 1) (dcK e (k + 1)) g H) → (StC D cs (x + 60) e1 g1 H) → (va_at D vwCl (n, .inl (cs 0, 4, .inl (smF e (k + 1)))) H) → (va_at D vwCl (x + 357 + 1, .inl (cs 1, 150, .inl b)) H) → (va_at D vwCl (x + 357 + 2, .inl (cs 0, 5, .inl nn)) H) → (va_at D vwCl (x + 357, .inr (0, [.ref (x + 357 + 1), .ref (x + 357 + 2), .ref (wd), .int (nI (ln)), .int (nI (pa)), .int (ft)])) H) → va_S ((fun y9 => (x ≤ y9 ∧ y9 < x + 360) ∨ n ≤ y9)) s.heap H locs → lv_has ls 14 [(0, .ref (x)), (1, .ref (a)), (2, .ref (a + 1)), (3, .ref (a + 2)), (4, .ref (a + 3)), (5, .ref (a + 4)), (6, .ref (a + 5)), (7, .long (lN (hdK e (k + 1)))), (9, .ref (n)), (10, .int (nI (k))), (11, .int (nI (mS e k)))] → W p l en ({ frames := 5, cells := 9, slots := 68, locals := 106 } : Room) s m args below meth c H locs (0 + 1 + k + 1) (0 + 4 + 8 * k + 8) (MQ below (QcM (some (.int (bI (true)))) (fun H => (HrC D cs x ((dcK e (Mn e))) g e1 g1 nx cn se sg b nn wd ln pa ft H ∧ LwC D cs a e g H)) (fun y9 => (x ≤ y9 ∧ y9 < x + 360) ∨ n ≤ y9)) args s 9 68 ((fun y9 => (x ≤ y9 ∧ y9 < x + 360) ∨ n ≤ y9))) (F0 m 246 ls [.int (nI (hgN e k))]) := by
                          intro H locs ls hWhi hL hn9 hWro hM hM2 hWsx hWtb hWtn hWto hS hl
                          refine lv_istore (lv' := [(12, .int (nI (hgN e k))), (0, .ref (x)), (1, .ref (a)), (2, .ref (a + 1)), (3, .ref (a + 2)), (4, .ref (a + 3)), (5, .ref (a + 4)), (6, .ref (a + 5)), (7, .long (lN (hdK e (k + 1)))), (9, .ref (n)), (10, .int (nI (k))), (11, .int (nI (mS e k)))]) hx hb dL_same_246 hl (by decide) rfl (fun ls hl => ?_)
                          refine lv_iconst (v := nI 0) hx hb dL_same_248 (by decide) ?_
                          refine lv_istore (lv' := [(13, .int (nI (0))), (12, .int (nI (hgN e k))), (0, .ref (x)), (1, .ref (a)), (2, .ref (a + 1)), (3, .ref (a + 2)), (4, .ref (a + 3)), (5, .ref (a + 4)), (6, .ref (a + 5)), (7, .long (lN (hdK e (k + 1)))), (9, .ref (n)), (10, .int (nI (k))), (11, .int (nI (mS e k)))]) hx hb dL_same_249 hl (by decide) rfl (fun ls hl => ?_)
                          have J251 : ∀ (fu251 : Nat) (j : Nat) (H : Heap) (locs : List Loc) (ls : Array Slot), (hgN e k + 1 - j) < fu251 → (j ≤ hgN e k + 1) → (HiC D cs (x + 119) nx cn se sg H) → (LwC D cs a e g H) → (n ≤ H.size) → (va_at D vwCl (x, .inr (5, [.ref (x + 1), .ref (x + 60), .ref (x + 119), .ref (x + 357)])) H) → (StC D cs (x + 1) (dcK e (k + 1)) g H) → (StC D cs (x + 60) e1 g1 H) → (va_at D vwCl (n, .inl (cs 0, 4, .inl (smF e (k + 1)))) H) → (va_at D vwCl (x + 357 + 1, .inl (cs 1, 150, .inl b)) H) → (va_at D vwCl (x + 357 + 2, .inl (cs 0, 5, .inl nn)) H) → (va_at D vwCl (x + 357, .inr (0, [.ref (x + 357 + 1), .ref (x + 357 + 2), .ref (wd), .int (nI (ln)), .int (nI (pa)), .int (ft)])) H) → va_S ((fun y9 => (x ≤ y9 ∧ y9 < x + 360) ∨ n ≤ y9)) s.heap H locs → lv_has ls 14 [(0, .ref (x)), (1, .ref (a)), (2, .ref (a + 1)), (3, .ref (a + 2)), (4, .ref (a + 3)), (5, .ref (a + 4)), (6, .ref (a + 5)), (7, .long (lN (hdK e (k + 1)))), (9, .ref (n)), (10, .int (nI (k))), (11, .int (nI (mS e k))), (12, .int (nI (hgN e k))), (13, .int (nI (j)))] → W p l en ({ frames := 5, cells := 9, slots := 68, locals := 106 } : Room) s m args below meth c H locs (0 + 1 + k + 1) (0 + 4 + 8 * k + 8) (MQ below (QcM (some (.int (bI (true)))) (fun H => (HrC D cs x ((dcK e (Mn e))) g e1 g1 nx cn se sg b nn wd ln pa ft H ∧ LwC D cs a e g H)) (fun y9 => (x ≤ y9 ∧ y9 < x + 360) ∨ n ≤ y9)) args s 9 68 ((fun y9 => (x ≤ y9 ∧ y9 < x + 360) ∨ n ≤ y9))) (F0 m 251 ls []) := by
                            intro fu251; induction fu251 with
                            | zero => intro j H locs ls hmu251 hj hWhi hL hn9 hWro hM hM2 hWsx hWtb hWtn hWto hS hl; exact absurd hmu251 (Nat.not_lt_zero _)
                            | succ fu251 ih251 =>
                              intro j H locs ls hmu251 hj hWhi hL hn9 hWro hM hM2 hWsx hWtb hWtn hWto hS hl
                              have hhg := hg_16 hI hkM
                              refine lv_iload hx hb dL_same_251 (lv_at hl 12 rfl) ?_
                              refine lv_iload hx hb dL_same_253 (lv_at hl 11 rfl) ?_
                              refine kn_icmp_gt (tgt := 313) hx hb dL_same_255 (by decide) (by omega) (by omega) (fun c255 => ?_) (fun c255 => ?_)
                              · refine lv_iinc (v := nI (k + 1)) (lv' := [(10, .int (nI (k + 1))), (0, .ref (x)), (1, .ref (a)), (2, .ref (a + 1)), (3, .ref (a + 2)), (4, .ref (a + 3)), (5, .ref (a + 4)), (6, .ref (a + 5)), (7, .long (lN (hdK e (k + 1)))), (9, .ref (n)), (11, .int (nI (mS e k))), (12, .int (nI (hgN e k))), (13, .int (nI (j)))]) (k := 9) hx hb dL_same_313 hl rfl (nI_add _ _) (by decide) rfl (fun ls hl => ?_)
                                refine lv_goto (tgt := 11) hx hb dL_same_316 (by decide) ?_
                                refine kx_cnt (c' := 0 + 1 + (k + 1)) (s' := 0 + 4 + 8 * (k + 1)) (by omega) (by omega) ?_
                                exact ih11 (k + 1) _ _ _ (by omega) (by omega) hWhi hL hn9 hWro hM hM2 hWsx hWtb hWtn hWto hS (lv_sub hl [1, 2, 3, 4, 5, 6, 7, 8, 9, 0] rfl)
                              · refine lv_aload_n hx hb dL_same_258 rfl (lv_at hl 0 rfl) ?_
                                refine lv_iload hx hb dL_same_259 (lv_at hl 9 rfl) ?_
                                refine lv_iload hx hb dL_same_261 (lv_at hl 12 rfl) ?_
                                refine kx_retP (va_runV (As := [.int (nI (k)), .int (nI (j))]) (rest := []) ⟨hx, hb, hml, hown, hts⟩ (k_X7_hostage l D cs x (dcK e (k + 1)) g e1 g1 nx cn se sg b nn wd ln pa ft k j hIy1 (by omega) (by omega)) (cwV 2 hts gL_same_X7_hostage rfl rfl rfl (by decide +kernel) ⟨Nat.le_of_ble_eq_true rfl, Nat.le_of_ble_eq_true rfl⟩) (kx_preV hK hN hWro rfl ⟨hWro, hM, hM2, hWhi, hWto, hWtb, hWtn⟩) rfl rfl hl.1 rfl (lv_room (Nat.le_of_ble_eq_true rfl)) dL_same_263 ⟨by show 0 + 1 + k + 1 + 0 ≤ 9; omega, by show 0 + 4 + 8 * k + 8 + 0 ≤ 68; omega⟩) ?_
                                refine kx_ci (x := hxI (dcK e (k + 1)) k (nI j)) (y := hsI e k j) (hx_is hE1 hkM (by omega)) ?_
                                refine lv_iload hx hb dL_same_266 (lv_at hl 12 rfl) ?_
                                refine lv_iload hx hb dL_same_268 (lv_at hl 11 rfl) ?_
                                refine kn_icmp_ge (tgt := 299) hx hb dL_same_270 (by decide) (by omega) (by omega) (fun c270 => ?_) (fun c270 => ?_)
                                · refine lv_sipush (v := -1000) hx hb dL_same_299 (by decide) ?_
                                  refine lv_icmp_eq (tgt := 307) hx hb dL_same_302 (by decide) (fun c302 => ?_) (fun c302 => ?_)
                                  · refine lv_iinc (v := nI (j + 1)) (lv' := [(13, .int (nI (j + 1))), (0, .ref (x)), (1, .ref (a)), (2, .ref (a + 1)), (3, .ref (a + 2)), (4, .ref (a + 3)), (5, .ref (a + 4)), (6, .ref (a + 5)), (7, .long (lN (hdK e (k + 1)))), (9, .ref (n)), (10, .int (nI (k))), (11, .int (nI (mS e k))), (12, .int (nI (hgN e k)))]) (k := 12) hx hb dL_same_307 hl rfl (nI_add _ _) (by decide) rfl (fun ls hl => ?_)
                                    refine lv_goto (tgt := 251) hx hb dL_same_310 (by decide) ?_
                                    exact ih251 (j + 1) _ _ _ (by omega) (by omega) hWhi hL hn9 hWro hM hM2 hWsx hWtb hWtn hWto hS (lv_sub hl [1, 2, 3, 4, 5, 6, 7, 8, 9, 10, 11, 12, 0] rfl)
                                  · exact absurd (by unfold hsI; first | rw [if_pos (by omega)] | rw [if_neg (by omega)]) c302
                                · have hgl := hg_le hI hkM (show j < hgN e k by omega)
                                  refine lv_aload hx hb dL_same_273 (lv_at hl 5 rfl) ?_
                                  refine lv_bipush (v := nI 8) hx hb dL_same_275 (by decide) ?_
                                  refine lv_iload hx hb dL_same_277 (lv_at hl 9 rfl) ?_
                                  refine kn_mul hx hb dL_same_279 ?_
                                  refine lv_aload hx hb dL_same_280 (lv_at hl 4 rfl) ?_
                                  refine lv_bipush (v := nI 8) hx hb dL_same_282 (by decide) ?_
                                  refine lv_iload hx hb dL_same_284 (lv_at hl 9 rfl) ?_
                                  refine kn_mul hx hb dL_same_286 ?_
                                  refine lv_bipush (v := nI 6) hx hb dL_same_287 (by decide) ?_
                                  refine kn_add hx hb dL_same_289 ?_
                                  refine kx_iald (i := 8 * k + 6) hx hb hK hL.mv 0 rfl (by omega) (by decide) dL_same_290 ?_
                                  refine kx_ci (x := mvF e (8 * k + 6)) (y := nI (mW e k)) (Eq.trans (mvF_lo e k (p := 6) (by omega)) (Inv.m6 hI (by first | assumption | omega))) ?_
                                  refine kn_add hx hb dL_same_291 ?_
                                  refine lv_iload hx hb dL_same_292 (lv_at hl 12 rfl) ?_
                                  refine kn_add hx hb dL_same_294 ?_
                                  refine kx_iald (i := 8 * k + (mW e k) + j) hx hb hK hL.tk 0 rfl (by omega) (by decide) dL_same_295 ?_
                                  refine kx_ci (x := tkF e (8 * k + (mW e k) + j)) (y := e (320 + 16 * k + ((mW e k) + j))) (Eq.trans (congrArg (tkF e) (by omega)) (tkF_at e k (i := (mW e k) + j) (by omega))) ?_
                                  refine kx_ci (x := e (320 + 16 * k + ((mW e k) + j))) (y := e (320 + 16 * k + mW e k + j)) (congrArg e (by omega)) ?_
                                  refine lv_goto (tgt := 302) hx hb dL_same_296 (by decide) ?_
                                  refine lv_icmp_eq (tgt := 307) hx hb dL_same_302 (by decide) (fun c302 => ?_) (fun c302 => ?_)
                                  · refine lv_iinc (v := nI (j + 1)) (lv' := [(13, .int (nI (j + 1))), (0, .ref (x)), (1, .ref (a)), (2, .ref (a + 1)), (3, .ref (a + 2)), (4, .ref (a + 3)), (5, .ref (a + 4)), (6, .ref (a + 5)), (7, .long (lN (hdK e (k + 1)))), (9, .ref (n)), (10, .int (nI (k))), (11, .int (nI (mS e k))), (12, .int (nI (hgN e k)))]) (k := 12) hx hb dL_same_307 hl rfl (nI_add _ _) (by decide) rfl (fun ls hl => ?_)
                                    refine lv_goto (tgt := 251) hx hb dL_same_310 (by decide) ?_
                                    exact ih251 (j + 1) _ _ _ (by omega) (by omega) hWhi hL hn9 hWro hM hM2 hWsx hWtb hWtn hWto hS (lv_sub hl [1, 2, 3, 4, 5, 6, 7, 8, 9, 10, 11, 12, 0] rfl)
                                  · exact absurd (by unfold hsI; first | rw [if_pos (by omega)] | rw [if_neg (by omega)]) c302
                          exact J251 _ 0 _ _ _ (Nat.lt_succ_self _) (by omega) hWhi hL hn9 hWro hM hM2 hWsx hWtb hWtn hWto hS (lv_sub hl [2, 3, 4, 5, 6, 7, 8, 9, 10, 11, 12, 1, 0] rfl)
                        refine lv_iload hx hb dL_same_214 (lv_at hl 10 rfl) ?_
                        refine lv_iconst (v := nI 1) hx hb dL_same_216 (by decide) ?_
                        refine kn_icmp_ne (tgt := 245) hx hb dL_same_217 (by decide) (by omega) (by decide) (fun c_4 => ?_) (fun c_4 => ?_)
                        · refine lv_iconst (v := nI 0) hx hb dL_same_245 (by decide) ?_
                          refine kx_ci (x := nI (0)) (y := nI (hgN e k)) (congrArg nI (by unfold hgN; first | rw [if_pos (by omega)] | rw [if_neg (by omega)])) ?_
                          exact J246 _ _ _ hWhi hL hn9 hWro hM hM2 hWsx hWtb hWtn hWto hS (lv_sub hl [0, 1, 2, 3, 4, 5, 6, 7, 8, 9, 10] rfl)
                        · refine lv_aload hx hb dL_same_220 (lv_at hl 4 rfl) ?_
                          refine lv_bipush (v := nI 8) hx hb dL_same_222 (by decide) ?_
                          refine lv_iload hx hb dL_same_224 (lv_at hl 9 rfl) ?_
                          refine kn_mul hx hb dL_same_226 ?_
                          refine lv_iconst (v := nI 4) hx hb dL_same_227 (by decide) ?_
                          refine kn_add hx hb dL_same_228 ?_
                          refine kx_iald (i := 8 * k + 4) hx hb hK hL.mv 0 rfl (by omega) (by decide) dL_same_229 ?_
                          refine kx_ci (x := mvF e (8 * k + 4)) (y := nI (mC e k)) (Eq.trans (mvF_lo e k (p := 4) (by omega)) (Inv.m4 hI (by first | assumption | omega))) ?_
                          refine lv_aload hx hb dL_same_230 (lv_at hl 4 rfl) ?_
                          refine lv_bipush (v := nI 8) hx hb dL_same_232 (by decide) ?_
                          refine lv_iload hx hb dL_same_234 (lv_at hl 9 rfl) ?_
                          refine kn_mul hx hb dL_same_236 ?_
                          refine lv_bipush (v := nI 6) hx hb dL_same_237 (by decide) ?_
                          refine kn_add hx hb dL_same_239 ?_
                          refine kx_iald (i := 8 * k + 6) hx hb hK hL.mv 0 rfl (by omega) (by decide) dL_same_240 ?_
                          refine kx_ci (x := mvF e (8 * k + 6)) (y := nI (mW e k)) (Eq.trans (mvF_lo e k (p := 6) (by omega)) (Inv.m6 hI (by first | assumption | omega))) ?_
                          refine kn_sub hx hb hwc dL_same_241 ?_
                          refine lv_goto (tgt := 246) hx hb dL_same_242 (by decide) ?_
                          refine kx_ci (x := nI (mC e k - (mW e k))) (y := nI (hgN e k)) (congrArg nI (by unfold hgN; first | rw [if_pos (by omega)] | rw [if_neg (by omega)])) ?_
                          exact J246 _ _ _ hWhi hL hn9 hWro hM hM2 hWsx hWtb hWtn hWto hS (lv_sub hl [0, 1, 2, 3, 4, 5, 6, 7, 8, 9, 10] rfl)
                      refine lv_aload_n hx hb dL_same_178 rfl (lv_at hl 1 rfl) ?_
                      refine lv_iload hx hb dL_same_179 (lv_at hl 9 rfl) ?_
                      refine lv_bipush (v := nI 8) hx hb dL_same_181 (by decide) ?_
                      refine kx_retP (va_runV (As := [.int (nI (k)), .int (nI (8))]) (rest := []) ⟨hx, hb, hml, hown, hts⟩ (k_X7_moveOf l D cs x (dcK e (k + 1)) g e1 g1 nx cn se sg b nn wd ln pa ft k 8 hIy1 (by omega) (by decide)) (cwV 2 hts gL_same_X7_moveOf rfl rfl rfl (by decide +kernel) ⟨Nat.le_of_ble_eq_true rfl, Nat.le_of_ble_eq_true rfl⟩) (kx_preV hK hN hWro rfl ⟨hWro, hM, hM2, hWhi, hWto, hWtb, hWtn⟩) rfl rfl hl.1 rfl (lv_room (Nat.le_of_ble_eq_true rfl)) dL_same_183 ⟨by show 0 + 1 + k + 1 + 0 ≤ 9; omega, by show 0 + 4 + 8 * k + 8 + 0 ≤ 68; omega⟩) ?_
                      refine kx_ci (x := (dcK e (k + 1)) (80 + 10 * k + 8)) (y := e (80 + 10 * k + 8)) (dcK_lo e (k + 1) (by omega)) ?_
                      refine lv_iload hx hb dL_same_186 (lv_at hl 10 rfl) ?_
                      refine lv_iconst (v := nI 2) hx hb dL_same_188 (by decide) ?_
                      refine kn_icmp_ge (tgt := 198) hx hb dL_same_189 (by decide) (by omega) (by decide) (fun c_5 => ?_) (fun c_5 => ?_)
                      · refine lv_aload hx hb dL_same_198 (lv_at hl 5 rfl) ?_
                        refine lv_bipush (v := nI 8) hx hb dL_same_200 (by decide) ?_
                        refine lv_iload hx hb dL_same_202 (lv_at hl 9 rfl) ?_
                        refine kn_mul hx hb dL_same_204 ?_
                        refine lv_bipush (v := nI 7) hx hb dL_same_205 (by decide) ?_
                        refine kn_add hx hb dL_same_207 ?_
                        refine kx_iald (i := 8 * k + 7) hx hb hK hL.mv 0 rfl (by omega) (by decide) dL_same_208 ?_
                        refine kx_ci (x := mvF e (8 * k + 7)) (y := e (80 + 10 * k + 8)) (mvF_t e k (hB.ye hkM (by omega))) ?_
                        refine lv_icmp_eq (tgt := 214) hx hb dL_same_209 (by decide) (fun c209 => ?_) (fun c209 => ?_)
                        · exact J214 _ _ _ hWhi hL hn9 hWro hM hM2 hWsx hWtb hWtn hWto hS (lv_sub hl [1, 2, 3, 4, 5, 6, 7, 0, 8, 9, 10] rfl)
                        · exact absurd (by first | rfl | exact hno9) c209
                      · have hno9 := hB.no hkM (by omega)
                        refine lv_sipush (v := -1000) hx hb dL_same_192 (by decide) ?_
                        refine lv_goto (tgt := 209) hx hb dL_same_195 (by decide) ?_
                        refine lv_icmp_eq (tgt := 214) hx hb dL_same_209 (by decide) (fun c209 => ?_) (fun c209 => ?_)
                        · exact J214 _ _ _ hWhi hL hn9 hWro hM hM2 hWsx hWtb hWtn hWto hS (lv_sub hl [1, 2, 3, 4, 5, 6, 7, 0, 8, 9, 10] rfl)
                        · exact absurd (by first | rfl | exact hno9) c209
                    · exact absurd rfl c173
        refine lv_lload hx hb dL_same_31 (lv_at hl 8 rfl) ?_
        refine lv_iload hx hb dL_same_33 (lv_at hl 0 rfl) ?_
        refine lv_iconst (v := nI 1) hx hb dL_same_35 (by decide) ?_
        refine kn_icmp_eq (tgt := 45) hx hb dL_same_36 (by decide) (by omega) (by decide) (fun c_6 => ?_) (fun c_6 => ?_)
        · refine lv_aload hx hb dL_same_45 (lv_at hl 7 rfl) ?_
          refine lv_iconst (v := nI 2) hx hb dL_same_47 (by decide) ?_
          refine lv_iload hx hb dL_same_48 (lv_at hl 10 rfl) ?_
          refine kn_mul hx hb dL_same_50 ?_
          refine kx_lald (i := 2 * k) hx hb hK hL.ce 5 rfl (by omega) (by decide) dL_same_51 ?_
          refine kx_cl (x := g (2 * k)) (y := lN (csN e false k)) (hG k hkM).1 ?_
          refine lv_goto (tgt := 56) hx hb dL_same_52 (by decide) ?_
          refine kl_or hx hb dL_same_56 ?_
          refine kx_cl (x := lN ((hdK e k) ||| (csN e false k))) (y := lN (hdK e (k + 1))) (congrArg lN (by simp [hdK_s, hpB, *])) ?_
          exact J57 _ _ _ hWhi hL hn9 hWro hM hM2 hWsx hWtb hWtn hWto hS (lv_sub hl [1, 2, 3, 4, 5, 6, 7, 8, 9, 10, 0] rfl)
        · refine lv_iload hx hb dL_same_39 (lv_at hl 0 rfl) ?_
          refine lv_iconst (v := nI 2) hx hb dL_same_41 (by decide) ?_
          refine kn_icmp_ne (tgt := 55) hx hb dL_same_42 (by decide) (by omega) (by decide) (fun c_7 => ?_) (fun c_7 => ?_)
          · refine lv_lconst (v := lN 0) hx hb dL_same_55 rfl ?_
            refine kl_or hx hb dL_same_56 ?_
            refine kx_cl (x := lN ((hdK e k) ||| 0)) (y := lN (hdK e (k + 1))) (congrArg lN (by simp [hdK_s, hpB, *])) ?_
            exact J57 _ _ _ hWhi hL hn9 hWro hM hM2 hWsx hWtb hWtn hWto hS (lv_sub hl [1, 2, 3, 4, 5, 6, 7, 8, 9, 10, 0] rfl)
          · refine lv_aload hx hb dL_same_45 (lv_at hl 7 rfl) ?_
            refine lv_iconst (v := nI 2) hx hb dL_same_47 (by decide) ?_
            refine lv_iload hx hb dL_same_48 (lv_at hl 10 rfl) ?_
            refine kn_mul hx hb dL_same_50 ?_
            refine kx_lald (i := 2 * k) hx hb hK hL.ce 5 rfl (by omega) (by decide) dL_same_51 ?_
            refine kx_cl (x := g (2 * k)) (y := lN (csN e false k)) (hG k hkM).1 ?_
            refine lv_goto (tgt := 56) hx hb dL_same_52 (by decide) ?_
            refine kl_or hx hb dL_same_56 ?_
            refine kx_cl (x := lN ((hdK e k) ||| (csN e false k))) (y := lN (hdK e (k + 1))) (congrArg lN (by simp [hdK_s, hpB, *])) ?_
            exact J57 _ _ _ hWhi hL hn9 hWro hM hM2 hWsx hWtb hWtn hWto hS (lv_sub hl [1, 2, 3, 4, 5, 6, 7, 8, 9, 10, 0] rfl)
  have hl : lv_has ls 14 [(10, .int (nI (0))), (9, .ref (n)), (7, .long (lN (hdK e 0))), (0, .ref (x)), (1, .ref (a)), (2, .ref (a + 1)), (3, .ref (a + 2)), (4, .ref (a + 3)), (5, .ref (a + 4)), (6, .ref (a + 5))] := by rw [show (hdK e 0) = (0) from rfl]; exact hl
  exact J11 _ 0 _ _ _ (Nat.lt_succ_self _) (by omega) hWhi hL hn9 hWro (by rw [dcK_0]; exact hM) hM2 (by rw [sm_0]; exact hWsx) hWtb hWtn hWto hS (lv_sub hl [3, 4, 5, 6, 7, 8, 9, 2, 1, 0] rfl)
