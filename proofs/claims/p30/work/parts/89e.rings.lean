/-! the law's rings, from its arrays to its turns -/
set_option maxHeartbeats 2500000 in
set_option maxRecDepth 100000 in
theorem cs_rings {p : Program} {l : Launch} {en : Env} {s : State} {m : MethodId} {below : List Frame} {meth : Method} {c : Code} {D : va_G} {cs : Nat → ClassId} {x bs N : Nat} {xs : Nat → Int32} {Q : State → Prop} (G : LwG p l s m c D cs x bs N xs) {b nn : Nat → Int32} {wd : Nat} {H : Heap} {locs : List Loc} {cells slots : Nat} (hr1 : cells + 20 ≤ 600086) (hr2 : slots + 200 ≤ 7301441) (hHr : HrC D cs x e0F g0F e0F g0F 0 0 (fun _ => e0F) (fun _ => g0F) b nn wd 0 0 (-1) H) (hL : LwC D cs (x + 360) zr g0F H) (hS : va_S (fun y9 : Nat => x ≤ y9) s.heap H locs) {ls : Array Slot} (hl : lv_has ls 16 [(0, .ref (bs)), (1, .ref (x)), (2, .ref (x + 360)), (3, .ref (x + 360 + 1)), (4, .ref (x + 360 + 2)), (5, .ref (x + 360 + 3)), (6, .ref (x + 360 + 4)), (7, .ref (x + 360 + 5))])
  (K : ∀ (H : Heap) (locs : List Loc) (ls : Array Slot), LwD D cs x 0 H → va_S (fun y9 : Nat => x ≤ y9) s.heap H locs → lv_has ls 16 [(0, .ref (bs)), (1, .ref (x)), (2, .ref (x + 360)), (3, .ref (x + 360 + 1)), (4, .ref (x + 360 + 2)), (5, .ref (x + 360 + 3)), (6, .ref (x + 360 + 4)), (7, .ref (x + 360 + 5)), (8, .int (nI (0)))] → W p l en room_1 s m #[Value.ref bs] below meth c H locs cells slots Q (F0 m 292 ls [])) :
  W p l en room_1 s m #[Value.ref bs] below meth c H locs cells slots Q (F0 m 41 ls []) := by
  obtain ⟨hx, hb, hml, hown, hts, hK, hN, hXK0, hXN, hXs, hbl, hxs, hN9, hfl⟩ := id G
  obtain ⟨hWro, hM, hM2, hWhi, hWto, hWtb, hWtn⟩ := hHr
  have hbA : ¬ x ≤ bs := by omega
  refine lv_aload_n hx hb dL_law_41 rfl (lv_at hl 2 rfl) ?_
  refine lv_iconst (v := nI 2) hx hb dL_law_42 (by decide) ?_
  refine lv_iconst (v := nI 1) hx hb dL_law_43 (by decide) ?_
  refine lv_aload_n hx hb dL_law_44 rfl (lv_at hl 0 rfl) ?_
  refine lv_iconst (v := nI 0) hx hb dL_law_45 (by decide) ?_
  have hXs9 : va_X bs N xs s H := hXs.kept (hS.2.1 bs hbl hbA)
  have hbl9 : bs < H.size := Nat.lt_of_lt_of_le hbl hS.1
  refine kx_retP (va_runS (As := [.ref (bs), .int (nI (0))]) (rest := [.int (nI (1)), .int (nI (2)), .ref (x + 360)]) ⟨hx, hb, hml, hown, hts⟩ (k_L_cell l D cs bs N xs (0) (by omega) hN9) (cwS 2 hts gL_law_L_cell rfl rfl rfl (by decide +kernel) ⟨Nat.le_of_ble_eq_true rfl, Nat.le_of_ble_eq_true rfl⟩) (kx_preSC hK hN hXs9 hbl9) rfl rfl hl.1 rfl (lv_room (Nat.le_of_ble_eq_true rfl)) dL_law_46 ⟨by show cells + 0 ≤ 600086; omega, by show slots + 0 ≤ 7301441; omega⟩) ?_
  refine lv_iconst (v := nI 4) hx hb dL_law_49 (by decide) ?_
  refine kx_retP (va_runS (As := [.int (cvI xs N (0)), .int (nI (4))]) (rest := [.int (nI (1)), .int (nI (2)), .ref (x + 360)]) ⟨hx, hb, hml, hown, hts⟩ (k_L_low l D cs (cvI xs N (0)) 4 (by decide) (by decide)) (cwS 2 hts gL_law_L_low rfl rfl rfl (by decide +kernel) ⟨Nat.le_of_ble_eq_true rfl, Nat.le_of_ble_eq_true rfl⟩) (kx_preS hK hN trivial) rfl rfl hl.1 rfl (lv_room (Nat.le_of_ble_eq_true rfl)) dL_law_50 ⟨by show cells + 0 ≤ 600086; omega, by show slots + 0 ≤ 7301441; omega⟩) ?_
  obtain ⟨s0, hs09⟩ : ∃ s0, lowN (cvI xs N (0)) 4 = s0 := ⟨_, rfl⟩
  have hs0 : s0 < 4 := hs09 ▸ lowN_lt _ (by decide)
  rw [hs09]
  refine kn_add hx hb dL_law_53 ?_
  refine kx_iast (i := 2) hx hb hK hL.q hS (show x ≤ _ by omega) 0 rfl (by omega) (by decide) dL_law_54 (fun H locs hc hU hS => ?_)
  have hL := hL.put_q (k := 1) (by decide) hc hU
  have hWhi := hWhi.off hU (by omega)
  have hWro := hWro.kept (hU.2 _ (by omega))
  have hM := hM.off hU (by omega)
  have hM2 := hM2.off hU (by omega)
  have hWtb := hWtb.kept (hU.2 _ (by omega))
  have hWtn := hWtn.kept (hU.2 _ (by omega))
  have hWto := hWto.kept (hU.2 _ (by omega))
  clear hc hU
  have hL : LwC D cs (x + 360) (upd zr 1 (nI (1 + s0))) g0F H := hL
  refine lv_aload_n hx hb dL_law_55 rfl (lv_at hl 2 rfl) ?_
  refine lv_iconst (v := nI 3) hx hb dL_law_56 (by decide) ?_
  refine lv_iconst (v := nI 1) hx hb dL_law_57 (by decide) ?_
  refine lv_aload_n hx hb dL_law_58 rfl (lv_at hl 0 rfl) ?_
  refine lv_iconst (v := nI 0) hx hb dL_law_59 (by decide) ?_
  have hXs9 : va_X bs N xs s H := hXs.kept (hS.2.1 bs hbl hbA)
  have hbl9 : bs < H.size := Nat.lt_of_lt_of_le hbl hS.1
  refine kx_retP (va_runS (As := [.ref (bs), .int (nI (0))]) (rest := [.int (nI (1)), .int (nI (3)), .ref (x + 360)]) ⟨hx, hb, hml, hown, hts⟩ (k_L_cell l D cs bs N xs (0) (by omega) hN9) (cwS 2 hts gL_law_L_cell rfl rfl rfl (by decide +kernel) ⟨Nat.le_of_ble_eq_true rfl, Nat.le_of_ble_eq_true rfl⟩) (kx_preSC hK hN hXs9 hbl9) rfl rfl hl.1 rfl (lv_room (Nat.le_of_ble_eq_true rfl)) dL_law_60 ⟨by show cells + 0 ≤ 600086; omega, by show slots + 0 ≤ 7301441; omega⟩) ?_
  refine lv_iconst (v := nI 3) hx hb dL_law_63 (by decide) ?_
  refine lv_ishr hx hb dL_law_64 ?_
  refine lv_iconst (v := nI 3) hx hb dL_law_65 (by decide) ?_
  refine kx_retP (va_runS (As := [.int ((cvI xs N (0)) >>> ((nI (3)) &&& 31)), .int (nI (3))]) (rest := [.int (nI (1)), .int (nI (3)), .ref (x + 360)]) ⟨hx, hb, hml, hown, hts⟩ (k_L_low l D cs ((cvI xs N (0)) >>> ((nI (3)) &&& 31)) 3 (by decide) (by decide)) (cwS 2 hts gL_law_L_low rfl rfl rfl (by decide +kernel) ⟨Nat.le_of_ble_eq_true rfl, Nat.le_of_ble_eq_true rfl⟩) (kx_preS hK hN trivial) rfl rfl hl.1 rfl (lv_room (Nat.le_of_ble_eq_true rfl)) dL_law_66 ⟨by show cells + 0 ≤ 600086; omega, by show slots + 0 ≤ 7301441; omega⟩) ?_
  obtain ⟨l0, hl09⟩ : ∃ l0, lowN ((cvI xs N (0)) >>> ((nI (3)) &&& 31)) 3 = l0 := ⟨_, rfl⟩
  have hl0 : l0 < 3 := hl09 ▸ lowN_lt _ (by decide)
  rw [hl09]
  refine kn_add hx hb dL_law_69 ?_
  refine kx_iast (i := 3) hx hb hK hL.q hS (show x ≤ _ by omega) 0 rfl (by omega) (by decide) dL_law_70 (fun H locs hc hU hS => ?_)
  have hL := hL.put_q (k := 2) (by decide) hc hU
  have hWhi := hWhi.off hU (by omega)
  have hWro := hWro.kept (hU.2 _ (by omega))
  have hM := hM.off hU (by omega)
  have hM2 := hM2.off hU (by omega)
  have hWtb := hWtb.kept (hU.2 _ (by omega))
  have hWtn := hWtn.kept (hU.2 _ (by omega))
  have hWto := hWto.kept (hU.2 _ (by omega))
  clear hc hU
  have hL : LwC D cs (x + 360) (upd (upd zr 1 (nI (1 + s0))) 2 (nI (1 + l0))) g0F H := hL
  refine lv_aload_n hx hb dL_law_71 rfl (lv_at hl 1 rfl) ?_
  refine lv_iconst (v := nI 0) hx hb dL_law_72 (by decide) ?_
  refine lv_aload_n hx hb dL_law_73 rfl (lv_at hl 2 rfl) ?_
  refine lv_iconst (v := nI 2) hx hb dL_law_74 (by decide) ?_
  refine kx_iald (i := 2) hx hb hK hL.q 0 rfl (by omega) (by decide) dL_law_75 ?_
  refine kx_ci (x := qF (upd (upd zr 1 (nI (1 + s0))) 2 (nI (1 + l0))) 2) (y := nI (1 + s0)) (Eq.trans (show qF (upd (upd zr 1 (nI (1 + s0))) 2 (nI (1 + l0))) 2 = (upd (upd zr 1 (nI (1 + s0))) 2 (nI (1 + l0))) 1 from rfl) (by rw [upd_ne (by omega), upd_at, if_pos (by omega)])) ?_
  refine kx_retM (va_runV (As := [.int (nI (0)), .int (nI (1 + s0))]) (rest := []) ⟨hx, hb, hml, hown, hts⟩ (k_X7_set l D cs x e0F g0F e0F g0F 0 0 ((fun _ => e0F)) ((fun _ => g0F)) b nn wd 0 0 ((-1)) 0 (nI (1 + s0)) e0F_inv (by decide) (by decide) (sets_1 (by omega) (by omega)) (by decide)) (cwV 2 hts gL_law_X7_set rfl rfl rfl (by decide +kernel) ⟨Nat.le_of_ble_eq_true rfl, Nat.le_of_ble_eq_true rfl⟩) (kx_preV hK hN hWro rfl ⟨hWro, hM, hM2, hWhi, hWto, hWtb, hWtn⟩) rfl rfl hl.1 rfl (lv_room (Nat.le_of_ble_eq_true rfl)) dL_law_76 ⟨by show cells + 0 ≤ 600086; omega, by show slots + 0 ≤ 7301441; omega⟩) hS (fun y9 _ h => h.1) (fun y9 h => h.1) (fun H locs hMN hk hS => ?_)
  have hL := hL.frame hk (fun x h1 h2 h => by first | (have h3 := h.1; have h4 := h.2; omega) | (rcases h with h | h <;> first | (have h3 := h.1; have h4 := h.2; omega) | (have h3 : _ ≤ x := h; omega)) | (have h3 : _ ≤ x := h; omega))
  obtain ⟨hWro, hM, hM2, hWhi, hWto, hWtb, hWtn⟩ := hMN
  clear hk
  refine kx_ci (x := e0F (1 + 0)) (y := nI (2)) rfl ?_
  refine lv_iconst (v := nI 2) hx hb dL_law_79 (by decide) ?_
  refine kn_icmp_ne (tgt := 95) hx hb dL_law_80 (by decide) (by decide) (by decide) (fun c80 => ?_) (fun c80 => ?_)
  · exact absurd rfl c80
  · refine lv_aload_n hx hb dL_law_83 rfl (lv_at hl 1 rfl) ?_
    refine lv_iconst (v := nI 1) hx hb dL_law_84 (by decide) ?_
    refine lv_aload_n hx hb dL_law_85 rfl (lv_at hl 2 rfl) ?_
    refine lv_iconst (v := nI 3) hx hb dL_law_86 (by decide) ?_
    refine kx_iald (i := 3) hx hb hK hL.q 0 rfl (by omega) (by decide) dL_law_87 ?_
    refine kx_ci (x := qF (upd (upd zr 1 (nI (1 + s0))) 2 (nI (1 + l0))) 3) (y := nI (1 + l0)) (Eq.trans (show qF (upd (upd zr 1 (nI (1 + s0))) 2 (nI (1 + l0))) 3 = (upd (upd zr 1 (nI (1 + s0))) 2 (nI (1 + l0))) 2 from rfl) (by rw [upd_at, if_pos (by omega)])) ?_
    refine kx_retM (va_runV (As := [.int (nI (1)), .int (nI (1 + l0))]) (rest := []) ⟨hx, hb, hml, hown, hts⟩ (k_X7_set l D cs x ((upd e0F (1 + 0) (nI (1 + s0)))) g0F e0F g0F (((0 + 1) % 4)) ((min (0 + 1) 4)) ((hsE ((fun _ => e0F)) 0 (cfF (((fun _ => e0F)) 0) e0F))) ((hsG ((fun _ => g0F)) 0 (cgM (((fun _ => g0F)) 0) g0F (Mn e0F)))) b nn wd 0 0 (((-1))) 1 (nI (1 + l0)) (ini_1 (by omega) (by omega)) (by decide) (by decide) (sets_2 (by omega) (by omega)) (by decide)) (cwV 2 hts gL_law_X7_set rfl rfl rfl (by decide +kernel) ⟨Nat.le_of_ble_eq_true rfl, Nat.le_of_ble_eq_true rfl⟩) (kx_preV hK hN hWro rfl ⟨hWro, hM, hM2, hWhi, hWto, hWtb, hWtn⟩) rfl rfl hl.1 rfl (lv_room (Nat.le_of_ble_eq_true rfl)) dL_law_88 ⟨by show cells + 0 ≤ 600086; omega, by show slots + 0 ≤ 7301441; omega⟩) hS (fun y9 _ h => h.1) (fun y9 h => h.1) (fun H locs hMN hk hS => ?_)
    have hL := hL.frame hk (fun x h1 h2 h => by first | (have h3 := h.1; have h4 := h.2; omega) | (rcases h with h | h <;> first | (have h3 := h.1; have h4 := h.2; omega) | (have h3 : _ ≤ x := h; omega)) | (have h3 : _ ≤ x := h; omega))
    obtain ⟨hWro, hM, hM2, hWhi, hWto, hWtb, hWtn⟩ := hMN
    clear hk
    refine kx_ci (x := ((upd e0F (1 + 0) (nI (1 + s0)))) (1 + 1)) (y := nI (2)) ((upd_ne (by omega)).trans rfl) ?_
    refine lv_iconst (v := nI 2) hx hb dL_law_91 (by decide) ?_
    refine kn_icmp_eq (tgt := 97) hx hb dL_law_92 (by decide) (by decide) (by decide) (fun c92 => ?_) (fun c92 => ?_)
    · refine lv_iconst (v := nI 0) hx hb dL_law_97 (by decide) ?_
      refine lv_istore (lv' := [(8, .int (nI (0))), (0, .ref (bs)), (1, .ref (x)), (2, .ref (x + 360)), (3, .ref (x + 360 + 1)), (4, .ref (x + 360 + 2)), (5, .ref (x + 360 + 3)), (6, .ref (x + 360 + 4)), (7, .ref (x + 360 + 5))]) hx hb dL_law_98 hl (by decide) rfl (fun ls hl => ?_)
      have J100 : ∀ (fu100 : Nat) (r : Nat) (e : Nat → Int32) (nx : Nat) (cn : Nat) (se : Nat → Nat → Int32) (sg : Nat → Nat → Int64) (H : Heap) (locs : List Loc) (ls : Array Slot), (3 - r) < fu100 → (r ≤ 3) → (RB r e) → (nx < 4) → (cn ≤ 4) → (HiC D cs (x + 119) nx cn se sg H) → (LwC D cs (x + 360) e g0F H) → (va_at D vwCl (x, .inr (5, [.ref (x + 1), .ref (x + 60), .ref (x + 119), .ref (x + 357)])) H) → (StC D cs (x + 1) e g0F H) → (StC D cs (x + 60) e0F g0F H) → (va_at D vwCl (x + 357 + 1, .inl (cs 1, 150, .inl b)) H) → (va_at D vwCl (x + 357 + 2, .inl (cs 0, 5, .inl nn)) H) → (va_at D vwCl (x + 357, .inr (0, [.ref (x + 357 + 1), .ref (x + 357 + 2), .ref (wd), .int (nI (0)), .int (nI (0)), .int ((((-1))))])) H) → va_S ((fun y9 : Nat => x ≤ y9)) s.heap H locs → lv_has ls 16 [(0, .ref (bs)), (1, .ref (x)), (2, .ref (x + 360)), (3, .ref (x + 360 + 1)), (4, .ref (x + 360 + 2)), (5, .ref (x + 360 + 3)), (6, .ref (x + 360 + 4)), (7, .ref (x + 360 + 5)), (8, .int (nI (r)))] → W p l en room_1 s m #[Value.ref bs] below meth c H locs cells slots Q (F0 m 100 ls []) := by
        intro fu100; induction fu100 with
        | zero => intro r e nx cn se sg H locs ls hmu100 hr9 hRB hnx hcn hWhi hL hWro hM hM2 hWtb hWtn hWto hS hl; exact absurd hmu100 (Nat.not_lt_zero _)
        | succ fu100 ih100 =>
          intro r e nx cn se sg H locs ls hmu100 hr9 hRB hnx hcn hWhi hL hWro hM hM2 hWtb hWtn hWto hS hl
          obtain ⟨hI, hRn, hMn, he0, -⟩ := id hRB
          refine lv_iload hx hb dL_law_100 (lv_at hl 8 rfl) ?_
          refine lv_iconst (v := nI 3) hx hb dL_law_102 (by decide) ?_
          refine kn_icmp_ge (tgt := 289) hx hb dL_law_103 (by decide) (by omega) (by decide) (fun c_1 => ?_) (fun c_1 => ?_)
          · refine lv_iconst (v := nI 0) hx hb dL_law_289 (by decide) ?_
            refine lv_istore (lv' := [(8, .int (nI (0))), (0, .ref (bs)), (1, .ref (x)), (2, .ref (x + 360)), (3, .ref (x + 360 + 1)), (4, .ref (x + 360 + 2)), (5, .ref (x + 360 + 3)), (6, .ref (x + 360 + 4)), (7, .ref (x + 360 + 5))]) hx hb dL_law_290 hl (by decide) rfl (fun ls hl => ?_)
            have hr3 : r = 3 := by omega
            have hRB3 : RB 3 e := hr3 ▸ hRB
            exact K _ _ _ ⟨_, _, _, _, _, _, _, _, _, _, _, _, _, _, ⟨hWro, hM, hM2, hWhi, hWto, hWtb, hWtn⟩, hL, hI, hRB3.msk _, hRB3.lb, he0, hnx, hcn⟩ hS (lv_sub hl [1, 2, 3, 4, 5, 6, 7, 8, 0] rfl)
          · refine lv_aload_n hx hb dL_law_106 rfl (lv_at hl 0 rfl) ?_
            refine lv_iconst (v := nI 1) hx hb dL_law_107 (by decide) ?_
            refine lv_iload hx hb dL_law_108 (lv_at hl 8 rfl) ?_
            refine kn_add hx hb dL_law_110 ?_
            have hXs9 : va_X bs N xs s H := hXs.kept (hS.2.1 bs hbl hbA)
            have hbl9 : bs < H.size := Nat.lt_of_lt_of_le hbl hS.1
            refine kx_retP (va_runS (As := [.ref (bs), .int (nI (1 + r))]) (rest := []) ⟨hx, hb, hml, hown, hts⟩ (k_L_cell l D cs bs N xs (1 + r) (by omega) hN9) (cwS 2 hts gL_law_L_cell rfl rfl rfl (by decide +kernel) ⟨Nat.le_of_ble_eq_true rfl, Nat.le_of_ble_eq_true rfl⟩) (kx_preSC hK hN hXs9 hbl9) rfl rfl hl.1 rfl (lv_room (Nat.le_of_ble_eq_true rfl)) dL_law_111 ⟨by show cells + 0 ≤ 600086; omega, by show slots + 0 ≤ 7301441; omega⟩) ?_
            refine lv_istore (lv' := [(9, .int (cvI xs N (1 + r))), (0, .ref (bs)), (1, .ref (x)), (2, .ref (x + 360)), (3, .ref (x + 360 + 1)), (4, .ref (x + 360 + 2)), (5, .ref (x + 360 + 3)), (6, .ref (x + 360 + 4)), (7, .ref (x + 360 + 5)), (8, .int (nI (r)))]) hx hb dL_law_114 hl (by decide) rfl (fun ls hl => ?_)
            refine lv_aload hx hb dL_law_116 (lv_at hl 5 rfl) ?_
            refine lv_iconst (v := nI 4) hx hb dL_law_118 (by decide) ?_
            refine lv_iload hx hb dL_law_119 (lv_at hl 9 rfl) ?_
            refine kn_mul hx hb dL_law_121 ?_
            refine lv_bipush (v := nI 16) hx hb dL_law_122 (by decide) ?_
            refine lv_iload hx hb dL_law_124 (lv_at hl 9 rfl) ?_
            refine kn_mul hx hb dL_law_126 ?_
            refine lv_iload hx hb dL_law_127 (lv_at hl 0 rfl) ?_
            refine lv_iconst (v := nI 5) hx hb dL_law_129 (by decide) ?_
            refine kx_retP (va_runS (As := [.int (cvI xs N (1 + r)), .int (nI (5))]) (rest := [.int (nI (16 * r)), .int (nI (4 * r)), .ref (x + 360 + 2)]) ⟨hx, hb, hml, hown, hts⟩ (k_L_low l D cs (cvI xs N (1 + r)) 5 (by decide) (by decide)) (cwS 2 hts gL_law_L_low rfl rfl rfl (by decide +kernel) ⟨Nat.le_of_ble_eq_true rfl, Nat.le_of_ble_eq_true rfl⟩) (kx_preS hK hN trivial) rfl rfl hl.1 rfl (lv_room (Nat.le_of_ble_eq_true rfl)) dL_law_130 ⟨by show cells + 0 ≤ 600086; omega, by show slots + 0 ≤ 7301441; omega⟩) ?_
            obtain ⟨o9, ho99⟩ : ∃ o9, lowN (cvI xs N (1 + r)) 5 = o9 := ⟨_, rfl⟩
            have ho9 : o9 < 5 := ho99 ▸ lowN_lt _ (by decide)
            rw [ho99]
            refine kn_add hx hb dL_law_133 ?_
            refine kx_iast (i := 4 * r) hx hb hK hL.rg hS (show x ≤ _ by omega) 0 rfl (by omega) (by decide) dL_law_134 (fun H locs hc hU hS => ?_)
            have hL := hL.put_rg (i := 4 * r) (by omega) hc hU
            have hWhi := hWhi.off hU (by omega)
            have hWro := hWro.kept (hU.2 _ (by omega))
            have hM := hM.off hU (by omega)
            have hM2 := hM2.off hU (by omega)
            have hWtb := hWtb.kept (hU.2 _ (by omega))
            have hWtn := hWtn.kept (hU.2 _ (by omega))
            have hWto := hWto.kept (hU.2 _ (by omega))
            clear hc hU
            have hL : LwC D cs (x + 360) (upd e (56 + (4 * r)) (nI (16 * r + o9))) g0F H := hL
            refine lv_aload hx hb dL_law_135 (lv_at hl 5 rfl) ?_
            refine lv_iconst (v := nI 4) hx hb dL_law_137 (by decide) ?_
            refine lv_iload hx hb dL_law_138 (lv_at hl 9 rfl) ?_
            refine kn_mul hx hb dL_law_140 ?_
            refine lv_iconst (v := nI 1) hx hb dL_law_141 (by decide) ?_
            refine kn_add hx hb dL_law_142 ?_
            refine lv_iconst (v := nI 2) hx hb dL_law_143 (by decide) ?_
            refine lv_iload hx hb dL_law_144 (lv_at hl 0 rfl) ?_
            refine lv_iconst (v := nI 3) hx hb dL_law_146 (by decide) ?_
            refine lv_ishr hx hb dL_law_147 ?_
            refine lv_bipush (v := nI 7) hx hb dL_law_148 (by decide) ?_
            refine kx_retP (va_runS (As := [.int ((cvI xs N (1 + r)) >>> ((nI (3)) &&& 31)), .int (nI (7))]) (rest := [.int (nI (2)), .int (nI (4 * r + 1)), .ref (x + 360 + 2)]) ⟨hx, hb, hml, hown, hts⟩ (k_L_low l D cs ((cvI xs N (1 + r)) >>> ((nI (3)) &&& 31)) 7 (by decide) (by decide)) (cwS 2 hts gL_law_L_low rfl rfl rfl (by decide +kernel) ⟨Nat.le_of_ble_eq_true rfl, Nat.le_of_ble_eq_true rfl⟩) (kx_preS hK hN trivial) rfl rfl hl.1 rfl (lv_room (Nat.le_of_ble_eq_true rfl)) dL_law_150 ⟨by show cells + 0 ≤ 600086; omega, by show slots + 0 ≤ 7301441; omega⟩) ?_
            obtain ⟨q9, hq99⟩ : ∃ q9, lowN ((cvI xs N (1 + r)) >>> ((nI (3)) &&& 31)) 7 = q9 := ⟨_, rfl⟩
            have hq9 : q9 < 7 := hq99 ▸ lowN_lt _ (by decide)
            rw [hq99]
            refine kn_add hx hb dL_law_153 ?_
            refine kx_iast (i := 4 * r + 1) hx hb hK hL.rg hS (show x ≤ _ by omega) 0 rfl (by omega) (by decide) dL_law_154 (fun H locs hc hU hS => ?_)
            have hL := hL.put_rg (i := 4 * r + 1) (by omega) hc hU
            have hWhi := hWhi.off hU (by omega)
            have hWro := hWro.kept (hU.2 _ (by omega))
            have hM := hM.off hU (by omega)
            have hM2 := hM2.off hU (by omega)
            have hWtb := hWtb.kept (hU.2 _ (by omega))
            have hWtn := hWtn.kept (hU.2 _ (by omega))
            have hWto := hWto.kept (hU.2 _ (by omega))
            clear hc hU
            have hL : LwC D cs (x + 360) (upd (upd e (56 + (4 * r)) (nI (16 * r + o9))) (56 + (4 * r + 1)) (nI (2 + q9))) g0F H := hL
            refine lv_aload hx hb dL_law_155 (lv_at hl 5 rfl) ?_
            refine lv_iconst (v := nI 4) hx hb dL_law_157 (by decide) ?_
            refine lv_iload hx hb dL_law_158 (lv_at hl 9 rfl) ?_
            refine kn_mul hx hb dL_law_160 ?_
            refine lv_iconst (v := nI 2) hx hb dL_law_161 (by decide) ?_
            refine kn_add hx hb dL_law_162 ?_
            refine lv_iload hx hb dL_law_163 (lv_at hl 0 rfl) ?_
            refine lv_bipush (v := nI 6) hx hb dL_law_165 (by decide) ?_
            refine lv_ishr hx hb dL_law_167 ?_
            refine lv_iconst (v := nI 4) hx hb dL_law_168 (by decide) ?_
            refine kx_retP (va_runS (As := [.int ((cvI xs N (1 + r)) >>> ((nI (6)) &&& 31)), .int (nI (4))]) (rest := [.int (nI (4 * r + 2)), .ref (x + 360 + 2)]) ⟨hx, hb, hml, hown, hts⟩ (k_L_low l D cs ((cvI xs N (1 + r)) >>> ((nI (6)) &&& 31)) 4 (by decide) (by decide)) (cwS 2 hts gL_law_L_low rfl rfl rfl (by decide +kernel) ⟨Nat.le_of_ble_eq_true rfl, Nat.le_of_ble_eq_true rfl⟩) (kx_preS hK hN trivial) rfl rfl hl.1 rfl (lv_room (Nat.le_of_ble_eq_true rfl)) dL_law_169 ⟨by show cells + 0 ≤ 600086; omega, by show slots + 0 ≤ 7301441; omega⟩) ?_
            obtain ⟨p9, hp99⟩ : ∃ p9, lowN ((cvI xs N (1 + r)) >>> ((nI (6)) &&& 31)) 4 = p9 := ⟨_, rfl⟩
            have hp9 : p9 < 4 := hp99 ▸ lowN_lt _ (by decide)
            rw [hp99]
            refine kx_iast (i := 4 * r + 2) hx hb hK hL.rg hS (show x ≤ _ by omega) 0 rfl (by omega) (by decide) dL_law_172 (fun H locs hc hU hS => ?_)
            have hL := hL.put_rg (i := 4 * r + 2) (by omega) hc hU
            have hWhi := hWhi.off hU (by omega)
            have hWro := hWro.kept (hU.2 _ (by omega))
            have hM := hM.off hU (by omega)
            have hM2 := hM2.off hU (by omega)
            have hWtb := hWtb.kept (hU.2 _ (by omega))
            have hWtn := hWtn.kept (hU.2 _ (by omega))
            have hWto := hWto.kept (hU.2 _ (by omega))
            clear hc hU
            have hL : LwC D cs (x + 360) (upd (upd (upd e (56 + (4 * r)) (nI (16 * r + o9))) (56 + (4 * r + 1)) (nI (2 + q9))) (56 + (4 * r + 2)) (nI (p9))) g0F H := hL
            refine lv_aload_n hx hb dL_law_173 rfl (lv_at hl 2 rfl) ?_
            refine lv_aload hx hb dL_law_174 (lv_at hl 5 rfl) ?_
            refine lv_iconst (v := nI 4) hx hb dL_law_176 (by decide) ?_
            refine lv_iload hx hb dL_law_177 (lv_at hl 9 rfl) ?_
            refine kn_mul hx hb dL_law_179 ?_
            refine kx_iald (i := 4 * r) hx hb hK hL.rg 0 rfl (by omega) (by decide) dL_law_180 ?_
            refine kx_ci (x := (upd (upd (upd e (56 + (4 * r)) (nI (16 * r + o9))) (56 + (4 * r + 1)) (nI (2 + q9))) (56 + (4 * r + 2)) (nI (p9))) (56 + (4 * r))) (y := nI (16 * r + o9)) (Eq.trans (show (upd (upd (upd e (56 + (4 * r)) (nI (16 * r + o9))) (56 + (4 * r + 1)) (nI (2 + q9))) (56 + (4 * r + 2)) (nI (p9))) (56 + (4 * r)) = (upd (upd (upd e (56 + (4 * r)) (nI (16 * r + o9))) (56 + (4 * r + 1)) (nI (2 + q9))) (56 + (4 * r + 2)) (nI (p9))) (56 + 4 * r + 0) from congrArg _ (by omega)) (by rw [upd_ne (by omega), upd_ne (by omega), upd_at, if_pos (by omega)])) ?_
            refine lv_aload hx hb dL_law_181 (lv_at hl 5 rfl) ?_
            refine lv_iconst (v := nI 4) hx hb dL_law_183 (by decide) ?_
            refine lv_iload hx hb dL_law_184 (lv_at hl 9 rfl) ?_
            refine kn_mul hx hb dL_law_186 ?_
            refine lv_iconst (v := nI 1) hx hb dL_law_187 (by decide) ?_
            refine kn_add hx hb dL_law_188 ?_
            refine kx_iald (i := 4 * r + 1) hx hb hK hL.rg 0 rfl (by omega) (by decide) dL_law_189 ?_
            refine kx_ci (x := (upd (upd (upd e (56 + (4 * r)) (nI (16 * r + o9))) (56 + (4 * r + 1)) (nI (2 + q9))) (56 + (4 * r + 2)) (nI (p9))) (56 + (4 * r + 1))) (y := nI (2 + q9)) (Eq.trans (show (upd (upd (upd e (56 + (4 * r)) (nI (16 * r + o9))) (56 + (4 * r + 1)) (nI (2 + q9))) (56 + (4 * r + 2)) (nI (p9))) (56 + (4 * r + 1)) = (upd (upd (upd e (56 + (4 * r)) (nI (16 * r + o9))) (56 + (4 * r + 1)) (nI (2 + q9))) (56 + (4 * r + 2)) (nI (p9))) (56 + 4 * r + 1) from congrArg _ (by omega)) (by rw [upd_ne (by omega), upd_at, if_pos (by omega)])) ?_
            refine lv_aload hx hb dL_law_190 (lv_at hl 5 rfl) ?_
            refine lv_iconst (v := nI 4) hx hb dL_law_192 (by decide) ?_
            refine lv_iload hx hb dL_law_193 (lv_at hl 9 rfl) ?_
            refine kn_mul hx hb dL_law_195 ?_
            refine lv_iconst (v := nI 2) hx hb dL_law_196 (by decide) ?_
            refine kn_add hx hb dL_law_197 ?_
            refine kx_iald (i := 4 * r + 2) hx hb hK hL.rg 0 rfl (by omega) (by decide) dL_law_198 ?_
            refine kx_ci (x := (upd (upd (upd e (56 + (4 * r)) (nI (16 * r + o9))) (56 + (4 * r + 1)) (nI (2 + q9))) (56 + (4 * r + 2)) (nI (p9))) (56 + (4 * r + 2))) (y := nI (p9)) (Eq.trans (show (upd (upd (upd e (56 + (4 * r)) (nI (16 * r + o9))) (56 + (4 * r + 1)) (nI (2 + q9))) (56 + (4 * r + 2)) (nI (p9))) (56 + (4 * r + 2)) = (upd (upd (upd e (56 + (4 * r)) (nI (16 * r + o9))) (56 + (4 * r + 1)) (nI (2 + q9))) (56 + (4 * r + 2)) (nI (p9))) (56 + 4 * r + 2) from congrArg _ (by omega)) (by rw [upd_at, if_pos (by omega)])) ?_
            refine kx_retM (va_runV (As := [.int (nI (16 * r + o9)), .int (nI (2 + q9)), .int (nI (p9))]) (rest := []) ⟨hx, hb, hml, hown, hts⟩ (k_X7_addRing l D cs x e g0F e0F g0F nx cn se sg b nn wd 0 0 ((((-1)))) (nI (16 * r + o9)) (nI (2 + q9)) (nI (p9)) hI hnx hcn (rb_w hRB (by omega) ho9 hq9 hp9) (by omega)) (cwV 3 hts gL_law_X7_addRing rfl rfl rfl (by decide +kernel) ⟨Nat.le_of_ble_eq_true rfl, Nat.le_of_ble_eq_true rfl⟩) (kx_preV hK hN hWro rfl ⟨hWro, hM, hM2, hWhi, hWto, hWtb, hWtn⟩) rfl rfl hl.1 rfl (lv_room (Nat.le_of_ble_eq_true rfl)) dL_law_199 ⟨by show cells + 0 ≤ 600086; omega, by show slots + 0 ≤ 7301441; omega⟩) hS (fun y9 _ h => h.1) (fun y9 h => h.1) (fun H locs hMN hk hS => ?_)
            have hL := hL.frame hk (fun x h1 h2 h => by first | (have h3 := h.1; have h4 := h.2; omega) | (rcases h with h | h <;> first | (have h3 := h.1; have h4 := h.2; omega) | (have h3 : _ ≤ x := h; omega)) | (have h3 : _ ≤ x := h; omega))
            obtain ⟨hWro, hM, hM2, hWhi, hWto, hWtb, hWtn⟩ := hMN
            clear hk
            refine kx_ci (x := nI (Rn e)) (y := nI (r)) (congrArg nI hRn) ?_
            refine lv_iload hx hb dL_law_202 (lv_at hl 9 rfl) ?_
            refine kn_icmp_eq (tgt := 209) hx hb dL_law_204 (by decide) (by omega) (by omega) (fun c204 => ?_) (fun c204 => ?_)
            · refine lv_iconst (v := nI 0) hx hb dL_law_209 (by decide) ?_
              refine lv_istore (lv' := [(10, .int (nI (0))), (9, .int (cvI xs N (1 + r))), (0, .ref (bs)), (1, .ref (x)), (2, .ref (x + 360)), (3, .ref (x + 360 + 1)), (4, .ref (x + 360 + 2)), (5, .ref (x + 360 + 3)), (6, .ref (x + 360 + 4)), (7, .ref (x + 360 + 5)), (8, .int (nI (r)))]) hx hb dL_law_210 hl (by decide) rfl (fun ls hl => ?_)
              have J212 : ∀ (fu212 : Nat) (k : Nat) (ee : Nat → Int32) (n2 : Nat) (c2 : Nat) (s2 : Nat → Nat → Int32) (t2 : Nat → Nat → Int64) (H : Heap) (locs : List Loc) (ls : Array Slot), (2 + q9 - k) < fu212 → (k ≤ 2 + q9) → (RC r o9 q9 k ee) → (n2 < 4) → (c2 ≤ 4) → (HiC D cs (x + 119) n2 c2 s2 t2 H) → (LwC D cs (x + 360) ee g0F H) → (va_at D vwCl (x, .inr (5, [.ref (x + 1), .ref (x + 60), .ref (x + 119), .ref (x + 357)])) H) → (StC D cs (x + 1) ee g0F H) → (StC D cs (x + 60) e0F g0F H) → (va_at D vwCl (x + 357 + 1, .inl (cs 1, 150, .inl b)) H) → (va_at D vwCl (x + 357 + 2, .inl (cs 0, 5, .inl nn)) H) → (va_at D vwCl (x + 357, .inr (0, [.ref (x + 357 + 1), .ref (x + 357 + 2), .ref (wd), .int (nI (0)), .int (nI (0)), .int (((((-1)))))])) H) → va_S ((fun y9 : Nat => x ≤ y9)) s.heap H locs → lv_has ls 16 [(0, .ref (bs)), (1, .ref (x)), (2, .ref (x + 360)), (3, .ref (x + 360 + 1)), (4, .ref (x + 360 + 2)), (5, .ref (x + 360 + 3)), (6, .ref (x + 360 + 4)), (7, .ref (x + 360 + 5)), (8, .int (nI (r))), (10, .int (nI (k)))] → W p l en room_1 s m #[Value.ref bs] below meth c H locs cells slots Q (F0 m 212 ls []) := by
                intro fu212; induction fu212 with
                | zero => intro k ee n2 c2 s2 t2 H locs ls hmu212 hk9 hRC hn2 hc2 hWhi hL hWro hM hM2 hWtb hWtn hWto hS hl; exact absurd hmu212 (Nat.not_lt_zero _)
                | succ fu212 ih212 =>
                  intro k ee n2 c2 s2 t2 H locs ls hmu212 hk9 hRC hn2 hc2 hWhi hL hWro hM hM2 hWtb hWtn hWto hS hl
                  have hIe := hRC.I
                  refine lv_iload hx hb dL_law_212 (lv_at hl 9 rfl) ?_
                  refine lv_aload hx hb dL_law_214 (lv_at hl 4 rfl) ?_
                  refine lv_iconst (v := nI 4) hx hb dL_law_216 (by decide) ?_
                  refine lv_iload hx hb dL_law_217 (lv_at hl 8 rfl) ?_
                  refine kn_mul hx hb dL_law_219 ?_
                  refine lv_iconst (v := nI 1) hx hb dL_law_220 (by decide) ?_
                  refine kn_add hx hb dL_law_221 ?_
                  refine kx_iald (i := 4 * r + 1) hx hb hK hL.rg 0 rfl (by omega) (by decide) dL_law_222 ?_
                  refine kx_ci (x := ee (56 + (4 * r + 1))) (y := nI (2 + q9)) (Eq.trans (show ee (56 + (4 * r + 1)) = ee (56 + 4 * r + 1) from congrArg _ (by omega)) hRC.f1) ?_
                  refine kn_icmp_ge (tgt := 283) hx hb dL_law_223 (by decide) (by omega) (by omega) (fun c_2 => ?_) (fun c_2 => ?_)
                  · refine lv_iinc (v := nI (r + 1)) (lv' := [(8, .int (nI (r + 1))), (0, .ref (bs)), (1, .ref (x)), (2, .ref (x + 360)), (3, .ref (x + 360 + 1)), (4, .ref (x + 360 + 2)), (5, .ref (x + 360 + 3)), (6, .ref (x + 360 + 4)), (7, .ref (x + 360 + 5)), (10, .int (nI (k)))]) (k := 8) hx hb dL_law_283 hl rfl (nI_add _ _) (by decide) rfl (fun ls hl => ?_)
                    refine lv_goto (tgt := 100) hx hb dL_law_286 (by decide) ?_
                    exact ih100 (r + 1) ee n2 c2 s2 t2 _ _ _ (by omega) (by omega) ((show RC r o9 q9 (2 + q9) ee by have h9 : k = 2 + q9 := (by omega); exact h9 ▸ hRC).rb (by omega) ho9 hq9) hn2 hc2 hWhi hL hWro hM hM2 hWtb hWtn hWto hS (lv_sub hl [1, 2, 3, 4, 5, 6, 7, 8, 0] rfl)
                  · refine lv_aload_n hx hb dL_law_226 rfl (lv_at hl 3 rfl) ?_
                    refine lv_aload hx hb dL_law_227 (lv_at hl 4 rfl) ?_
                    refine lv_iconst (v := nI 4) hx hb dL_law_229 (by decide) ?_
                    refine lv_iload hx hb dL_law_230 (lv_at hl 8 rfl) ?_
                    refine kn_mul hx hb dL_law_232 ?_
                    refine kx_iald (i := 4 * r) hx hb hK hL.rg 0 rfl (by omega) (by decide) dL_law_233 ?_
                    refine kx_ci (x := ee (56 + (4 * r))) (y := nI (16 * r + o9)) (Eq.trans (show ee (56 + (4 * r)) = ee (56 + 4 * r + 0) from congrArg _ (by omega)) hRC.f0) ?_
                    refine lv_iload hx hb dL_law_234 (lv_at hl 9 rfl) ?_
                    refine kn_add hx hb dL_law_236 ?_
                    refine lv_bipush (v := nI 100) hx hb dL_law_237 (by decide) ?_
                    refine lv_iload hx hb dL_law_239 (lv_at hl 8 rfl) ?_
                    refine kn_mul hx hb dL_law_241 ?_
                    refine lv_iload hx hb dL_law_242 (lv_at hl 9 rfl) ?_
                    refine kn_add hx hb dL_law_244 ?_
                    refine lv_iconst (v := nI 1) hx hb dL_law_245 (by decide) ?_
                    refine kn_add hx hb dL_law_246 ?_
                    refine kx_iast (i := 16 * r + o9 + k) hx hb hK hL.me hS (show x ≤ _ by omega) 0 rfl (by omega) (by decide) dL_law_247 (fun H locs hc hU hS => ?_)
                    have hL := hL.put_me (i := 16 * r + o9 + k) (by omega) hc hU
                    have hWhi := hWhi.off hU (by omega)
                    have hWro := hWro.kept (hU.2 _ (by omega))
                    have hM := hM.off hU (by omega)
                    have hM2 := hM2.off hU (by omega)
                    have hWtb := hWtb.kept (hU.2 _ (by omega))
                    have hWtn := hWtn.kept (hU.2 _ (by omega))
                    have hWto := hWto.kept (hU.2 _ (by omega))
                    clear hc hU
                    have hL : LwC D cs (x + 360) (upd ee (8 + (16 * r + o9 + k)) (nI (100 * r + k + 1))) g0F H := hL
                    refine lv_aload_n hx hb dL_law_248 rfl (lv_at hl 1 rfl) ?_
                    refine lv_aload hx hb dL_law_249 (lv_at hl 4 rfl) ?_
                    refine lv_iconst (v := nI 4) hx hb dL_law_251 (by decide) ?_
                    refine lv_iload hx hb dL_law_252 (lv_at hl 8 rfl) ?_
                    refine kn_mul hx hb dL_law_254 ?_
                    refine kx_iald (i := 4 * r) hx hb hK hL.rg 0 rfl (by omega) (by decide) dL_law_255 ?_
                    refine kx_ci (x := (upd ee (8 + (16 * r + o9 + k)) (nI (100 * r + k + 1))) (56 + (4 * r))) (y := nI (16 * r + o9)) (Eq.trans (show (upd ee (8 + (16 * r + o9 + k)) (nI (100 * r + k + 1))) (56 + (4 * r)) = (upd ee (8 + (16 * r + o9 + k)) (nI (100 * r + k + 1))) (56 + 4 * r + 0) from congrArg _ (by omega)) (Eq.trans (by rw [upd_ne (by omega)]) hRC.f0)) ?_
                    refine lv_iload hx hb dL_law_256 (lv_at hl 9 rfl) ?_
                    refine kn_add hx hb dL_law_258 ?_
                    refine lv_bipush (v := nI 100) hx hb dL_law_259 (by decide) ?_
                    refine lv_iload hx hb dL_law_261 (lv_at hl 8 rfl) ?_
                    refine kn_mul hx hb dL_law_263 ?_
                    refine lv_iload hx hb dL_law_264 (lv_at hl 9 rfl) ?_
                    refine kn_add hx hb dL_law_266 ?_
                    refine lv_iconst (v := nI 1) hx hb dL_law_267 (by decide) ?_
                    refine kn_add hx hb dL_law_268 ?_
                    refine kx_retM (va_runV (As := [.int (nI (16 * r + o9 + k)), .int (nI (100 * r + k + 1))]) (rest := []) ⟨hx, hb, hml, hown, hts⟩ (k_X7_write l D cs x ee g0F e0F g0F n2 c2 s2 t2 b nn wd 0 0 (((((-1))))) (16 * r + o9 + k) (nI (100 * r + k + 1)) hIe (fun m9 hm9 => absurd hm9 (by have := hRC.2.2.1; omega)) hn2 hc2 (hRC.w (by omega) ho9 hq9 (by omega)) (by omega)) (cwV 2 hts gL_law_X7_write rfl rfl rfl (by decide +kernel) ⟨Nat.le_of_ble_eq_true rfl, Nat.le_of_ble_eq_true rfl⟩) (kx_preV hK hN hWro rfl ⟨hWro, hM, hM2, hWhi, hWto, hWtb, hWtn⟩) rfl rfl hl.1 rfl (lv_room (Nat.le_of_ble_eq_true rfl)) dL_law_269 ⟨by show cells + 0 ≤ 600086; omega, by show slots + 0 ≤ 7301441; omega⟩) hS (fun y9 _ h => h.1) (fun y9 h => h.1) (fun H locs hMN hk hS => ?_)
                    have hL := hL.frame hk (fun x h1 h2 h => by first | (have h3 := h.1; have h4 := h.2; omega) | (rcases h with h | h <;> first | (have h3 := h.1; have h4 := h.2; omega) | (have h3 : _ ≤ x := h; omega)) | (have h3 : _ ≤ x := h; omega))
                    obtain ⟨hWro, hM, hM2, hWhi, hWto, hWtb, hWtn⟩ := hMN
                    clear hk
                    refine kx_ci (x := ee (8 + (16 * r + o9 + k))) (y := nI (0)) (hRC.z (by omega) (by omega)) ?_
                    refine kn_if_eq (tgt := 277) hx hb dL_law_272 (by decide) (by omega) (fun c272 => ?_) (fun c272 => ?_)
                    · refine lv_iinc (v := nI (k + 1)) (lv' := [(10, .int (nI (k + 1))), (0, .ref (bs)), (1, .ref (x)), (2, .ref (x + 360)), (3, .ref (x + 360 + 1)), (4, .ref (x + 360 + 2)), (5, .ref (x + 360 + 3)), (6, .ref (x + 360 + 4)), (7, .ref (x + 360 + 5)), (8, .int (nI (r)))]) (k := 9) hx hb dL_law_277 hl rfl (nI_add _ _) (by decide) rfl (fun ls hl => ?_)
                      refine lv_goto (tgt := 212) hx hb dL_law_280 (by decide) ?_
                      exact ih212 (k + 1) ((upd ee (8 + (16 * r + o9 + k)) (nI (100 * r + k + 1)))) (((n2 + 1) % 4)) ((min (c2 + 1) 4)) ((hsE s2 n2 (cfF (s2 n2) ee))) ((hsG t2 n2 (cgM (t2 n2) g0F (Mn ee)))) _ _ _ (by omega) (by omega) (hRC.s (by omega) ho9 hq9 (by omega) _) (Nat.mod_lt _ (by decide)) (Nat.min_le_right _ _) hWhi hL hWro hM hM2 hWtb hWtn hWto hS (lv_sub hl [1, 2, 3, 4, 5, 6, 7, 8, 9, 0] rfl)
                    · exact absurd rfl c272
              exact J212 _ 0 (prF e (nI (16 * r + o9)) (nI (2 + q9)) (nI p9)) (((nx + 1) % 4)) ((min (cn + 1) 4)) ((hsE se nx (cfF (se nx) e))) ((hsG sg nx (cgM (sg nx) g0F (Mn e)))) _ _ _ (Nat.lt_succ_self _) (by omega) (rb_rc hRB (by omega) ho9 hq9 hp9) (Nat.mod_lt _ (by decide)) (Nat.min_le_right _ _) hWhi (hL.alike (ring_tr hRB (by omega) _ _ _)) hWro hM hM2 hWtb hWtn hWto hS (lv_sub hl [2, 3, 4, 5, 6, 7, 8, 9, 10, 0] rfl)
            · exact absurd rfl c204
      exact J100 _ 0 (upd (upd e0F (1 + 0) (nI (1 + s0))) (1 + 1) (nI (1 + l0))) ((((((0 + 1) % 4)) + 1) % 4)) ((min (((min (0 + 1) 4)) + 1) 4)) ((hsE ((hsE ((fun _ => e0F)) 0 (cfF (((fun _ => e0F)) 0) e0F))) (((0 + 1) % 4)) (cfF (((hsE ((fun _ => e0F)) 0 (cfF (((fun _ => e0F)) 0) e0F))) (((0 + 1) % 4))) ((upd e0F (1 + 0) (nI (1 + s0))))))) ((hsG ((hsG ((fun _ => g0F)) 0 (cgM (((fun _ => g0F)) 0) g0F (Mn e0F)))) (((0 + 1) % 4)) (cgM (((hsG ((fun _ => g0F)) 0 (cgM (((fun _ => g0F)) 0) g0F (Mn e0F)))) (((0 + 1) % 4))) g0F (Mn ((upd e0F (1 + 0) (nI (1 + s0)))))))) _ _ _ (Nat.lt_succ_self _) (by omega) (ini_rb (by omega) (by omega)) (Nat.mod_lt _ (by decide)) (Nat.min_le_right _ _) hWhi (by have q9 := hL; rw [ini_eq] at q9; exact q9) hWro hM hM2 hWtb hWtn hWto hS (lv_sub hl [1, 2, 3, 4, 5, 6, 7, 8, 0] rfl)
    · exact absurd rfl c92
