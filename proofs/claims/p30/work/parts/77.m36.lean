set_option maxHeartbeats 4000000 in
set_option maxRecDepth 100000 in
theorem k_X5_init (l : Launch) (D : va_G) (cs : Nat → ClassId) (q : Nat) : Met l yX5_init wsX5_init ({ frames := 2, cells := 58, slots := 822, locals := 32 } : Room) (PcA D cs [.ref q] (fun H => va_at D vwCl (q, .inr (4, StZ)) H ∧ H.size = q + 1)) (QcM none (fun H => StC D cs q e0F g0F H ∧ H.size = q + 59) (fun x => q ≤ x)) 58 822 (fun x => q ≤ x) := by
  refine kx_metA (cc := cX5_init) (maxL := 2) (ret := none) (by decide) rfl (Nat.le_of_ble_eq_true rfl) ?_
  intro p en s m args below meth c hx hb hml hrt hts hown hlk hK hN hX hin9 hP ls hl
  have hl : lv_has ls 2 [(0, .ref q)] := hl
  obtain ⟨H, hHe⟩ : ∃ H : Heap, H = s.heap := ⟨_, rfl⟩
  rw [← hHe] at hP ⊢
  have hS : va_S (fun x => q ≤ x) s.heap H [] := by rw [← hHe]; exact va_S.rf
  have hinX5 : ∀ w ∈ wsX50, w ∈ wsX5_init := by decide +kernel
  have hinX4 : ∀ w ∈ wsX40, w ∈ wsX5_init := by decide +kernel
  have hinX3 : ∀ w ∈ wsX30, w ∈ wsX5_init := by decide +kernel
  obtain ⟨hO, hz⟩ := hP
  refine lv_aload_n hx hb dX5_init_0 rfl (lv_at hl 0 rfl) ?_
  refine W.objInit hx hb hown (hts (.methodLink RX5 3 objectInit) (by decide +kernel)) (hts (.instanceMethod objectInit) (by decide +kernel)) (hts (.code objectInit ⟨#[0xb1]⟩ 1 none) (by decide +kernel)) rfl (by rw [hml]; exact hl.1) rfl dX5_init_1 (Nat.le_of_ble_eq_true rfl) (Nat.le_of_ble_eq_true rfl) ?_
  refine W.eq (g2 := F0 m 4 ls []) rfl ?_
  refine lv_aload_n hx hb dX5_init_4 rfl (lv_at hl 0 rfl) ?_
  refine lv_bipush (v := nI 48) hx hb dX5_init_5 rfl ?_
  refine kx_newi hx hb hts (by decide +kernel) hK hS hz 0 rfl (by decide) (Nat.le_of_ble_eq_true rfl) (Nat.le_of_ble_eq_true rfl) dX5_init_7 (fun H1 hC z1 o1 hS => ?_)
  have hO := hO.kept (o1 _ (by omega))
  refine kx_putF hx hb hts hinX5 tyX5_ok nmX5 hown hK hO rfl hS (Nat.le_refl q) 0 (by decide) (by decide +kernel) rfl hin9 rfl rfl rfl (Nat.le_of_ble_eq_true rfl) dX5_init_9 (fun H2 locs hO hU hS => ?_)
  have hC := hC.kept (hU.2 _ (by omega))
  have hz : H2.size = q + 2 := by rw [hU.1, z1]
  clear hU z1 o1
  refine lv_aload_n hx hb dX5_init_12 rfl (lv_at hl 0 rfl) ?_
  refine lv_bipush (v := nI 6) hx hb dX5_init_13 rfl ?_
  refine kx_newq hx hb hts hown (index := 15) (by decide +kernel) hX.1 hK hS hz 2 rfl (by decide) (Nat.le_of_ble_eq_true rfl) (Nat.le_of_ble_eq_true rfl) dX5_init_15 (fun H1 hR z1 o1 hS => ?_)
  have hO := hO.kept (o1 _ (by omega))
  have hC := hC.kept (o1 _ (by omega))
  refine kx_putF hx hb hts hinX5 tyX5_ok nmX5 hown hK hO rfl hS (Nat.le_refl q) 1 (by decide) (by decide +kernel) rfl hin9 rfl rfl rfl (Nat.le_of_ble_eq_true rfl) dX5_init_18 (fun H2 locs hO hU hS => ?_)
  have hC := hC.kept (hU.2 _ (by omega))
  have hR := hR.kept (hU.2 _ (by omega))
  have hz : H2.size = q + 3 := by rw [hU.1, z1]
  clear hU z1 o1
  refine lv_aload_n hx hb dX5_init_21 rfl (lv_at hl 0 rfl) ?_
  refine lv_bipush (v := nI 24) hx hb dX5_init_22 rfl ?_
  refine kx_newq hx hb hts hown (index := 21) (by decide +kernel) hX.2.1 hK hS hz 3 rfl (by decide) (Nat.le_of_ble_eq_true rfl) (Nat.le_of_ble_eq_true rfl) dX5_init_24 (fun H1 hV z1 o1 hS => ?_)
  have hO := hO.kept (o1 _ (by omega))
  have hC := hC.kept (o1 _ (by omega))
  have hR := hR.kept (o1 _ (by omega))
  refine kx_putF hx hb hts hinX5 tyX5_ok nmX5 hown hK hO rfl hS (Nat.le_refl q) 2 (by decide) (by decide +kernel) rfl hin9 rfl rfl rfl (Nat.le_of_ble_eq_true rfl) dX5_init_27 (fun H2 locs hO hU hS => ?_)
  have hC := hC.kept (hU.2 _ (by omega))
  have hR := hR.kept (hU.2 _ (by omega))
  have hV := hV.kept (hU.2 _ (by omega))
  have hz : H2.size = q + 4 := by rw [hU.1, z1]
  clear hU z1 o1
  refine lv_aload_n hx hb dX5_init_30 rfl (lv_at hl 0 rfl) ?_
  refine lv_bipush (v := nI 24) hx hb dX5_init_31 rfl ?_
  refine kx_newi hx hb hts (by decide +kernel) hK hS hz 0 rfl (by decide) (Nat.le_of_ble_eq_true rfl) (Nat.le_of_ble_eq_true rfl) dX5_init_33 (fun H1 hD z1 o1 hS => ?_)
  have hO := hO.kept (o1 _ (by omega))
  have hC := hC.kept (o1 _ (by omega))
  have hR := hR.kept (o1 _ (by omega))
  have hV := hV.kept (o1 _ (by omega))
  refine kx_putF hx hb hts hinX5 tyX5_ok nmX5 hown hK hO rfl hS (Nat.le_refl q) 3 (by decide) (by decide +kernel) rfl hin9 rfl rfl rfl (Nat.le_of_ble_eq_true rfl) dX5_init_35 (fun H2 locs hO hU hS => ?_)
  have hC := hC.kept (hU.2 _ (by omega))
  have hR := hR.kept (hU.2 _ (by omega))
  have hV := hV.kept (hU.2 _ (by omega))
  have hD := hD.kept (hU.2 _ (by omega))
  have hz : H2.size = q + 5 := by rw [hU.1, z1]
  clear hU z1 o1
  refine lv_aload_n hx hb dX5_init_38 rfl (lv_at hl 0 rfl) ?_
  refine lv_iconst (v := nI 2) hx hb dX5_init_39 rfl ?_
  refine kx_put hx hb hts hinX5 tyX5_ok nmX5 hown hK hO rfl hS (Nat.le_refl q) 6 (by decide) (by decide +kernel) rfl rfl rfl (Nat.le_of_ble_eq_true rfl) dX5_init_40 (fun H2 locs hO hU hS => ?_)
  have hC := hC.kept (hU.2 _ (by omega))
  have hR := hR.kept (hU.2 _ (by omega))
  have hV := hV.kept (hU.2 _ (by omega))
  have hD := hD.kept (hU.2 _ (by omega))
  have hz : H2.size = q + 5 := by rw [hU.1, hz]
  clear hU
  refine lv_aload_n hx hb dX5_init_43 rfl (lv_at hl 0 rfl) ?_
  refine lv_iconst (v := nI 2) hx hb dX5_init_44 rfl ?_
  refine kx_put hx hb hts hinX5 tyX5_ok nmX5 hown hK hO rfl hS (Nat.le_refl q) 7 (by decide) (by decide +kernel) rfl rfl rfl (Nat.le_of_ble_eq_true rfl) dX5_init_45 (fun H2 locs hO hU hS => ?_)
  have hC := hC.kept (hU.2 _ (by omega))
  have hR := hR.kept (hU.2 _ (by omega))
  have hV := hV.kept (hU.2 _ (by omega))
  have hD := hD.kept (hU.2 _ (by omega))
  have hz : H2.size = q + 5 := by rw [hU.1, hz]
  clear hU
  have hO : va_at D vwCl (q, .inr (4, StO q e0F)) H2 := hO
  refine lv_iconst (v := nI 0) hx hb dX5_init_48 rfl ?_
  refine lv_istore_n (lv' := [(1, .int (nI 0)), (0, .ref q)]) hx hb dX5_init_49 rfl hl (by decide) rfl (fun ls hl => ?_)
  have J77 : ∀ (fu r : Nat) (H : Heap) (locs : List Loc) (ls : Array Slot), 24 - r < fu → r ≤ 24 → (va_at D vwCl (q, .inr (4, StO q e0F)) H) → (va_at D vwCl (q + 1, .inl (cs 0, 48, .inl (fun _ => 0))) H) → (va_at D vwCl (q + 2, .inl (cs 2, 6, .inr (.inr (.inr (.inr (fq (fun j => q + 5 + j) 6)))))) H) → (va_at D vwCl (q + 3, .inl (cs 3, 24, .inr (.inr (.inr (.inr (fq (fun j => q + 11 + 2 * j) r)))))) H) → (va_at D vwCl (q + 4, .inl (cs 0, 24, .inl (fun _ => 0))) H) → (∀ j, j < 6 → va_at D vwCl (q + 5 + j, .inr (3, RgZ)) H) → (∀ j, j < r → va_at D vwCl (q + 11 + 2 * j, .inr (2, MvO q e0F g0F j)) H) → (∀ j, j < r → va_at D vwCl (q + 12 + 2 * j, .inl (cs 0, 16, .inl (fun _ => 0))) H) → (H.size = q + 11 + 2 * r) → va_S (fun x => q ≤ x) s.heap H locs → lv_has ls 2 [(1, .int (nI r)), (0, .ref q)] → W p l en ({ frames := 2, cells := 58, slots := 822, locals := 32 } : Room) s m args below meth c H locs (4 + 6 + 2 * r) (102 + 4 * 6 + 29 * r) (MQ below (QcM none (fun H => StC D cs q e0F g0F H ∧ H.size = q + 59) (fun x => q ≤ x)) args s 58 822 (fun x => q ≤ x)) (F0 m 77 ls []) := by
    intro fu; induction fu with
    | zero => intro r H locs ls hmu; exact absurd hmu (Nat.not_lt_zero _)
    | succ fu ih =>
      intro r H locs ls hmu hr hO hC hR hV hD hG hM hT hz hS hl
      refine lv_iload_n hx hb dX5_init_77 rfl (lv_at hl 0 rfl) ?_
      refine lv_bipush (v := nI 24) hx hb dX5_init_78 rfl ?_
      refine kn_icmp_ge (tgt := 102) hx hb dX5_init_80 (by decide) (by omega) (by decide) (fun hge => ?_) (fun hge => ?_)
      · have hr24 : r = 24 := by omega
        subst hr24
        refine kx_vretN hx hb hrt hlk ⟨⟨hO, at_congr hC (fun j _ => (e0F_at (by omega) (by omega)).symm), at_congrQ hR (fun j hj => if_pos hj), at_congrQ hV (fun j hj => if_pos hj), at_congr hD (fun j _ => (e0F_at (by omega) (by omega)).symm), fun r hr => obj_congr (hG r hr) (RgO_e0 r).symm, hM, fun m hm => at_congr (hT m hm) (fun j _ => (e0F_at (by omega) (by omega)).symm)⟩, hz⟩ hS (by show 4 + 6 + 2 * 24 ≤ 58; decide) (by show 102 + 4 * 6 + 29 * 24 ≤ 822; decide) dX5_init_102
      · refine lv_aload_n hx hb dX5_init_83 rfl (lv_at hl 1 rfl) ?_
        refine kx_get (v := .ref (q + 3)) hx hb hts hinX5 hown hK hO rfl 2 (by decide) (by decide +kernel) rfl dX5_init_84 ?_
        refine lv_iload_n hx hb dX5_init_87 rfl (lv_at hl 0 rfl) ?_
        refine kx_new (index := 21) (ci := 2) (fs := MvZ) (T := TX3) (N := 13) hx hb hts hinX3 tyX3 tyX3_ok hown (by decide +kernel) (by decide +kernel) (by decide +kernel) hK hS hz rfl (fun j hj => by rcases (show j = 0 ∨ j = 1 ∨ j = 2 ∨ j = 3 ∨ j = 4 ∨ j = 5 ∨ j = 6 ∨ j = 7 ∨ j = 8 ∨ j = 9 ∨ j = 10 ∨ j = 11 ∨ j = 12 by omega) with rfl | rfl | rfl | rfl | rfl | rfl | rfl | rfl | rfl | rfl | rfl | rfl | rfl <;> rfl) (by show _ ≤ 58; omega) (by show _ ≤ 822; omega) dX5_init_88 (fun H1 hN1 z1 o1 hS => ?_)
        have hO := hO.kept (o1 _ (by omega))
        have hC := hC.kept (o1 _ (by omega))
        have hR := hR.kept (o1 _ (by omega))
        have hV := hV.kept (o1 _ (by omega))
        have hD := hD.kept (o1 _ (by omega))
        have hG := fun j hj => (hG j hj).kept (o1 _ (by omega))
        have hM := fun j hj => (hM j hj).kept (o1 _ (by omega))
        have hT := fun j hj => (hT j hj).kept (o1 _ (by omega))
        refine lv_dup hx hb dX5_init_91 rfl ?_
        refine kx_retN (va_runIN (As := []) (rest := [.ref (q + 11 + 2 * r), .int (nI r), .ref (q + 3)]) ⟨hx, hb, hml, hown, hts⟩ (k_X3_init l D cs (q + 11 + 2 * r)) ⟨va_cnB 0 hts gX5_init_X3_init_n38 rfl rfl rfl hN.2.2.2.1 (hts (.initialized RX3) (by decide +kernel)) (by decide +kernel) ⟨Nat.le_of_ble_eq_true rfl, Nat.le_of_ble_eq_true rfl⟩, rfl, hts (.instanceMethod yX3_init) (by decide +kernel)⟩ (kx_preA hK hN hX ⟨hN1, z1⟩) rfl rfl hl.1 rfl (lv_room (Nat.le_of_ble_eq_true rfl)) dX5_init_92 ⟨by show _ ≤ 58; omega, by show _ ≤ 822; omega⟩) hS (fun x _ h => by have h2 : q + 11 + 2 * r ≤ x := h; show q ≤ x; omega) (fun x h => by have h2 : q + 11 + 2 * r ≤ x := h; show q ≤ x; omega) (fun H2 locs hMN hk hS => ?_)
        obtain ⟨hN2, hT2, hz2⟩ := hMN
        have hO := hO.kept (hk.2 _ hO.lt (fun h => by have h2 : q + 11 + 2 * r ≤ _ := h; omega))
        have hC := hC.kept (hk.2 _ hC.lt (fun h => by have h2 : q + 11 + 2 * r ≤ _ := h; omega))
        have hR := hR.kept (hk.2 _ hR.lt (fun h => by have h2 : q + 11 + 2 * r ≤ _ := h; omega))
        have hV := hV.kept (hk.2 _ hV.lt (fun h => by have h2 : q + 11 + 2 * r ≤ _ := h; omega))
        have hD := hD.kept (hk.2 _ hD.lt (fun h => by have h2 : q + 11 + 2 * r ≤ _ := h; omega))
        have hG := fun j hj => (hG j hj).kept (hk.2 _ (hG j hj).lt (fun h => by have h2 : q + 11 + 2 * r ≤ _ := h; omega))
        have hM := fun j hj => (hM j hj).kept (hk.2 _ (hM j hj).lt (fun h => by have h2 : q + 11 + 2 * r ≤ _ := h; omega))
        have hT := fun j hj => (hT j hj).kept (hk.2 _ (hT j hj).lt (fun h => by have h2 : q + 11 + 2 * r ≤ _ := h; omega))
        refine kx_aast hx hb hK hS (by show q ≤ q + 3; omega) 3 2 hV rfl hN2 rfl (by omega) (by decide) dX5_init_95 (fun H3 locs hV hU hS => ?_)
        have hO := hO.kept (hU.2 _ (by omega))
        have hC := hC.kept (hU.2 _ (by omega))
        have hR := hR.kept (hU.2 _ (by omega))
        have hD := hD.kept (hU.2 _ (by omega))
        have hN2 := hN2.kept (hU.2 _ (by omega))
        have hT2 := hT2.kept (hU.2 _ (by omega))
        have hG := fun j hj => (hG j hj).kept (hU.2 _ (by omega))
        have hM := fun j hj => (hM j hj).kept (hU.2 _ (by omega))
        have hT := fun j hj => (hT j hj).kept (hU.2 _ (by omega))
        refine lv_iinc (v := nI (r + 1)) (lv' := [(1, .int (nI (r + 1))), (0, .ref q)]) (k := 0) hx hb dX5_init_96 hl rfl (nI_add _ _) (by decide) rfl (fun ls hl => ?_)
        refine lv_goto (tgt := 77) hx hb dX5_init_99 (by decide) ?_
        have e9 := ih (r + 1) H3 locs ls (by omega) (by omega) hO hC hR (by rw [← fq_up]; exact hV) hD hG (fun j hj => by rcases Nat.lt_succ_iff_lt_or_eq.mp hj with h | h; exact hM j h; subst h; exact obj_congr hN2 (MvO_e0 q j).symm) (fun j hj => by rcases Nat.lt_succ_iff_lt_or_eq.mp hj with h | h; exact hT j h; subst h; rw [show q + 12 + 2 * j = q + 11 + 2 * j + 1 by omega]; exact hT2) (by rw [hU.1, hz2]; omega) hS hl
        rw [show 4 + 6 + 2 * r + 1 + 1 = 4 + 6 + 2 * (r + 1) by omega, show 102 + 4 * 6 + 29 * r + 13 + 16 = 102 + 4 * 6 + 29 * (r + 1) by omega]
        exact e9
  have J50 : ∀ (fu r : Nat) (H : Heap) (locs : List Loc) (ls : Array Slot), 6 - r < fu → r ≤ 6 → (va_at D vwCl (q, .inr (4, StO q e0F)) H) → (va_at D vwCl (q + 1, .inl (cs 0, 48, .inl (fun _ => 0))) H) → (va_at D vwCl (q + 2, .inl (cs 2, 6, .inr (.inr (.inr (.inr (fq (fun j => q + 5 + j) r)))))) H) → (va_at D vwCl (q + 3, .inl (cs 3, 24, .inr (.inr (.inr (.inr (fq (fun j => q + 11 + 2 * j) 0)))))) H) → (va_at D vwCl (q + 4, .inl (cs 0, 24, .inl (fun _ => 0))) H) → (∀ j, j < r → va_at D vwCl (q + 5 + j, .inr (3, RgZ)) H) → (H.size = q + 5 + r) → va_S (fun x => q ≤ x) s.heap H locs → lv_has ls 2 [(1, .int (nI r)), (0, .ref q)] → W p l en ({ frames := 2, cells := 58, slots := 822, locals := 32 } : Room) s m args below meth c H locs (4 + r) (102 + 4 * r) (MQ below (QcM none (fun H => StC D cs q e0F g0F H ∧ H.size = q + 59) (fun x => q ≤ x)) args s 58 822 (fun x => q ≤ x)) (F0 m 50 ls []) := by
    intro fu; induction fu with
    | zero => intro r H locs ls hmu; exact absurd hmu (Nat.not_lt_zero _)
    | succ fu ih =>
      intro r H locs ls hmu hr hO hC hR hV hD hG hz hS hl
      refine lv_iload_n hx hb dX5_init_50 rfl (lv_at hl 0 rfl) ?_
      refine lv_bipush (v := nI 6) hx hb dX5_init_51 rfl ?_
      refine kn_icmp_ge (tgt := 75) hx hb dX5_init_53 (by decide) (by omega) (by decide) (fun hge => ?_) (fun hge => ?_)
      · have hr6 : r = 6 := by omega
        subst hr6
        refine lv_iconst (v := nI 0) hx hb dX5_init_75 rfl ?_
        refine lv_istore_n (lv' := [(1, .int (nI 0)), (0, .ref q)]) hx hb dX5_init_76 rfl hl (by decide) rfl (fun ls hl => ?_)
        exact J77 25 0 H locs ls (by omega) (by omega) hO hC hR hV hD hG (fun j hj => absurd hj (Nat.not_lt_zero j)) (fun j hj => absurd hj (Nat.not_lt_zero j)) (by omega) hS hl
      · refine lv_aload_n hx hb dX5_init_56 rfl (lv_at hl 1 rfl) ?_
        refine kx_get (v := .ref (q + 2)) hx hb hts hinX5 hown hK hO rfl 1 (by decide) (by decide +kernel) rfl dX5_init_57 ?_
        refine lv_iload_n hx hb dX5_init_60 rfl (lv_at hl 0 rfl) ?_
        refine kx_new (index := 15) (ci := 3) (fs := RgZ) (T := TX4) (N := 4) hx hb hts hinX4 tyX4 tyX4_ok hown (by decide +kernel) (by decide +kernel) (by decide +kernel) hK hS hz rfl (fun j hj => by rcases (show j = 0 ∨ j = 1 ∨ j = 2 ∨ j = 3 by omega) with rfl | rfl | rfl | rfl <;> rfl) (by show _ ≤ 58; omega) (by show _ ≤ 822; omega) dX5_init_61 (fun H1 hN1 z1 o1 hS => ?_)
        have hO := hO.kept (o1 _ (by omega))
        have hC := hC.kept (o1 _ (by omega))
        have hR := hR.kept (o1 _ (by omega))
        have hV := hV.kept (o1 _ (by omega))
        have hD := hD.kept (o1 _ (by omega))
        have hG := fun j hj => (hG j hj).kept (o1 _ (by omega))
        refine lv_dup hx hb dX5_init_64 rfl ?_
        refine kx_retP (va_runIN (As := []) (rest := [.ref (q + 5 + r), .int (nI r), .ref (q + 2)]) ⟨hx, hb, hml, hown, hts⟩ (k_X4_init l D cs (q + 5 + r)) ⟨va_cnB 0 hts gX5_init_X4_init_n37 rfl rfl rfl hN.2.2.1 (hts (.initialized RX4) (by decide +kernel)) (by decide +kernel) ⟨Nat.le_of_ble_eq_true rfl, Nat.le_of_ble_eq_true rfl⟩, rfl, hts (.instanceMethod yX4_init) (by decide +kernel)⟩ (kx_preS hK hN trivial) rfl rfl hl.1 rfl (lv_room (Nat.le_of_ble_eq_true rfl)) dX5_init_65 ⟨by show _ ≤ 58; omega, by show _ ≤ 822; omega⟩) ?_
        refine kx_aast hx hb hK hS (by show q ≤ q + 2; omega) 2 3 hR rfl hN1 rfl (by omega) (by decide) dX5_init_68 (fun H3 locs hR hU hS => ?_)
        have hO := hO.kept (hU.2 _ (by omega))
        have hC := hC.kept (hU.2 _ (by omega))
        have hV := hV.kept (hU.2 _ (by omega))
        have hD := hD.kept (hU.2 _ (by omega))
        have hN1 := hN1.kept (hU.2 _ (by omega))
        have hG := fun j hj => (hG j hj).kept (hU.2 _ (by omega))
        refine lv_iinc (v := nI (r + 1)) (lv' := [(1, .int (nI (r + 1))), (0, .ref q)]) (k := 0) hx hb dX5_init_69 hl rfl (nI_add _ _) (by decide) rfl (fun ls hl => ?_)
        refine lv_goto (tgt := 50) hx hb dX5_init_72 (by decide) ?_
        have e9 := ih (r + 1) H3 locs ls (by omega) (by omega) hO hC (by rw [← fq_up]; exact hR) hV hD (fun j hj => by rcases Nat.lt_succ_iff_lt_or_eq.mp hj with h | h; exact hG j h; subst h; exact hN1) (by rw [hU.1, z1]; omega) hS hl
        rw [show 4 + r + 1 = 4 + (r + 1) by omega, show 102 + 4 * r + 4 = 102 + 4 * (r + 1) by omega]
        exact e9
  exact J50 7 0 H2 locs ls (by omega) (by omega) hO hC (by rw [fq_0]; exact hR) (by rw [fq_0]; exact hV) hD (fun j hj => absurd hj (Nat.not_lt_zero j)) hz hS hl
