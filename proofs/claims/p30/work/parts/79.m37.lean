set_option maxHeartbeats 4000000 in
set_option maxRecDepth 100000 in
theorem k_X2_init (l : Launch) (D : va_G) (cs : Nat → ClassId) (q : Nat) : Met l yX2_init wsX2_init ({ frames := 3, cells := 237, slots := 3340, locals := 53 } : Room) (PcA D cs [.ref q] (fun H => va_at D vwCl (q, .inr (1, HiZ)) H ∧ H.size = q + 1)) (QcM none (fun H => HiC D cs q 0 0 (fun _ => e0F) (fun _ => g0F) H ∧ H.size = q + 238) (fun x => q ≤ x)) 237 3340 (fun x => q ≤ x) := by
  refine kx_metA (cc := cX2_init) (maxL := 2) (ret := none) (by decide) rfl (Nat.le_of_ble_eq_true rfl) ?_
  intro p en s m args below meth c hx hb hml hrt hts hown hlk hK hN hX hin9 hP ls hl
  have hl : lv_has ls 2 [(0, .ref q)] := hl
  obtain ⟨H, hHe⟩ : ∃ H : Heap, H = s.heap := ⟨_, rfl⟩
  rw [← hHe] at hP ⊢
  have hS : va_S (fun y9 => q ≤ y9) s.heap H [] := by rw [← hHe]; exact va_S.rf
  have hinX2 : ∀ w ∈ wsX20, w ∈ wsX2_init := by decide +kernel
  have hinX5 : ∀ w ∈ wsX50, w ∈ wsX2_init := by decide +kernel
  obtain ⟨hO, hz⟩ := hP
  refine lv_aload_n hx hb dX2_init_0 rfl (lv_at hl 0 rfl) ?_
  refine W.objInit hx hb hown (hts (.methodLink RX2 3 objectInit) (by decide +kernel)) (hts (.instanceMethod objectInit) (by decide +kernel)) (hts (.code objectInit ⟨#[0xb1]⟩ 1 none) (by decide +kernel)) rfl (by rw [hml]; exact hl.1) rfl dX2_init_1 (Nat.le_of_ble_eq_true rfl) (Nat.le_of_ble_eq_true rfl) ?_
  refine W.eq (g2 := F0 m 4 ls []) rfl ?_
  refine lv_aload_n hx hb dX2_init_4 rfl (lv_at hl 0 rfl) ?_
  refine lv_iconst (v := nI 4) hx hb dX2_init_5 rfl ?_
  refine kx_newq hx hb hts hown (index := 9) (by decide +kernel) hX.2.2 hK hS hz 4 rfl (by decide) (Nat.le_of_ble_eq_true rfl) (Nat.le_of_ble_eq_true rfl) dX2_init_6 (fun H1 hA z1 o1 hS => ?_)
  have hO := hO.kept (o1 _ (by omega))
  refine kx_putF hx hb hts hinX2 tyX2_ok nmX2 hown hK hO rfl hS (Nat.le_refl q) 0 (by decide) (by decide +kernel) rfl hin9 rfl rfl rfl (Nat.le_of_ble_eq_true rfl) dX2_init_9 (fun H2 locs hO hU hS => ?_)
  have hA := hA.kept (hU.2 _ (by omega))
  have hz : H2.size = q + 2 := by rw [hU.1, z1]
  clear hU z1 o1
  refine lv_iconst (v := nI 0) hx hb dX2_init_12 rfl ?_
  refine lv_istore_n (lv' := [(1, .int (nI 0)), (0, .ref q)]) hx hb dX2_init_13 rfl hl (by decide) rfl (fun ls hl => ?_)
  have J14 : ∀ (fu r : Nat) (H : Heap) (locs : List Loc) (ls : Array Slot), 4 - r < fu → r ≤ 4 → va_at D vwCl (q, .inr (1, [.ref (q + 1), .int (nI 0), .int (nI 0)])) H → va_at D vwCl (q + 1, .inl (cs 4, 4, .inr (.inr (.inr (.inr (fq (fun j => q + 2 + 59 * j) r)))))) H → (∀ j, j < r → StC D cs (q + 2 + 59 * j) e0F g0F H) → H.size = q + 2 + 59 * r → va_S (fun x => q ≤ x) s.heap H locs → lv_has ls 2 [(1, .int (nI r)), (0, .ref q)] → W p l en ({ frames := 3, cells := 237, slots := 3340, locals := 53 } : Room) s m args below meth c H locs (1 + 59 * r) (4 + 834 * r) (MQ below (QcM none (fun H => HiC D cs q 0 0 (fun _ => e0F) (fun _ => g0F) H ∧ H.size = q + 238) (fun x => q ≤ x)) args s 237 3340 (fun x => q ≤ x)) (F0 m 14 ls []) := by
    intro fu; induction fu with
    | zero => intro r H locs ls hmu; exact absurd hmu (Nat.not_lt_zero _)
    | succ fu ih =>
      intro r H locs ls hmu hr hO hA hG hz hS hl
      refine lv_iload_n hx hb dX2_init_14 rfl (lv_at hl 0 rfl) ?_
      refine lv_iconst (v := nI 4) hx hb dX2_init_15 rfl ?_
      refine kn_icmp_ge (tgt := 38) hx hb dX2_init_16 (by decide) (by omega) (by decide) (fun hge => ?_) (fun hge => ?_)
      · have hr4 : r = 4 := by omega
        subst hr4
        exact kx_vretN hx hb hrt hlk ⟨⟨hO, at_congrQ hA (fun j hj => if_pos hj), hG⟩, hz⟩ hS (by show 1 + 59 * 4 ≤ 237; decide) (by show 4 + 834 * 4 ≤ 3340; decide) dX2_init_38
      · refine lv_aload_n hx hb dX2_init_19 rfl (lv_at hl 1 rfl) ?_
        refine kx_get (v := .ref (q + 1)) hx hb hts hinX2 hown hK hO rfl 0 (by decide) (by decide +kernel) rfl dX2_init_20 ?_
        refine lv_iload_n hx hb dX2_init_23 rfl (lv_at hl 0 rfl) ?_
        refine kx_new (index := 9) (ci := 4) (fs := StZ) (T := TX5) (N := 12) hx hb hts hinX5 tyX5 tyX5_ok hown (by decide +kernel) (by decide +kernel) (by decide +kernel) hK hS hz rfl (fun j hj => by rcases (show j = 0 ∨ j = 1 ∨ j = 2 ∨ j = 3 ∨ j = 4 ∨ j = 5 ∨ j = 6 ∨ j = 7 ∨ j = 8 ∨ j = 9 ∨ j = 10 ∨ j = 11 by omega) with rfl | rfl | rfl | rfl | rfl | rfl | rfl | rfl | rfl | rfl | rfl | rfl <;> rfl) (by show _ ≤ 237; omega) (by show _ ≤ 3340; omega) dX2_init_24 (fun H1 hN1 z1 o1 hS => ?_)
        have hO := hO.kept (o1 _ (by omega))
        have hA := hA.kept (o1 _ (by omega))
        have hG := fun j hj => (hG j hj).keep (fun x h1 h2 => o1 x (by omega))
        refine lv_dup hx hb dX2_init_27 rfl ?_
        refine kx_retN (va_runI (As := []) (rest := [.ref (q + 2 + 59 * r), .int (nI r), .ref (q + 1)]) ⟨hx, hb, hml, hown, hts⟩ (k_X5_init l D cs (q + 2 + 59 * r)) (cwI 0 hts gX2_init_X5_init rfl rfl rfl (hts (.initialized RX5) (by decide +kernel)) (hts (.methodLink RX2 17 yX5_init) (by decide +kernel)) (hts (.instanceMethod yX5_init) (by decide +kernel)) rfl (by decide +kernel) ⟨Nat.le_of_ble_eq_true rfl, Nat.le_of_ble_eq_true rfl⟩) (kx_preA hK hN hX ⟨hN1, z1⟩) rfl rfl hl.1 rfl (lv_room (Nat.le_of_ble_eq_true rfl)) dX2_init_28 ⟨by show _ ≤ 237; omega, by show _ ≤ 3340; omega⟩) hS (fun x _ h => by have h2 : q + 2 + 59 * r ≤ x := h; show q ≤ x; omega) (fun x h => by have h2 : q + 2 + 59 * r ≤ x := h; show q ≤ x; omega) (fun H2 locs hMN hk hS => ?_)
        obtain ⟨hN2, hz2⟩ := hMN
        have hO := hO.kept (hk.2 _ hO.lt (fun h => by have h2 : q + 2 + 59 * r ≤ _ := h; omega))
        have hA := hA.kept (hk.2 _ hA.lt (fun h => by have h2 : q + 2 + 59 * r ≤ _ := h; omega))
        have hG := fun j hj => (hG j hj).frame hk (fun x h1 h3 h => by have h2 : q + 2 + 59 * r ≤ x := h; omega)
        refine kx_aast hx hb hK hS (by show q ≤ q + 1; omega) 4 4 hA rfl hN2.obj rfl (by omega) (by decide) dX2_init_31 (fun H3 locs hA hU hS => ?_)
        have hO := hO.kept (hU.2 _ (by omega))
        have hN2 := hN2.off hU (by omega)
        have hG := fun j hj => (hG j hj).off hU (by omega)
        refine lv_iinc (v := nI (r + 1)) (lv' := [(1, .int (nI (r + 1))), (0, .ref q)]) (k := 0) hx hb dX2_init_32 hl rfl (nI_add _ _) (by decide) rfl (fun ls hl => ?_)
        refine lv_goto (tgt := 14) hx hb dX2_init_35 (by decide) ?_
        have e9 := ih (r + 1) H3 locs ls (by omega) (by omega) hO (by rw [← fq_up]; exact hA) (fun j hj => by rcases Nat.lt_succ_iff_lt_or_eq.mp hj with h | h; exact hG j h; subst h; exact hN2) (by rw [hU.1, hz2]; omega) hS hl
        rw [show 1 + 59 * r + 1 + 58 = 1 + 59 * (r + 1) by omega, show 4 + 834 * r + 12 + 822 = 4 + 834 * (r + 1) by omega]
        exact e9
  exact J14 5 0 H2 locs ls (by omega) (by omega) hO (by rw [fq_0]; exact hA) (fun j hj => absurd hj (Nat.not_lt_zero j)) hz hS hl
set_option maxHeartbeats 4000000 in
set_option maxRecDepth 100000 in
theorem k_X1_init (l : Launch) (D : va_G) (cs : Nat → ClassId) (q : Nat) (L : Nat) (aW aS aV : Nat → Nat) (tW tM : Nat) (hL : L ≤ q) : Met l yX1_init wsX1_init ({ frames := 1, cells := 2, slots := 155, locals := 12 } : Room) (PcB D cs L aW aS aV tW tM [.ref q] (fun H => va_at D vwCl (q, .inr (0, TxZ)) H ∧ H.size = q + 1)) (QcM none (fun H => TxC D cs q (fun _ => 0) (fun _ => 0) (aW 0) 0 0 (-1) H ∧ H.size = q + 3) (fun x => q ≤ x)) 2 155 (fun x => q ≤ x) := by
  refine kx_metB (cc := cX1_init) (maxL := 1) (ret := none) (by decide) rfl (Nat.le_of_ble_eq_true rfl) ?_
  intro p en s m args below meth c hx hb hml hrt hts hown hlk hK hN hX hW hin9 hP ls hl
  have hl : lv_has ls 1 [(0, .ref q)] := hl
  obtain ⟨H, hHe⟩ : ∃ H : Heap, H = s.heap := ⟨_, rfl⟩
  rw [← hHe] at hP ⊢
  have hS : va_S (fun y9 => q ≤ y9) s.heap H [] := by rw [← hHe]; exact va_S.rf
  have hWn : KW (fun y => q ≤ y) aW aS aV tW tM s s.heap := hW.narrow (fun y (h : q ≤ y) => Nat.le_trans hL h)
  have hinX1 : ∀ w ∈ wsX10, w ∈ wsX1_init := by decide +kernel
  obtain ⟨hO, hz⟩ := hP
  refine lv_aload_n hx hb dX1_init_0 rfl (lv_at hl 0 rfl) ?_
  refine W.objInit hx hb hown (hts (.methodLink RX1 3 objectInit) (by decide +kernel)) (hts (.instanceMethod objectInit) (by decide +kernel)) (hts (.code objectInit ⟨#[0xb1]⟩ 1 none) (by decide +kernel)) rfl (by rw [hml]; exact hl.1) rfl dX1_init_1 (Nat.le_of_ble_eq_true rfl) (Nat.le_of_ble_eq_true rfl) ?_
  refine W.eq (g2 := F0 m 4 ls []) rfl ?_
  refine lv_aload_n hx hb dX1_init_4 rfl (lv_at hl 0 rfl) ?_
  refine lv_sipush (v := nI 150) hx hb dX1_init_5 rfl ?_
  refine kx_newch hx hb hts (by decide +kernel) hK hS hz 1 rfl (by decide) (Nat.le_of_ble_eq_true rfl) (Nat.le_of_ble_eq_true rfl) dX1_init_8 (fun H1 hB z1 o1 hS => ?_)
  have hO := hO.kept (o1 _ (by omega))
  refine kx_putF hx hb hts hinX1 tyX1_ok nmX1 hown hK hO rfl hS (Nat.le_refl q) 0 (by decide) (by decide +kernel) rfl hin9 rfl rfl rfl (Nat.le_of_ble_eq_true rfl) dX1_init_10 (fun H2 locs hO hU hS => ?_)
  have hB := hB.kept (hU.2 _ (by omega))
  have hz : H2.size = q + 2 := by rw [hU.1, z1]
  clear hU z1 o1
  refine lv_aload_n hx hb dX1_init_13 rfl (lv_at hl 0 rfl) ?_
  refine lv_iconst (v := nI 5) hx hb dX1_init_14 rfl ?_
  refine kx_newi hx hb hts (by decide +kernel) hK hS hz 0 rfl (by decide) (Nat.le_of_ble_eq_true rfl) (Nat.le_of_ble_eq_true rfl) dX1_init_15 (fun H1 hA z1 o1 hS => ?_)
  have hO := hO.kept (o1 _ (by omega))
  have hB := hB.kept (o1 _ (by omega))
  refine kx_putF hx hb hts hinX1 tyX1_ok nmX1 hown hK hO rfl hS (Nat.le_refl q) 1 (by decide) (by decide +kernel) rfl hin9 rfl rfl rfl (Nat.le_of_ble_eq_true rfl) dX1_init_17 (fun H2 locs hO hU hS => ?_)
  have hB := hB.kept (hU.2 _ (by omega))
  have hA := hA.kept (hU.2 _ (by omega))
  have hz : H2.size = q + 3 := by rw [hU.1, z1]
  clear hU z1 o1
  refine lv_aload_n hx hb dX1_init_20 rfl (lv_at hl 0 rfl) ?_
  refine va_gets (v := .ref (aW 0)) hx hb hWn hS hown (hts (.fieldLink RX1 19 "HostageRings$Word" "RING" "LHostageRings$Word;") (by decide +kernel)) (fun x h => h) dX1_init_21 ?_
  refine kx_put hx hb hts hinX1 tyX1_ok nmX1 hown hK hO rfl hS (Nat.le_refl q) 2 (by decide) (by decide +kernel) rfl rfl rfl (Nat.le_of_ble_eq_true rfl) dX1_init_24 (fun H2 locs hO hU hS => ?_)
  have hB := hB.kept (hU.2 _ (by omega))
  have hA := hA.kept (hU.2 _ (by omega))
  have hz : H2.size = q + 3 := by rw [hU.1, hz]
  clear hU
  refine lv_aload_n hx hb dX1_init_27 rfl (lv_at hl 0 rfl) ?_
  refine lv_iconst (v := -1) hx hb dX1_init_28 rfl ?_
  refine kx_put hx hb hts hinX1 tyX1_ok nmX1 hown hK hO rfl hS (Nat.le_refl q) 5 (by decide) (by decide +kernel) rfl rfl rfl (Nat.le_of_ble_eq_true rfl) dX1_init_29 (fun H2 locs hO hU hS => ?_)
  have hB := hB.kept (hU.2 _ (by omega))
  have hA := hA.kept (hU.2 _ (by omega))
  have hz : H2.size = q + 3 := by rw [hU.1, hz]
  clear hU
  exact kx_vretN hx hb hrt hlk ⟨⟨hO, hB, hA⟩, hz⟩ hS (Nat.le_of_ble_eq_true rfl) (Nat.le_of_ble_eq_true rfl) dX1_init_32
set_option maxHeartbeats 4000000 in
set_option maxRecDepth 100000 in
theorem k_X7_init (l : Launch) (D : va_G) (cs : Nat → ClassId) (x : Nat) (L : Nat) (aW aS aV : Nat → Nat) (tW tM : Nat) (hL : L ≤ x) : Met l yX7_init wsX7_init ({ frames := 4, cells := 359, slots := 5172, locals := 74 } : Room) (PcB D cs L aW aS aV tW tM [.ref x] (fun H => va_at D vwCl (x, .inr (5, HrZ)) H ∧ H.size = x + 1)) (QcM none (fun H => HrC D cs x e0F g0F e0F g0F 0 0 (fun _ => e0F) (fun _ => g0F) (fun _ => 0) (fun _ => 0) (aW 0) 0 0 (-1) H ∧ H.size = x + 360) (fun y => x ≤ y)) 359 5172 (fun y => x ≤ y) := by
  refine kx_metB (cc := cX7_init) (maxL := 1) (ret := none) (by decide) rfl (Nat.le_of_ble_eq_true rfl) ?_
  intro p en s m args below meth c hx hb hml hrt hts hown hlk hK hN hX hW hin9 hP ls hl
  have hl : lv_has ls 1 [(0, .ref x)] := hl
  obtain ⟨H, hHe⟩ : ∃ H : Heap, H = s.heap := ⟨_, rfl⟩
  rw [← hHe] at hP ⊢
  have hS : va_S (fun y9 => x ≤ y9) s.heap H [] := by rw [← hHe]; exact va_S.rf
  have hAL : ∀ y9, x ≤ y9 → L ≤ y9 := fun y h => Nat.le_trans hL h
  have hinX7 : ∀ w ∈ wsX70, w ∈ wsX7_init := by decide +kernel
  have hinX5 : ∀ w ∈ wsX50, w ∈ wsX7_init := by decide +kernel
  have hinX2 : ∀ w ∈ wsX20, w ∈ wsX7_init := by decide +kernel
  have hinX1 : ∀ w ∈ wsX10, w ∈ wsX7_init := by decide +kernel
  obtain ⟨hO, hz⟩ := hP
  refine lv_aload_n hx hb dX7_init_0 rfl (lv_at hl 0 rfl) ?_
  refine W.objInit hx hb hown (hts (.methodLink RX7 1 objectInit) (by decide +kernel)) (hts (.instanceMethod objectInit) (by decide +kernel)) (hts (.code objectInit ⟨#[0xb1]⟩ 1 none) (by decide +kernel)) rfl (by rw [hml]; exact hl.1) rfl dX7_init_1 (Nat.le_of_ble_eq_true rfl) (Nat.le_of_ble_eq_true rfl) ?_
  refine W.eq (g2 := F0 m 4 ls []) rfl ?_
  refine lv_aload_n hx hb dX7_init_4 rfl (lv_at hl 0 rfl) ?_
  refine kx_new (index := 7) (ci := 4) (fs := StZ) (T := TX5) (N := 12) hx hb hts hinX5 tyX5 tyX5_ok hown (by decide +kernel) (by decide +kernel) (by decide +kernel) hK hS hz rfl (fun j hj => by rcases (show j = 0 ∨ j = 1 ∨ j = 2 ∨ j = 3 ∨ j = 4 ∨ j = 5 ∨ j = 6 ∨ j = 7 ∨ j = 8 ∨ j = 9 ∨ j = 10 ∨ j = 11 by omega) with rfl | rfl | rfl | rfl | rfl | rfl | rfl | rfl | rfl | rfl | rfl | rfl <;> rfl) (Nat.le_of_ble_eq_true rfl) (Nat.le_of_ble_eq_true rfl) dX7_init_5 (fun H1 hN1 z1 o1 hS => ?_)
  have hO := hO.kept (o1 _ (by omega))
  refine lv_dup hx hb dX7_init_8 rfl ?_
  refine kx_retN (va_runI (As := []) (rest := [.ref (x + 1), .ref x]) ⟨hx, hb, hml, hown, hts⟩ (k_X5_init l D cs (x + 1)) (cwI 0 hts gX7_init_X5_init rfl rfl rfl (hts (.initialized RX5) (by decide +kernel)) (hts (.methodLink RX7 9 yX5_init) (by decide +kernel)) (hts (.instanceMethod yX5_init) (by decide +kernel)) rfl (by decide +kernel) ⟨Nat.le_of_ble_eq_true rfl, Nat.le_of_ble_eq_true rfl⟩) (kx_preA hK hN hX ⟨hN1, z1⟩) rfl rfl hl.1 rfl (lv_room (Nat.le_of_ble_eq_true rfl)) dX7_init_9 ⟨Nat.le_of_ble_eq_true rfl, Nat.le_of_ble_eq_true rfl⟩) hS (fun y _ h => by have h2 : x + 1 ≤ y := h; show x ≤ y; omega) (fun y h => by have h2 : x + 1 ≤ y := h; show x ≤ y; omega) (fun H2 locs hMN hk hS => ?_)
  obtain ⟨hM, hz2⟩ := hMN
  have hO := hO.kept (hk.2 _ hO.lt (fun h => by have h2 : x + 1 ≤ _ := h; omega))
  refine kx_putF hx hb hts hinX7 tyX7_ok nmX7 hown hK hO rfl hS (Nat.le_refl x) 0 (by decide) (by decide +kernel) rfl hin9 rfl rfl rfl (Nat.le_of_ble_eq_true rfl) dX7_init_12 (fun H3 locs hO hU hS => ?_)
  have hM := hM.off hU (by omega)
  have hz : H3.size = x + 60 := by rw [hU.1, hz2]
  clear hU hk hz2 z1 o1
  refine lv_aload_n hx hb dX7_init_15 rfl (lv_at hl 0 rfl) ?_
  refine kx_new (index := 7) (ci := 4) (fs := StZ) (T := TX5) (N := 12) hx hb hts hinX5 tyX5 tyX5_ok hown (by decide +kernel) (by decide +kernel) (by decide +kernel) hK hS hz rfl (fun j hj => by rcases (show j = 0 ∨ j = 1 ∨ j = 2 ∨ j = 3 ∨ j = 4 ∨ j = 5 ∨ j = 6 ∨ j = 7 ∨ j = 8 ∨ j = 9 ∨ j = 10 ∨ j = 11 by omega) with rfl | rfl | rfl | rfl | rfl | rfl | rfl | rfl | rfl | rfl | rfl | rfl <;> rfl) (Nat.le_of_ble_eq_true rfl) (Nat.le_of_ble_eq_true rfl) dX7_init_16 (fun H1 hN1 z1 o1 hS => ?_)
  have hO := hO.kept (o1 _ (by omega))
  have hM := hM.keep (fun y h1 h2 => o1 y (by omega))
  refine lv_dup hx hb dX7_init_19 rfl ?_
  refine kx_retN (va_runI (As := []) (rest := [.ref (x + 60), .ref x]) ⟨hx, hb, hml, hown, hts⟩ (k_X5_init l D cs (x + 60)) (cwI 0 hts gX7_init_X5_init rfl rfl rfl (hts (.initialized RX5) (by decide +kernel)) (hts (.methodLink RX7 9 yX5_init) (by decide +kernel)) (hts (.instanceMethod yX5_init) (by decide +kernel)) rfl (by decide +kernel) ⟨Nat.le_of_ble_eq_true rfl, Nat.le_of_ble_eq_true rfl⟩) (kx_preA hK hN hX ⟨hN1, z1⟩) rfl rfl hl.1 rfl (lv_room (Nat.le_of_ble_eq_true rfl)) dX7_init_20 ⟨Nat.le_of_ble_eq_true rfl, Nat.le_of_ble_eq_true rfl⟩) hS (fun y _ h => by have h2 : x + 60 ≤ y := h; show x ≤ y; omega) (fun y h => by have h2 : x + 60 ≤ y := h; show x ≤ y; omega) (fun H2 locs hMN hk hS => ?_)
  obtain ⟨hM2, hz2⟩ := hMN
  have hO := hO.kept (hk.2 _ hO.lt (fun h => by have h2 : x + 60 ≤ _ := h; omega))
  have hM := hM.frame hk (fun y h1 h3 h => by have h2 : x + 60 ≤ y := h; omega)
  refine kx_putF hx hb hts hinX7 tyX7_ok nmX7 hown hK hO rfl hS (Nat.le_refl x) 1 (by decide) (by decide +kernel) rfl hin9 rfl rfl rfl (Nat.le_of_ble_eq_true rfl) dX7_init_23 (fun H3 locs hO hU hS => ?_)
  have hM := hM.off hU (by omega)
  have hM2 := hM2.off hU (by omega)
  have hz : H3.size = x + 119 := by rw [hU.1, hz2]
  clear hU hk hz2 z1 o1
  refine lv_aload_n hx hb dX7_init_26 rfl (lv_at hl 0 rfl) ?_
  refine kx_new (index := 19) (ci := 1) (fs := HiZ) (T := TX2) (N := 3) hx hb hts hinX2 tyX2 tyX2_ok hown (by decide +kernel) (by decide +kernel) (by decide +kernel) hK hS hz rfl (fun j hj => by rcases (show j = 0 ∨ j = 1 ∨ j = 2 by omega) with rfl | rfl | rfl <;> rfl) (Nat.le_of_ble_eq_true rfl) (Nat.le_of_ble_eq_true rfl) dX7_init_27 (fun H1 hN1 z1 o1 hS => ?_)
  have hO := hO.kept (o1 _ (by omega))
  have hM := hM.keep (fun y h1 h2 => o1 y (by omega))
  have hM2 := hM2.keep (fun y h1 h2 => o1 y (by omega))
  refine lv_dup hx hb dX7_init_30 rfl ?_
  refine kx_retN (va_runI (As := []) (rest := [.ref (x + 119), .ref x]) ⟨hx, hb, hml, hown, hts⟩ (k_X2_init l D cs (x + 119)) (cwI 0 hts gX7_init_X2_init rfl rfl rfl (hts (.initialized RX2) (by decide +kernel)) (hts (.methodLink RX7 21 yX2_init) (by decide +kernel)) (hts (.instanceMethod yX2_init) (by decide +kernel)) rfl (by decide +kernel) ⟨Nat.le_of_ble_eq_true rfl, Nat.le_of_ble_eq_true rfl⟩) (kx_preA hK hN hX ⟨hN1, z1⟩) rfl rfl hl.1 rfl (lv_room (Nat.le_of_ble_eq_true rfl)) dX7_init_31 ⟨Nat.le_of_ble_eq_true rfl, Nat.le_of_ble_eq_true rfl⟩) hS (fun y _ h => by have h2 : x + 119 ≤ y := h; show x ≤ y; omega) (fun y h => by have h2 : x + 119 ≤ y := h; show x ≤ y; omega) (fun H2 locs hMN hk hS => ?_)
  obtain ⟨hWhi, hz2⟩ := hMN
  have hO := hO.kept (hk.2 _ hO.lt (fun h => by have h2 : x + 119 ≤ _ := h; omega))
  have hM := hM.frame hk (fun y h1 h3 h => by have h2 : x + 119 ≤ y := h; omega)
  have hM2 := hM2.frame hk (fun y h1 h3 h => by have h2 : x + 119 ≤ y := h; omega)
  refine kx_putF hx hb hts hinX7 tyX7_ok nmX7 hown hK hO rfl hS (Nat.le_refl x) 2 (by decide) (by decide +kernel) rfl hin9 rfl rfl rfl (Nat.le_of_ble_eq_true rfl) dX7_init_34 (fun H3 locs hO hU hS => ?_)
  have hM := hM.off hU (by omega)
  have hM2 := hM2.off hU (by omega)
  have hWhi := hWhi.off hU (by omega)
  have hz : H3.size = x + 357 := by rw [hU.1, hz2]
  clear hU hk hz2 z1 o1
  refine lv_aload_n hx hb dX7_init_37 rfl (lv_at hl 0 rfl) ?_
  refine kx_new (index := 26) (ci := 0) (fs := TxZ) (T := TX1) (N := 6) hx hb hts hinX1 tyX1 tyX1_ok hown (by decide +kernel) (by decide +kernel) (by decide +kernel) hK hS hz rfl (fun j hj => by rcases (show j = 0 ∨ j = 1 ∨ j = 2 ∨ j = 3 ∨ j = 4 ∨ j = 5 by omega) with rfl | rfl | rfl | rfl | rfl | rfl <;> rfl) (Nat.le_of_ble_eq_true rfl) (Nat.le_of_ble_eq_true rfl) dX7_init_38 (fun H1 hN1 z1 o1 hS => ?_)
  have hO := hO.kept (o1 _ (by omega))
  have hM := hM.keep (fun y h1 h2 => o1 y (by omega))
  have hM2 := hM2.keep (fun y h1 h2 => o1 y (by omega))
  have hWhi := hWhi.keep (fun y h1 h2 => o1 y (by omega))
  refine lv_dup hx hb dX7_init_41 rfl ?_
  refine kx_retN (va_runIN (As := []) (rest := [.ref (x + 357), .ref x]) ⟨hx, hb, hml, hown, hts⟩ (k_X1_init l D cs (x + 357) L aW aS aV tW tM (by omega)) ⟨va_cnB 0 hts gX7_init_X1_init_n28 rfl rfl rfl hN.1 (hts (.initialized RX1) (by decide +kernel)) (by decide +kernel) ⟨Nat.le_of_ble_eq_true rfl, Nat.le_of_ble_eq_true rfl⟩, rfl, hts (.instanceMethod yX1_init) (by decide +kernel)⟩ (kx_preB hK hN hX (hW.keptS hS hAL) ⟨hN1, z1⟩) rfl rfl hl.1 rfl (lv_room (Nat.le_of_ble_eq_true rfl)) dX7_init_42 ⟨Nat.le_of_ble_eq_true rfl, Nat.le_of_ble_eq_true rfl⟩) hS (fun y _ h => by have h2 : x + 357 ≤ y := h; show x ≤ y; omega) (fun y h => by have h2 : x + 357 ≤ y := h; show x ≤ y; omega) (fun H2 locs hMN hk hS => ?_)
  obtain ⟨hTx, hz2⟩ := hMN
  have hO := hO.kept (hk.2 _ hO.lt (fun h => by have h2 : x + 357 ≤ _ := h; omega))
  have hM := hM.frame hk (fun y h1 h3 h => by have h2 : x + 357 ≤ y := h; omega)
  have hM2 := hM2.frame hk (fun y h1 h3 h => by have h2 : x + 357 ≤ y := h; omega)
  have hWhi := hWhi.frame hk (fun y h1 h3 h => by have h2 : x + 357 ≤ y := h; omega)
  refine kx_putF hx hb hts hinX7 tyX7_ok nmX7 hown hK hO rfl hS (Nat.le_refl x) 3 (by decide) (by decide +kernel) rfl hin9 rfl rfl rfl (Nat.le_of_ble_eq_true rfl) dX7_init_45 (fun H3 locs hO hU hS => ?_)
  have hM := hM.off hU (by omega)
  have hM2 := hM2.off hU (by omega)
  have hWhi := hWhi.off hU (by omega)
  have hTx := hTx.off hU (by omega)
  have hz : H3.size = x + 360 := by rw [hU.1, hz2]
  clear hU hk hz2 z1 o1
  exact kx_vretN hx hb hrt hlk ⟨⟨hO, hM, hM2, hWhi, hTx.1, hTx.2.1, hTx.2.2⟩, hz⟩ hS (Nat.le_of_ble_eq_true rfl) (Nat.le_of_ble_eq_true rfl) dX7_init_48
