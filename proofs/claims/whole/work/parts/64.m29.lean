set_option maxHeartbeats 2500000 in
set_option maxRecDepth 100000 in
theorem k_J13_bitCount_95d88 (l : Launch) (D : va_G) (cs : Nat → ClassId) (z : Nat) (hz : z < 2 ^ 48) : Met l yJ13_bitCount_95d88 wsJ13_bitCount_95d88 ({ frames := 0, cells := 0, slots := 0, locals := 0 } : Room) (PcK D cs [.long (lN (z))] (fun H => True)) (QcP (some (.int (nI (ppK z 48))))) 0 0 nowhere := by
  refine kx_met (cc := cJ13_bitCount_95d88) (maxL := 2) (ret := (some .int)) (by decide) rfl (Nat.le_of_ble_eq_true rfl) ?_
  intro p en s m args below meth c hx hb hml hrt hts hown hlk hK hN hP ls hl
  have hl : lv_has ls 2 [(0, .long (lN (z)))] := hl
  refine lv_lload_n hx hb dJ13_bitCount_95d88_0 rfl (lv_at hl 0 rfl) ?_
  refine lv_lload_n hx hb dJ13_bitCount_95d88_1 rfl (lv_at hl 0 rfl) ?_
  refine lv_iconst (v := nI 1) hx hb dJ13_bitCount_95d88_2 (by decide) ?_
  refine kl_ushr hx hb (by omega) (by decide) dJ13_bitCount_95d88_3 ?_
  refine lv_ldc2 (v := lN 6148914691236517205) hx hb hown (hts (.constantLong RJ13 314 (lN 6148914691236517205)) (by decide +kernel)) dJ13_bitCount_95d88_4 ?_
  refine kl_and hx hb dJ13_bitCount_95d88_7 ?_
  refine kl_sub hx hb (Nat.le_trans Nat.and_le_left (Nat.div_le_self _ _)) dJ13_bitCount_95d88_8 ?_
  refine lv_lstore_n (lv' := [(0, .long (lN (z - ((z / 2 ^ 1) &&& 6148914691236517205))))]) hx hb dJ13_bitCount_95d88_9 rfl hl (by decide) rfl (fun ls hl => ?_)
  obtain ⟨x1, hx1⟩ : ∃ x1, x1 = z - ((z / 2 ^ 1) &&& 6148914691236517205) := ⟨_, rfl⟩
  rw [← hx1] at hl
  have hl : lv_has ls 2 [(0, .long (lN (x1)))] := hl
  have bx1 : x1 < 2 ^ 48 := (by omega)
  refine lv_lload_n hx hb dJ13_bitCount_95d88_10 rfl (lv_at hl 0 rfl) ?_
  refine lv_ldc2 (v := lN 3689348814741910323) hx hb hown (hts (.constantLong RJ13 316 (lN 3689348814741910323)) (by decide +kernel)) dJ13_bitCount_95d88_11 ?_
  refine kl_and hx hb dJ13_bitCount_95d88_14 ?_
  refine lv_lload_n hx hb dJ13_bitCount_95d88_15 rfl (lv_at hl 0 rfl) ?_
  refine lv_iconst (v := nI 2) hx hb dJ13_bitCount_95d88_16 (by decide) ?_
  refine kl_ushr hx hb (by omega) (by decide) dJ13_bitCount_95d88_17 ?_
  refine lv_ldc2 (v := lN 3689348814741910323) hx hb hown (hts (.constantLong RJ13 316 (lN 3689348814741910323)) (by decide +kernel)) dJ13_bitCount_95d88_18 ?_
  refine kl_and hx hb dJ13_bitCount_95d88_21 ?_
  refine kl_add hx hb dJ13_bitCount_95d88_22 ?_
  refine lv_lstore_n (lv' := [(0, .long (lN ((x1 &&& 3689348814741910323) + ((x1 / 2 ^ 2) &&& 3689348814741910323))))]) hx hb dJ13_bitCount_95d88_23 rfl hl (by decide) rfl (fun ls hl => ?_)
  obtain ⟨x2, hx2⟩ : ∃ x2, x2 = (x1 &&& 3689348814741910323) + ((x1 / 2 ^ 2) &&& 3689348814741910323) := ⟨_, rfl⟩
  rw [← hx2] at hl
  have hl : lv_has ls 2 [(0, .long (lN (x2)))] := hl
  have bx2 : x2 < 2 ^ 49 := (by have q1 : x1 &&& 3689348814741910323 ≤ x1 := Nat.and_le_left; have q2 : x1 / 2 ^ 2 &&& 3689348814741910323 ≤ x1 / 2 ^ 2 := Nat.and_le_left; omega)
  refine lv_lload_n hx hb dJ13_bitCount_95d88_24 rfl (lv_at hl 0 rfl) ?_
  refine lv_lload_n hx hb dJ13_bitCount_95d88_25 rfl (lv_at hl 0 rfl) ?_
  refine lv_iconst (v := nI 4) hx hb dJ13_bitCount_95d88_26 (by decide) ?_
  refine kl_ushr hx hb (by omega) (by decide) dJ13_bitCount_95d88_27 ?_
  refine kl_add hx hb dJ13_bitCount_95d88_28 ?_
  refine lv_ldc2 (v := lN 1085102592571150095) hx hb hown (hts (.constantLong RJ13 318 (lN 1085102592571150095)) (by decide +kernel)) dJ13_bitCount_95d88_29 ?_
  refine kl_and hx hb dJ13_bitCount_95d88_32 ?_
  refine lv_lstore_n (lv' := [(0, .long (lN ((x2 + (x2 / 2 ^ 4)) &&& 1085102592571150095)))]) hx hb dJ13_bitCount_95d88_33 rfl hl (by decide) rfl (fun ls hl => ?_)
  obtain ⟨x3, hx3⟩ : ∃ x3, x3 = (x2 + (x2 / 2 ^ 4)) &&& 1085102592571150095 := ⟨_, rfl⟩
  rw [← hx3] at hl
  have hl : lv_has ls 2 [(0, .long (lN (x3)))] := hl
  have bx3 : x3 < 2 ^ 50 := (by have q1 : (x2 + x2 / 2 ^ 4) &&& 1085102592571150095 ≤ x2 + x2 / 2 ^ 4 := Nat.and_le_left; omega)
  refine lv_lload_n hx hb dJ13_bitCount_95d88_34 rfl (lv_at hl 0 rfl) ?_
  refine lv_lload_n hx hb dJ13_bitCount_95d88_35 rfl (lv_at hl 0 rfl) ?_
  refine lv_bipush (v := nI 8) hx hb dJ13_bitCount_95d88_36 (by decide) ?_
  refine kl_ushr hx hb (by omega) (by decide) dJ13_bitCount_95d88_38 ?_
  refine kl_add hx hb dJ13_bitCount_95d88_39 ?_
  refine lv_lstore_n (lv' := [(0, .long (lN (x3 + (x3 / 2 ^ 8))))]) hx hb dJ13_bitCount_95d88_40 rfl hl (by decide) rfl (fun ls hl => ?_)
  obtain ⟨x4, hx4⟩ : ∃ x4, x4 = x3 + (x3 / 2 ^ 8) := ⟨_, rfl⟩
  rw [← hx4] at hl
  have hl : lv_has ls 2 [(0, .long (lN (x4)))] := hl
  have bx4 : x4 < 2 ^ 51 := (by omega)
  refine lv_lload_n hx hb dJ13_bitCount_95d88_41 rfl (lv_at hl 0 rfl) ?_
  refine lv_lload_n hx hb dJ13_bitCount_95d88_42 rfl (lv_at hl 0 rfl) ?_
  refine lv_bipush (v := nI 16) hx hb dJ13_bitCount_95d88_43 (by decide) ?_
  refine kl_ushr hx hb (by omega) (by decide) dJ13_bitCount_95d88_45 ?_
  refine kl_add hx hb dJ13_bitCount_95d88_46 ?_
  refine lv_lstore_n (lv' := [(0, .long (lN (x4 + (x4 / 2 ^ 16))))]) hx hb dJ13_bitCount_95d88_47 rfl hl (by decide) rfl (fun ls hl => ?_)
  obtain ⟨x5, hx5⟩ : ∃ x5, x5 = x4 + (x4 / 2 ^ 16) := ⟨_, rfl⟩
  rw [← hx5] at hl
  have hl : lv_has ls 2 [(0, .long (lN (x5)))] := hl
  have bx5 : x5 < 2 ^ 52 := (by omega)
  refine lv_lload_n hx hb dJ13_bitCount_95d88_48 rfl (lv_at hl 0 rfl) ?_
  refine lv_lload_n hx hb dJ13_bitCount_95d88_49 rfl (lv_at hl 0 rfl) ?_
  refine lv_bipush (v := nI 32) hx hb dJ13_bitCount_95d88_50 (by decide) ?_
  refine kl_ushr hx hb (by omega) (by decide) dJ13_bitCount_95d88_52 ?_
  refine kl_add hx hb dJ13_bitCount_95d88_53 ?_
  refine lv_lstore_n (lv' := [(0, .long (lN (x5 + (x5 / 2 ^ 32))))]) hx hb dJ13_bitCount_95d88_54 rfl hl (by decide) rfl (fun ls hl => ?_)
  obtain ⟨x6, hx6⟩ : ∃ x6, x6 = x5 + (x5 / 2 ^ 32) := ⟨_, rfl⟩
  rw [← hx6] at hl
  have hl : lv_has ls 2 [(0, .long (lN (x6)))] := hl
  have bx6 : x6 < 2 ^ 53 := (by omega)
  have hpop : x6 = popN z := by rw [hx6, hx5, hx4, hx3, hx2, hx1]; rfl
  refine lv_lload_n hx hb dJ13_bitCount_95d88_55 rfl (lv_at hl 0 rfl) ?_
  refine kl_l2i hx hb dJ13_bitCount_95d88_56 ?_
  refine lv_bipush (v := nI 127) hx hb dJ13_bitCount_95d88_57 (by decide) ?_
  refine kn_and hx hb dJ13_bitCount_95d88_59 ?_
  exact kx_iretP hx hb hrt hlk (by rw [hpop, (popN_is hz).1]) dJ13_bitCount_95d88_60
