set_option maxHeartbeats 2500000 in
set_option maxRecDepth 100000 in
theorem k_X5_meetsRing (l : Launch) (D : va_G) (cs : Nat → ClassId) (q : Nat) (e : Nat → Int32) (g : Nat → Int64) (x y : Int32) (hI : Inv e) : Met l yX5_meetsRing wsX5_meetsRing ({ frames := 0, cells := 0, slots := 0, locals := 0 } : Room) (PcK D cs [.ref (q), .int (x), .int (y)] (fun H => StC D cs q e g H)) (QcP (some (.int (bI (anyN (Rn e) (ovB e x y)))))) 0 0 nowhere := by
  refine kx_met (cc := cX5_meetsRing) (maxL := 5) (ret := (some .boolean)) (by decide) rfl (Nat.le_of_ble_eq_true rfl) ?_
  intro p en s m args below meth c hx hb hml hrt hts hown hlk hK hN hP ls hl
  have hl : lv_has ls 5 [(0, .ref (q)), (1, .int (x)), (2, .int (y))] := hl
  have hinX4 : ∀ w ∈ wsX40, w ∈ wsX5_meetsRing := by decide +kernel
  have hinX5 : ∀ w ∈ wsX50, w ∈ wsX5_meetsRing := by decide +kernel
  have hM := hP
  have h24 := hI.M24
  have h6 := hI.R6
  refine lv_iconst (v := nI 0) hx hb dX5_meetsRing_0 (by decide) ?_
  refine lv_istore_n (lv' := [(3, .int (nI (0))), (0, .ref (q)), (1, .int (x)), (2, .int (y))]) hx hb dX5_meetsRing_1 rfl hl (by decide) rfl (fun ls hl => ?_)
  have J2 : ∀ (fu2 : Nat) (k : Nat) (ls : Array Slot), (Rn e - k) < fu2 → (k ≤ Rn e) → (∀ j, j < k → ovB e x y j = false) → lv_has ls 5 [(0, .ref (q)), (1, .int (x)), (2, .int (y)), (3, .int (nI (k)))] → W p l en ({ frames := 0, cells := 0, slots := 0, locals := 0 } : Room) s m args below meth c s.heap [] 0 0 (MQ below (QcP (some (.int (bI (anyN (Rn e) (ovB e x y)))))) args s 0 0 nowhere) (F0 m 2 ls []) := by
    intro fu2; induction fu2 with
    | zero => intro k ls hmu2 hk hno hl; exact absurd hmu2 (Nat.not_lt_zero _)
    | succ fu2 ih2 =>
      intro k ls hmu2 hk hno hl
      refine lv_iload_n hx hb dX5_meetsRing_2 rfl (lv_at hl 3 rfl) ?_
      refine lv_aload_n hx hb dX5_meetsRing_3 rfl (lv_at hl 0 rfl) ?_
      refine kx_get (v := .int (e 3)) hx hb hts hinX5 hown hK hM.obj rfl 4 (by decide) (by decide +kernel) rfl dX5_meetsRing_4 ?_
      refine kx_ci (x := e 3) (y := nI (Rn e)) (Inv.z3 hI) ?_
      refine kn_icmp_ge (tgt := 52) hx hb dX5_meetsRing_7 (by decide) (by omega) (by omega) (fun c_1 => ?_) (fun c_1 => ?_)
      · refine lv_iconst (v := nI 0) hx hb dX5_meetsRing_52 (by decide) ?_
        exact kx_zretP hx hb hrt hlk (congrArg bI (anyN_false (fun j hj => hno j (by omega))).symm) dX5_meetsRing_53
      · have hkR : k < Rn e := by omega
        have hl16 := hI.l16 hkR
        refine lv_aload_n hx hb dX5_meetsRing_10 rfl (lv_at hl 0 rfl) ?_
        refine kx_get (v := .ref (q + 2)) hx hb hts hinX5 hown hK hM.obj rfl 1 (by decide) (by decide +kernel) rfl dX5_meetsRing_11 ?_
        refine lv_iload_n hx hb dX5_meetsRing_14 rfl (lv_at hl 3 rfl) ?_
        refine kx_aald (i := k) hx hb hK hM.rings 2 rfl (by omega) (by decide) rfl dX5_meetsRing_15 ?_
        refine lv_astore (lv' := [(4, .ref (q + 5 + k)), (0, .ref (q)), (1, .int (x)), (2, .int (y)), (3, .int (nI (k)))]) hx hb dX5_meetsRing_16 hl (by decide) rfl (fun ls hl => ?_)
        refine lv_iload_n hx hb dX5_meetsRing_18 rfl (lv_at hl 2 rfl) ?_
        refine lv_aload hx hb dX5_meetsRing_19 (lv_at hl 0 rfl) ?_
        refine kx_get (v := .int (e (56 + 4 * k + 0))) hx hb hts hinX4 hown hK (hM.rg (r := k) (by omega)) rfl 0 (by decide) (by decide +kernel) rfl dX5_meetsRing_21 ?_
        refine kx_ci (x := e (56 + 4 * k + 0)) (y := nI (rF e k)) (Inv.r0 hI (by first | assumption | omega)) ?_
        refine lv_aload hx hb dX5_meetsRing_24 (lv_at hl 0 rfl) ?_
        refine kx_get (v := .int (e (56 + 4 * k + 1))) hx hb hts hinX4 hown hK (hM.rg (r := k) (by omega)) rfl 1 (by decide) (by decide +kernel) rfl dX5_meetsRing_26 ?_
        refine kx_ci (x := e (56 + 4 * k + 1)) (y := nI (rL e k)) (Inv.r1 hI (by first | assumption | omega)) ?_
        refine kn_add hx hb dX5_meetsRing_29 ?_
        refine lv_icmp_ge (tgt := 46) hx hb dX5_meetsRing_30 (by decide) (fun hA => ?_) (fun hA => ?_)
        · refine lv_iinc (v := nI (k + 1)) (lv' := [(3, .int (nI (k + 1))), (4, .ref (q + 5 + k)), (0, .ref (q)), (1, .int (x)), (2, .int (y))]) (k := 4) hx hb dX5_meetsRing_46 hl rfl (nI_add _ _) (by decide) rfl (fun ls hl => ?_)
          refine lv_goto (tgt := 2) hx hb dX5_meetsRing_49 (by decide) ?_
          exact ih2 (k + 1) _ (by omega) (by omega) (no_s hno (by unfold ovB; simp [*])) (lv_sub hl [2, 3, 4, 0] rfl)
        · refine lv_aload hx hb dX5_meetsRing_33 (lv_at hl 0 rfl) ?_
          refine kx_get (v := .int (e (56 + 4 * k + 0))) hx hb hts hinX4 hown hK (hM.rg (r := k) (by omega)) rfl 0 (by decide) (by decide +kernel) rfl dX5_meetsRing_35 ?_
          refine kx_ci (x := e (56 + 4 * k + 0)) (y := nI (rF e k)) (Inv.r0 hI (by first | assumption | omega)) ?_
          refine lv_iload_n hx hb dX5_meetsRing_38 rfl (lv_at hl 2 rfl) ?_
          refine lv_iload_n hx hb dX5_meetsRing_39 rfl (lv_at hl 3 rfl) ?_
          refine lv_iadd hx hb dX5_meetsRing_40 ?_
          refine lv_icmp_ge (tgt := 46) hx hb dX5_meetsRing_41 (by decide) (fun hB => ?_) (fun hB => ?_)
          · refine lv_iinc (v := nI (k + 1)) (lv' := [(3, .int (nI (k + 1))), (4, .ref (q + 5 + k)), (0, .ref (q)), (1, .int (x)), (2, .int (y))]) (k := 4) hx hb dX5_meetsRing_46 hl rfl (nI_add _ _) (by decide) rfl (fun ls hl => ?_)
            refine lv_goto (tgt := 2) hx hb dX5_meetsRing_49 (by decide) ?_
            exact ih2 (k + 1) _ (by omega) (by omega) (no_s hno (by unfold ovB; simp [*])) (lv_sub hl [2, 3, 4, 0] rfl)
          · refine lv_iconst (v := nI 1) hx hb dX5_meetsRing_44 (by decide) ?_
            exact kx_zretP hx hb hrt hlk (congrArg bI (anyN_iff.mpr ⟨k, hkR, by unfold ovB; simp [*]⟩).symm) dX5_meetsRing_45
  exact J2 _ 0 _ (Nat.lt_succ_self _) (by omega) (fun j hj => absurd hj (Nat.not_lt_zero j)) (lv_sub hl [1, 2, 3, 0] rfl)
set_option maxHeartbeats 2500000 in
set_option maxRecDepth 100000 in
theorem k_X5_ringRefusal (l : Launch) (D : va_G) (cs : Nat → ClassId) (q : Nat) (e : Nat → Int32) (g : Nat → Int64) (f ln pt : Int32) (hI : Inv e) : Met l yX5_ringRefusal wsX5_ringRefusal ({ frames := 2, cells := 0, slots := 0, locals := 42 } : Room) (PcK D cs [.ref (q), .int (f), .int (ln), .int (pt)] (fun H => StC D cs q e g H)) (QcP (some (.int (nI (wrg e f ln pt))))) 0 0 nowhere := by
  refine kx_met (cc := cX5_ringRefusal) (maxL := 4) (ret := (some .int)) (by decide) rfl (Nat.le_of_ble_eq_true rfl) ?_
  intro p en s m args below meth c hx hb hml hrt hts hown hlk hK hN hP ls hl
  have hl : lv_has ls 4 [(0, .ref (q)), (1, .int (f)), (2, .int (ln)), (3, .int (pt))] := hl
  have hinX5 : ∀ w ∈ wsX50, w ∈ wsX5_ringRefusal := by decide +kernel
  have hM := hP
  have h24 := hI.M24
  have h6 := hI.R6
  refine lv_iload_n hx hb dX5_ringRefusal_0 rfl (lv_at hl 1 rfl) ?_
  refine kx_retP (va_runSN (As := [.int (f)]) (rest := []) ⟨hx, hb, hml, hown, hts⟩ (k_X7_isCell l D cs f) ⟨va_cnB 1 hts ggX5_ringRefusal_X7_isCell rfl rfl rfl hN.2.2.2.2.1 (hts (.initialized RX7) (by decide +kernel)) (by decide +kernel) ⟨Nat.le_of_ble_eq_true rfl, Nat.le_of_ble_eq_true rfl⟩, hts (.static yX7_isCell) (by decide +kernel), trivial⟩ (kx_preS hK hN trivial) rfl rfl hl.1 rfl (lv_room (Nat.le_of_ble_eq_true rfl)) dX5_ringRefusal_1 ⟨Nat.le_of_ble_eq_true rfl, Nat.le_of_ble_eq_true rfl⟩) ?_
  refine kb_if_ne (tgt := 9) hx hb dX5_ringRefusal_4 (by decide) (fun c_1 => ?_) (fun c_1 => ?_)
  · refine lv_iload_n hx hb dX5_ringRefusal_9 rfl (lv_at hl 2 rfl) ?_
    refine lv_iconst (v := nI 2) hx hb dX5_ringRefusal_10 (by decide) ?_
    refine lv_bipush (v := nI 16) hx hb dX5_ringRefusal_11 (by decide) ?_
    refine kx_retP (va_runSN (As := [.int (ln), .int (nI (2)), .int (nI (16))]) (rest := []) ⟨hx, hb, hml, hown, hts⟩ (k_X7_isWithin l D cs ln (nI (2)) (nI (16))) ⟨va_cnB 3 hts ggX5_ringRefusal_X7_isWithin rfl rfl rfl hN.2.2.2.2.2.1 (hts (.initialized RX7) (by decide +kernel)) (by decide +kernel) ⟨Nat.le_of_ble_eq_true rfl, Nat.le_of_ble_eq_true rfl⟩, hts (.static yX7_isWithin) (by decide +kernel), trivial⟩ (kx_preS hK hN trivial) rfl rfl hl.1 rfl (lv_room (Nat.le_of_ble_eq_true rfl)) dX5_ringRefusal_13 ⟨Nat.le_of_ble_eq_true rfl, Nat.le_of_ble_eq_true rfl⟩) ?_
    refine kb_if_eq (tgt := 37) hx hb dX5_ringRefusal_16 (by decide) (fun c_2 => ?_) (fun c_2 => ?_)
    · refine lv_iconst (v := nI 2) hx hb dX5_ringRefusal_37 (by decide) ?_
      exact kx_iretP hx hb hrt hlk (congrArg nI (by first | (simp [wrg, *]; done) | (exfalso; omega) | (exfalso; simp_all; done))) dX5_ringRefusal_38
    · refine lv_iload_n hx hb dX5_ringRefusal_19 rfl (lv_at hl 3 rfl) ?_
      refine lv_iconst (v := nI 0) hx hb dX5_ringRefusal_20 (by decide) ?_
      refine lv_bipush (v := nI 50) hx hb dX5_ringRefusal_21 (by decide) ?_
      refine kx_retP (va_runSN (As := [.int (pt), .int (nI (0)), .int (nI (50))]) (rest := []) ⟨hx, hb, hml, hown, hts⟩ (k_X7_isWithin l D cs pt (nI (0)) (nI (50))) ⟨va_cnB 3 hts ggX5_ringRefusal_X7_isWithin rfl rfl rfl hN.2.2.2.2.2.1 (hts (.initialized RX7) (by decide +kernel)) (by decide +kernel) ⟨Nat.le_of_ble_eq_true rfl, Nat.le_of_ble_eq_true rfl⟩, hts (.static yX7_isWithin) (by decide +kernel), trivial⟩ (kx_preS hK hN trivial) rfl rfl hl.1 rfl (lv_room (Nat.le_of_ble_eq_true rfl)) dX5_ringRefusal_23 ⟨Nat.le_of_ble_eq_true rfl, Nat.le_of_ble_eq_true rfl⟩) ?_
      refine kb_if_eq (tgt := 37) hx hb dX5_ringRefusal_26 (by decide) (fun c_3 => ?_) (fun c_3 => ?_)
      · refine lv_iconst (v := nI 2) hx hb dX5_ringRefusal_37 (by decide) ?_
        exact kx_iretP hx hb hrt hlk (congrArg nI (by first | (simp [wrg, *]; done) | (exfalso; omega) | (exfalso; simp_all; done))) dX5_ringRefusal_38
      · refine lv_iload_n hx hb dX5_ringRefusal_29 rfl (lv_at hl 1 rfl) ?_
        refine lv_iload_n hx hb dX5_ringRefusal_30 rfl (lv_at hl 2 rfl) ?_
        refine lv_iadd hx hb dX5_ringRefusal_31 ?_
        refine lv_bipush (v := nI 48) hx hb dX5_ringRefusal_32 (by decide) ?_
        refine lv_icmp_le (tgt := 39) hx hb dX5_ringRefusal_34 (by decide) (fun c_4 => ?_) (fun c_4 => ?_)
        · refine lv_aload_n hx hb dX5_ringRefusal_39 rfl (lv_at hl 0 rfl) ?_
          refine kx_get (v := .int (e 3)) hx hb hts hinX5 hown hK hM.obj rfl 4 (by decide) (by decide +kernel) rfl dX5_ringRefusal_40 ?_
          refine kx_ci (x := e 3) (y := nI (Rn e)) (Inv.z3 hI) ?_
          refine lv_bipush (v := nI 6) hx hb dX5_ringRefusal_43 (by decide) ?_
          refine kn_icmp_ge (tgt := 57) hx hb dX5_ringRefusal_45 (by decide) (by omega) (by decide) (fun h45 => ?_) (fun h45 => ?_)
          · refine lv_iconst (v := nI 3) hx hb dX5_ringRefusal_57 (by decide) ?_
            refine lv_goto (tgt := 62) hx hb dX5_ringRefusal_58 (by decide) ?_
            exact kx_iretP hx hb hrt hlk (congrArg nI (by rw [wrg_any (by omega)]; simp [*])) dX5_ringRefusal_62
          · refine lv_aload_n hx hb dX5_ringRefusal_48 rfl (lv_at hl 0 rfl) ?_
            refine lv_iload_n hx hb dX5_ringRefusal_49 rfl (lv_at hl 1 rfl) ?_
            refine lv_iload_n hx hb dX5_ringRefusal_50 rfl (lv_at hl 2 rfl) ?_
            refine kx_retP (va_runV (As := [.int (f), .int (ln)]) (rest := []) ⟨hx, hb, hml, hown, hts⟩ (k_X5_meetsRing l D cs q e g f ln hI) (cwV 2 hts gX5_ringRefusal_X5_meetsRing rfl rfl rfl (by decide +kernel) ⟨Nat.le_of_ble_eq_true rfl, Nat.le_of_ble_eq_true rfl⟩) (kx_preV hK hN hM.obj rfl hM) rfl rfl hl.1 rfl (lv_room (Nat.le_of_ble_eq_true rfl)) dX5_ringRefusal_51 ⟨Nat.le_of_ble_eq_true rfl, Nat.le_of_ble_eq_true rfl⟩) ?_
            refine kb_if_eq (tgt := 61) hx hb dX5_ringRefusal_54 (by decide) (fun h54 => ?_) (fun h54 => ?_)
            · refine lv_iconst (v := nI 0) hx hb dX5_ringRefusal_61 (by decide) ?_
              exact kx_iretP hx hb hrt hlk (congrArg nI (by rw [wrg_any (by omega)]; simp [*])) dX5_ringRefusal_62
            · refine lv_iconst (v := nI 3) hx hb dX5_ringRefusal_57 (by decide) ?_
              refine lv_goto (tgt := 62) hx hb dX5_ringRefusal_58 (by decide) ?_
              exact kx_iretP hx hb hrt hlk (congrArg nI (by rw [wrg_any (by omega)]; simp [*])) dX5_ringRefusal_62
        · refine lv_iconst (v := nI 2) hx hb dX5_ringRefusal_37 (by decide) ?_
          exact kx_iretP hx hb hrt hlk (congrArg nI (by first | (simp [wrg, *]; done) | (exfalso; omega) | (exfalso; simp_all; done))) dX5_ringRefusal_38
  · refine lv_iconst (v := nI 1) hx hb dX5_ringRefusal_7 (by decide) ?_
    exact kx_iretP hx hb hrt hlk (congrArg nI (by first | (simp [wrg, *]; done) | (exfalso; omega) | (exfalso; simp_all; done))) dX5_ringRefusal_8
set_option maxHeartbeats 2500000 in
set_option maxRecDepth 100000 in
theorem k_X5_putRing (l : Launch) (D : va_G) (cs : Nat → ClassId) (q : Nat) (e : Nat → Int32) (g : Nat → Int64) (f ln pt : Int32) (hI : Inv e) (hR : Rn e < 6) : Met l yX5_putRing wsX5_putRing ({ frames := 0, cells := 0, slots := 0, locals := 0 } : Room) (PcK D cs [.ref (q), .int (f), .int (ln), .int (pt)] (fun H => StC D cs q e g H)) (QcM (some (.int (nI (Rn e)))) (fun H => StC D cs q (prF e f ln pt) g H) (rgS q)) 0 0 ((rgS q)) := by
  refine kx_met (cc := cX5_putRing) (maxL := 5) (ret := (some .int)) (by decide) rfl (Nat.le_of_ble_eq_true rfl) ?_
  intro p en s m args below meth c hx hb hml hrt hts hown hlk hK hN hP ls hl
  have hl : lv_has ls 5 [(0, .ref (q)), (1, .int (f)), (2, .int (ln)), (3, .int (pt))] := hl
  obtain ⟨H, hHe⟩ : ∃ H : Heap, H = s.heap := ⟨_, rfl⟩
  rw [← hHe] at hP ⊢
  have hS : va_S ((rgS q)) s.heap H [] := by rw [← hHe]; exact va_S.rf
  have hinX4 : ∀ w ∈ wsX40, w ∈ wsX5_putRing := by decide +kernel
  have hinX5 : ∀ w ∈ wsX50, w ∈ wsX5_putRing := by decide +kernel
  have hM := hP
  have h24 := hI.M24
  have h6 := hI.R6
  refine lv_aload_n hx hb dX5_putRing_0 rfl (lv_at hl 0 rfl) ?_
  refine kx_get (v := .ref (q + 2)) hx hb hts hinX5 hown hK hM.obj rfl 1 (by decide) (by decide +kernel) rfl dX5_putRing_1 ?_
  refine lv_aload_n hx hb dX5_putRing_4 rfl (lv_at hl 0 rfl) ?_
  refine kx_get (v := .int (e 3)) hx hb hts hinX5 hown hK hM.obj rfl 4 (by decide) (by decide +kernel) rfl dX5_putRing_5 ?_
  refine kx_ci (x := e 3) (y := nI (Rn e)) (Inv.z3 hI) ?_
  refine kx_aald (i := Rn e) hx hb hK hM.rings 2 rfl (by omega) (by decide) rfl dX5_putRing_8 ?_
  refine lv_astore (lv' := [(4, .ref (q + 5 + (Rn e))), (0, .ref (q)), (1, .int (f)), (2, .int (ln)), (3, .int (pt))]) hx hb dX5_putRing_9 hl (by decide) rfl (fun ls hl => ?_)
  refine lv_aload hx hb dX5_putRing_11 (lv_at hl 0 rfl) ?_
  refine lv_iload_n hx hb dX5_putRing_13 rfl (lv_at hl 2 rfl) ?_
  refine kx_put hx hb hts hinX4 tyX4_ok nmX4 hown hK (hM.rg (r := Rn e) (by omega)) rfl hS ⟨by omega, by omega⟩ 0 (by decide) (by decide +kernel) rfl rfl rfl (Nat.le_of_ble_eq_true rfl) dX5_putRing_14 (fun H locs hc hU hS => ?_)
  have hM := hM.put_first (r := Rn e) (by omega) hc hU
  clear hc hU
  refine lv_aload hx hb dX5_putRing_17 (lv_at hl 0 rfl) ?_
  refine lv_iload_n hx hb dX5_putRing_19 rfl (lv_at hl 3 rfl) ?_
  refine kx_put hx hb hts hinX4 tyX4_ok nmX4 hown hK (hM.rg (r := Rn e) (by omega)) rfl hS ⟨by omega, by omega⟩ 1 (by decide) (by decide +kernel) rfl rfl rfl (Nat.le_of_ble_eq_true rfl) dX5_putRing_20 (fun H locs hc hU hS => ?_)
  have hM := hM.put_length (r := Rn e) (by omega) hc hU
  clear hc hU
  refine lv_aload hx hb dX5_putRing_23 (lv_at hl 0 rfl) ?_
  refine lv_iload_n hx hb dX5_putRing_25 rfl (lv_at hl 4 rfl) ?_
  refine kx_put hx hb hts hinX4 tyX4_ok nmX4 hown hK (hM.rg (r := Rn e) (by omega)) rfl hS ⟨by omega, by omega⟩ 2 (by decide) (by decide +kernel) rfl rfl rfl (Nat.le_of_ble_eq_true rfl) dX5_putRing_26 (fun H locs hc hU hS => ?_)
  have hM := hM.put_patience (r := Rn e) (by omega) hc hU
  clear hc hU
  refine lv_aload hx hb dX5_putRing_29 (lv_at hl 0 rfl) ?_
  refine lv_iconst (v := nI 0) hx hb dX5_putRing_31 (by decide) ?_
  refine kx_put hx hb hts hinX4 tyX4_ok nmX4 hown hK (hM.rg (r := Rn e) (by omega)) rfl hS ⟨by omega, by omega⟩ 3 (by decide) (by decide +kernel) rfl rfl rfl (Nat.le_of_ble_eq_true rfl) dX5_putRing_32 (fun H locs hc hU hS => ?_)
  have hM := hM.put_strikes (r := Rn e) (by omega) hc hU
  clear hc hU
  refine lv_aload_n hx hb dX5_putRing_35 rfl (lv_at hl 1 rfl) ?_
  refine lv_dup hx hb dX5_putRing_36 rfl ?_
  refine kx_get (v := .int ((upd (upd (upd (upd e (56 + 4 * (Rn e) + 0) f) (56 + 4 * (Rn e) + 1) ln) (56 + 4 * (Rn e) + 2) pt) (56 + 4 * (Rn e) + 3) (nI (0))) 3)) hx hb hts hinX5 hown hK hM.obj rfl 4 (by decide) (by decide +kernel) rfl dX5_putRing_37 ?_
  refine kx_ci (x := (upd (upd (upd (upd e (56 + 4 * (Rn e) + 0) f) (56 + 4 * (Rn e) + 1) ln) (56 + 4 * (Rn e) + 2) pt) (56 + 4 * (Rn e) + 3) (nI (0))) 3) (y := nI (Rn e)) (by simp only [upd_at]; (repeat rw [if_neg (by omega)]); exact hI.z3) ?_
  refine lv_iconst (v := nI 1) hx hb dX5_putRing_40 (by decide) ?_
  refine kn_add hx hb dX5_putRing_41 ?_
  refine kx_put hx hb hts hinX5 tyX5_ok nmX5 hown hK hM.obj rfl hS ⟨by omega, by omega⟩ 4 (by decide) (by decide +kernel) rfl rfl rfl (Nat.le_of_ble_eq_true rfl) dX5_putRing_42 (fun H locs hc hU hS => ?_)
  have hM := hM.put_ringCount hc hU
  clear hc hU
  refine lv_aload_n hx hb dX5_putRing_45 rfl (lv_at hl 1 rfl) ?_
  refine kx_get (v := .int ((upd (upd (upd (upd (upd e (56 + 4 * (Rn e) + 0) f) (56 + 4 * (Rn e) + 1) ln) (56 + 4 * (Rn e) + 2) pt) (56 + 4 * (Rn e) + 3) (nI (0))) 3 (nI (Rn e + 1))) 3)) hx hb hts hinX5 hown hK hM.obj rfl 4 (by decide) (by decide +kernel) rfl dX5_putRing_46 ?_
  refine kx_ci (x := (upd (upd (upd (upd (upd e (56 + 4 * (Rn e) + 0) f) (56 + 4 * (Rn e) + 1) ln) (56 + 4 * (Rn e) + 2) pt) (56 + 4 * (Rn e) + 3) (nI (0))) 3 (nI (Rn e + 1))) 3) (y := nI (Rn e + 1)) pk_us ?_
  refine lv_iconst (v := nI 1) hx hb dX5_putRing_49 (by decide) ?_
  refine kn_sub hx hb (by omega) dX5_putRing_50 ?_
  exact kx_iretM hx hb hrt hlk (congrArg nI (by omega)) hM hS dX5_putRing_51
set_option maxHeartbeats 2500000 in
set_option maxRecDepth 100000 in
theorem k_X5_settingRefusal (l : Launch) (D : va_G) (cs : Nat → ClassId) (x y : Int32) : Met l yX5_settingRefusal wsX5_settingRefusal ({ frames := 1, cells := 0, slots := 0, locals := 22 } : Room) (PcK D cs [.int (x), .int (y)] (fun H => True)) (QcP (some (.int (nI (c12 (wse x y)))))) 0 0 nowhere := by
  refine kx_met (cc := cX5_settingRefusal) (maxL := 2) (ret := (some .int)) (by decide) rfl (Nat.le_of_ble_eq_true rfl) ?_
  intro p en s m args below meth c hx hb hml hrt hts hown hlk hK hN hP ls hl
  have hl : lv_has ls 2 [(0, .int (x)), (1, .int (y))] := hl
  refine lv_iload_n hx hb dX5_settingRefusal_0 rfl (lv_at hl 0 rfl) ?_
  refine lv_iconst (v := nI 0) hx hb dX5_settingRefusal_1 (by decide) ?_
  refine lv_iconst (v := nI 1) hx hb dX5_settingRefusal_2 (by decide) ?_
  refine kx_retP (va_runSN (As := [.int (x), .int (nI (0)), .int (nI (1))]) (rest := []) ⟨hx, hb, hml, hown, hts⟩ (k_X7_isWithin l D cs x (nI (0)) (nI (1))) ⟨va_cnB 3 hts ggX5_settingRefusal_X7_isWithin rfl rfl rfl hN.2.2.2.2.2.1 (hts (.initialized RX7) (by decide +kernel)) (by decide +kernel) ⟨Nat.le_of_ble_eq_true rfl, Nat.le_of_ble_eq_true rfl⟩, hts (.static yX7_isWithin) (by decide +kernel), trivial⟩ (kx_preS hK hN trivial) rfl rfl hl.1 rfl (lv_room (Nat.le_of_ble_eq_true rfl)) dX5_settingRefusal_3 ⟨Nat.le_of_ble_eq_true rfl, Nat.le_of_ble_eq_true rfl⟩) ?_
  refine kb_if_ne (tgt := 11) hx hb dX5_settingRefusal_6 (by decide) (fun c_1 => ?_) (fun c_1 => ?_)
  · refine lv_iload_n hx hb dX5_settingRefusal_11 rfl (lv_at hl 1 rfl) ?_
    refine lv_iconst (v := nI 1) hx hb dX5_settingRefusal_12 (by decide) ?_
    refine lv_iload_n hx hb dX5_settingRefusal_13 rfl (lv_at hl 0 rfl) ?_
    refine lv_if_ne (tgt := 22) hx hb dX5_settingRefusal_14 (by decide) (fun h14 => ?_) (fun h14 => ?_)
    · refine lv_iconst (v := nI 4) hx hb dX5_settingRefusal_22 (by decide) ?_
      refine kx_retP (va_runSN (As := [.int (y), .int (nI (1)), .int (nI (4))]) (rest := []) ⟨hx, hb, hml, hown, hts⟩ (k_X7_isWithin l D cs y (nI (1)) (nI (4))) ⟨va_cnB 3 hts ggX5_settingRefusal_X7_isWithin rfl rfl rfl hN.2.2.2.2.2.1 (hts (.initialized RX7) (by decide +kernel)) (by decide +kernel) ⟨Nat.le_of_ble_eq_true rfl, Nat.le_of_ble_eq_true rfl⟩, hts (.static yX7_isWithin) (by decide +kernel), trivial⟩ (kx_preS hK hN trivial) rfl rfl hl.1 rfl (lv_room (Nat.le_of_ble_eq_true rfl)) dX5_settingRefusal_23 ⟨Nat.le_of_ble_eq_true rfl, Nat.le_of_ble_eq_true rfl⟩) ?_
      refine kb_if_eq (tgt := 33) hx hb dX5_settingRefusal_26 (by decide) (fun c_2 => ?_) (fun c_2 => ?_)
      · refine lv_iconst (v := nI 2) hx hb dX5_settingRefusal_33 (by decide) ?_
        exact kx_iretP hx hb hrt hlk (congrArg nI (by first | exact (set_0 (by assumption) h14 (by assumption)) | exact (set_1 (by assumption) h14 (by assumption)))) dX5_settingRefusal_34
      · refine lv_iconst (v := nI 0) hx hb dX5_settingRefusal_29 (by decide) ?_
        refine lv_goto (tgt := 34) hx hb dX5_settingRefusal_30 (by decide) ?_
        exact kx_iretP hx hb hrt hlk (congrArg nI (by first | exact (set_0 (by assumption) h14 (by assumption)) | exact (set_1 (by assumption) h14 (by assumption)))) dX5_settingRefusal_34
    · refine lv_bipush (v := nI 8) hx hb dX5_settingRefusal_17 (by decide) ?_
      refine lv_goto (tgt := 23) hx hb dX5_settingRefusal_19 (by decide) ?_
      refine kx_retP (va_runSN (As := [.int (y), .int (nI (1)), .int (nI (8))]) (rest := []) ⟨hx, hb, hml, hown, hts⟩ (k_X7_isWithin l D cs y (nI (1)) (nI (8))) ⟨va_cnB 3 hts ggX5_settingRefusal_X7_isWithin rfl rfl rfl hN.2.2.2.2.2.1 (hts (.initialized RX7) (by decide +kernel)) (by decide +kernel) ⟨Nat.le_of_ble_eq_true rfl, Nat.le_of_ble_eq_true rfl⟩, hts (.static yX7_isWithin) (by decide +kernel), trivial⟩ (kx_preS hK hN trivial) rfl rfl hl.1 rfl (lv_room (Nat.le_of_ble_eq_true rfl)) dX5_settingRefusal_23 ⟨Nat.le_of_ble_eq_true rfl, Nat.le_of_ble_eq_true rfl⟩) ?_
      refine kb_if_eq (tgt := 33) hx hb dX5_settingRefusal_26 (by decide) (fun c_3 => ?_) (fun c_3 => ?_)
      · refine lv_iconst (v := nI 2) hx hb dX5_settingRefusal_33 (by decide) ?_
        exact kx_iretP hx hb hrt hlk (congrArg nI (by first | exact (set_0 (by assumption) h14 (by assumption)) | exact (set_1 (by assumption) h14 (by assumption)))) dX5_settingRefusal_34
      · refine lv_iconst (v := nI 0) hx hb dX5_settingRefusal_29 (by decide) ?_
        refine lv_goto (tgt := 34) hx hb dX5_settingRefusal_30 (by decide) ?_
        exact kx_iretP hx hb hrt hlk (congrArg nI (by first | exact (set_0 (by assumption) h14 (by assumption)) | exact (set_1 (by assumption) h14 (by assumption)))) dX5_settingRefusal_34
  · refine lv_iconst (v := nI 2) hx hb dX5_settingRefusal_9 (by decide) ?_
    exact kx_iretP hx hb hrt hlk (congrArg nI (set_no (by assumption))) dX5_settingRefusal_10
set_option maxHeartbeats 2500000 in
set_option maxRecDepth 100000 in
theorem k_X5_putSetting (l : Launch) (D : va_G) (cs : Nat → ClassId) (q : Nat) (e : Nat → Int32) (g : Nat → Int64) (w : Nat) (v : Int32) (hw : w < 2) : Met l yX5_putSetting wsX5_putSetting ({ frames := 0, cells := 0, slots := 0, locals := 0 } : Room) (PcK D cs [.ref (q), .int (nI (w)), .int (v)] (fun H => StC D cs q e g H)) (QcM (some (.int (e (1 + w)))) (fun H => StC D cs q (upd e (1 + w) v) g H) (rgS q)) 0 0 ((rgS q)) := by
  refine kx_met (cc := cX5_putSetting) (maxL := 4) (ret := (some .int)) (by decide) rfl (Nat.le_of_ble_eq_true rfl) ?_
  intro p en s m args below meth c hx hb hml hrt hts hown hlk hK hN hP ls hl
  have hl : lv_has ls 4 [(0, .ref (q)), (1, .int (nI (w))), (2, .int (v))] := hl
  obtain ⟨H, hHe⟩ : ∃ H : Heap, H = s.heap := ⟨_, rfl⟩
  rw [← hHe] at hP ⊢
  have hS : va_S ((rgS q)) s.heap H [] := by rw [← hHe]; exact va_S.rf
  have hinX5 : ∀ w ∈ wsX50, w ∈ wsX5_putSetting := by decide +kernel
  have hM := hP
  refine lv_iload_n hx hb dX5_putSetting_0 rfl (lv_at hl 1 rfl) ?_
  refine kn_if_ne (tgt := 11) hx hb dX5_putSetting_1 (by decide) (by omega) (fun h1 => ?_) (fun h1 => ?_)
  · refine lv_aload_n hx hb dX5_putSetting_11 rfl (lv_at hl 0 rfl) ?_
    refine kx_get (v := .int (e 2)) hx hb hts hinX5 hown hK hM.obj rfl 7 (by decide) (by decide +kernel) rfl dX5_putSetting_12 ?_
    refine lv_istore_n (lv' := [(3, .int (e 2)), (0, .ref (q)), (1, .int (nI (w))), (2, .int (v))]) hx hb dX5_putSetting_15 rfl hl (by decide) rfl (fun ls hl => ?_)
    refine lv_iload_n hx hb dX5_putSetting_16 rfl (lv_at hl 2 rfl) ?_
    refine kn_if_ne (tgt := 28) hx hb dX5_putSetting_17 (by decide) (by omega) (fun h17 => ?_) (fun h17 => ?_)
    · refine lv_aload_n hx hb dX5_putSetting_28 rfl (lv_at hl 1 rfl) ?_
      refine lv_iload_n hx hb dX5_putSetting_29 rfl (lv_at hl 3 rfl) ?_
      refine kx_put hx hb hts hinX5 tyX5_ok nmX5 hown hK hM.obj rfl hS ⟨by omega, by omega⟩ 7 (by decide) (by decide +kernel) rfl rfl rfl (Nat.le_of_ble_eq_true rfl) dX5_putSetting_30 (fun H locs hc hU hS => ?_)
      have hM := hM.put_lanes hc hU
      clear hc hU
      refine lv_iload_n hx hb dX5_putSetting_33 rfl (lv_at hl 0 rfl) ?_
      exact kx_iretM hx hb hrt hlk (congrArg e (by omega)) (by first | (rw [show 1 + w = 1 by omega]; exact hM) | (rw [show 1 + w = 2 by omega]; exact hM)) hS dX5_putSetting_34
    · refine lv_aload_n hx hb dX5_putSetting_20 rfl (lv_at hl 1 rfl) ?_
      refine lv_iload_n hx hb dX5_putSetting_21 rfl (lv_at hl 3 rfl) ?_
      refine kx_put hx hb hts hinX5 tyX5_ok nmX5 hown hK hM.obj rfl hS ⟨by omega, by omega⟩ 6 (by decide) (by decide +kernel) rfl rfl rfl (Nat.le_of_ble_eq_true rfl) dX5_putSetting_22 (fun H locs hc hU hS => ?_)
      have hM := hM.put_speed hc hU
      clear hc hU
      refine lv_goto (tgt := 33) hx hb dX5_putSetting_25 (by decide) ?_
      refine lv_iload_n hx hb dX5_putSetting_33 rfl (lv_at hl 0 rfl) ?_
      exact kx_iretM hx hb hrt hlk (congrArg e (by omega)) (by first | (rw [show 1 + w = 1 by omega]; exact hM) | (rw [show 1 + w = 2 by omega]; exact hM)) hS dX5_putSetting_34
  · refine lv_aload_n hx hb dX5_putSetting_4 rfl (lv_at hl 0 rfl) ?_
    refine kx_get (v := .int (e 1)) hx hb hts hinX5 hown hK hM.obj rfl 6 (by decide) (by decide +kernel) rfl dX5_putSetting_5 ?_
    refine lv_goto (tgt := 15) hx hb dX5_putSetting_8 (by decide) ?_
    refine lv_istore_n (lv' := [(3, .int (e 1)), (0, .ref (q)), (1, .int (nI (w))), (2, .int (v))]) hx hb dX5_putSetting_15 rfl hl (by decide) rfl (fun ls hl => ?_)
    refine lv_iload_n hx hb dX5_putSetting_16 rfl (lv_at hl 2 rfl) ?_
    refine kn_if_ne (tgt := 28) hx hb dX5_putSetting_17 (by decide) (by omega) (fun h17 => ?_) (fun h17 => ?_)
    · refine lv_aload_n hx hb dX5_putSetting_28 rfl (lv_at hl 1 rfl) ?_
      refine lv_iload_n hx hb dX5_putSetting_29 rfl (lv_at hl 3 rfl) ?_
      refine kx_put hx hb hts hinX5 tyX5_ok nmX5 hown hK hM.obj rfl hS ⟨by omega, by omega⟩ 7 (by decide) (by decide +kernel) rfl rfl rfl (Nat.le_of_ble_eq_true rfl) dX5_putSetting_30 (fun H locs hc hU hS => ?_)
      have hM := hM.put_lanes hc hU
      clear hc hU
      refine lv_iload_n hx hb dX5_putSetting_33 rfl (lv_at hl 0 rfl) ?_
      exact kx_iretM hx hb hrt hlk (congrArg e (by omega)) (by first | (rw [show 1 + w = 1 by omega]; exact hM) | (rw [show 1 + w = 2 by omega]; exact hM)) hS dX5_putSetting_34
    · refine lv_aload_n hx hb dX5_putSetting_20 rfl (lv_at hl 1 rfl) ?_
      refine lv_iload_n hx hb dX5_putSetting_21 rfl (lv_at hl 3 rfl) ?_
      refine kx_put hx hb hts hinX5 tyX5_ok nmX5 hown hK hM.obj rfl hS ⟨by omega, by omega⟩ 6 (by decide) (by decide +kernel) rfl rfl rfl (Nat.le_of_ble_eq_true rfl) dX5_putSetting_22 (fun H locs hc hU hS => ?_)
      have hM := hM.put_speed hc hU
      clear hc hU
      refine lv_goto (tgt := 33) hx hb dX5_putSetting_25 (by decide) ?_
      refine lv_iload_n hx hb dX5_putSetting_33 rfl (lv_at hl 0 rfl) ?_
      exact kx_iretM hx hb hrt hlk (congrArg e (by omega)) (by first | (rw [show 1 + w = 1 by omega]; exact hM) | (rw [show 1 + w = 2 by omega]; exact hM)) hS dX5_putSetting_34
set_option maxHeartbeats 2500000 in
set_option maxRecDepth 100000 in
theorem k_X5_valueRefusal (l : Launch) (D : va_G) (cs : Nat → ClassId) (q : Nat) (e : Nat → Int32) (g : Nat → Int64) (x y : Int32) (hI : Inv e) (hG : Msk e g) : Met l yX5_valueRefusal wsX5_valueRefusal ({ frames := 3, cells := 0, slots := 0, locals := 72 } : Room) (PcK D cs [.ref (q), .int (x), .int (y)] (fun H => StC D cs q e g H)) (QcP (some (.int (nI (wwr e x y))))) 0 0 nowhere := by
  refine kx_met (cc := cX5_valueRefusal) (maxL := 3) (ret := (some .int)) (by decide) rfl (Nat.le_of_ble_eq_true rfl) ?_
  intro p en s m args below meth c hx hb hml hrt hts hown hlk hK hN hP ls hl
  have hl : lv_has ls 3 [(0, .ref (q)), (1, .int (x)), (2, .int (y))] := hl
  have hM := hP
  have h24 := hI.M24
  have h6 := hI.R6
  refine lv_iload_n hx hb dX5_valueRefusal_0 rfl (lv_at hl 1 rfl) ?_
  refine kx_retP (va_runSN (As := [.int (x)]) (rest := []) ⟨hx, hb, hml, hown, hts⟩ (k_X7_isCell l D cs x) ⟨va_cnB 1 hts ggX5_valueRefusal_X7_isCell rfl rfl rfl hN.2.2.2.2.1 (hts (.initialized RX7) (by decide +kernel)) (by decide +kernel) ⟨Nat.le_of_ble_eq_true rfl, Nat.le_of_ble_eq_true rfl⟩, hts (.static yX7_isCell) (by decide +kernel), trivial⟩ (kx_preS hK hN trivial) rfl rfl hl.1 rfl (lv_room (Nat.le_of_ble_eq_true rfl)) dX5_valueRefusal_1 ⟨Nat.le_of_ble_eq_true rfl, Nat.le_of_ble_eq_true rfl⟩) ?_
  refine kb_if_ne (tgt := 9) hx hb dX5_valueRefusal_4 (by decide) (fun hq => ?_) (fun hq => ?_)
  · obtain ⟨q0, hq48, rfl⟩ := cell_of hq
    have hnq : nn (nI q0) = q0 := nn_nI (by omega)
    have hbr := barN_is e q0
    have hbl : barN e q0 < 4 := by rw [hbr]; exact Nat.mod_lt _ (by decide)
    refine lv_iload_n hx hb dX5_valueRefusal_9 rfl (lv_at hl 2 rfl) ?_
    refine lv_sipush (v := -999) hx hb dX5_valueRefusal_10 (by decide) ?_
    refine lv_sipush (v := nI 999) hx hb dX5_valueRefusal_13 (by decide) ?_
    refine kx_retP (va_runSN (As := [.int (y), .int ((-999)), .int (nI (999))]) (rest := []) ⟨hx, hb, hml, hown, hts⟩ (k_X7_isWithin l D cs y ((-999)) (nI (999))) ⟨va_cnB 3 hts ggX5_valueRefusal_X7_isWithin rfl rfl rfl hN.2.2.2.2.2.1 (hts (.initialized RX7) (by decide +kernel)) (by decide +kernel) ⟨Nat.le_of_ble_eq_true rfl, Nat.le_of_ble_eq_true rfl⟩, hts (.static yX7_isWithin) (by decide +kernel), trivial⟩ (kx_preS hK hN trivial) rfl rfl hl.1 rfl (lv_room (Nat.le_of_ble_eq_true rfl)) dX5_valueRefusal_16 ⟨Nat.le_of_ble_eq_true rfl, Nat.le_of_ble_eq_true rfl⟩) ?_
    refine kb_if_ne (tgt := 24) hx hb dX5_valueRefusal_19 (by decide) (fun c_1 => ?_) (fun c_1 => ?_)
    · refine lv_aload_n hx hb dX5_valueRefusal_24 rfl (lv_at hl 0 rfl) ?_
      refine lv_iload_n hx hb dX5_valueRefusal_25 rfl (lv_at hl 1 rfl) ?_
      refine kx_retP (va_runV (As := [.int (nI (q0))]) (rest := []) ⟨hx, hb, hml, hown, hts⟩ (k_X5_barOf l D cs q e g q0 hI hG (by first | assumption | omega)) (cwV 1 hts gX5_valueRefusal_X5_barOf rfl rfl rfl (by decide +kernel) ⟨Nat.le_of_ble_eq_true rfl, Nat.le_of_ble_eq_true rfl⟩) (kx_preV hK hN hM.obj rfl hM) rfl rfl hl.1 rfl (lv_room (Nat.le_of_ble_eq_true rfl)) dX5_valueRefusal_26 ⟨Nat.le_of_ble_eq_true rfl, Nat.le_of_ble_eq_true rfl⟩) ?_
      refine kn_if_ne (tgt := 36) hx hb dX5_valueRefusal_29 (by decide) (by omega) (fun hb0 => ?_) (fun hb0 => ?_)
      · refine lv_iconst (v := nI 3) hx hb dX5_valueRefusal_36 (by decide) ?_
        exact kx_iretP hx hb hrt hlk (congrArg nI (by rw [hbr] at hb0; simp [wwr, hnq, *, Nat.pos_iff_ne_zero])) dX5_valueRefusal_37
      · refine lv_iconst (v := nI 0) hx hb dX5_valueRefusal_32 (by decide) ?_
        refine lv_goto (tgt := 37) hx hb dX5_valueRefusal_33 (by decide) ?_
        exact kx_iretP hx hb hrt hlk (congrArg nI (by rw [hbr] at hb0; simp [wwr, hnq, *, Nat.pos_iff_ne_zero])) dX5_valueRefusal_37
    · refine lv_iconst (v := nI 2) hx hb dX5_valueRefusal_22 (by decide) ?_
      exact kx_iretP hx hb hrt hlk (congrArg nI (by first | (simp [wwr, *]; done) | (exfalso; omega) | (exfalso; simp_all; done))) dX5_valueRefusal_23
  · refine lv_iconst (v := nI 1) hx hb dX5_valueRefusal_7 (by decide) ?_
    exact kx_iretP hx hb hrt hlk (congrArg nI (by first | (simp [wwr, *]; done) | (exfalso; omega) | (exfalso; simp_all; done))) dX5_valueRefusal_8
set_option maxHeartbeats 2500000 in
set_option maxRecDepth 100000 in
theorem k_X5_putValue (l : Launch) (D : va_G) (cs : Nat → ClassId) (q : Nat) (e : Nat → Int32) (g : Nat → Int64) (x : Nat) (v : Int32) (hx48 : x < 48) : Met l yX5_putValue wsX5_putValue ({ frames := 0, cells := 0, slots := 0, locals := 0 } : Room) (PcK D cs [.ref (q), .int (nI (x)), .int (v)] (fun H => StC D cs q e g H)) (QcM (some (.int (e (8 + x)))) (fun H => StC D cs q (upd e (8 + x) v) g H) (rgS q)) 0 0 ((rgS q)) := by
  refine kx_met (cc := cX5_putValue) (maxL := 4) (ret := (some .int)) (by decide) rfl (Nat.le_of_ble_eq_true rfl) ?_
  intro p en s m args below meth c hx hb hml hrt hts hown hlk hK hN hP ls hl
  have hl : lv_has ls 4 [(0, .ref (q)), (1, .int (nI (x))), (2, .int (v))] := hl
  obtain ⟨H, hHe⟩ : ∃ H : Heap, H = s.heap := ⟨_, rfl⟩
  rw [← hHe] at hP ⊢
  have hS : va_S ((rgS q)) s.heap H [] := by rw [← hHe]; exact va_S.rf
  have hinX5 : ∀ w ∈ wsX50, w ∈ wsX5_putValue := by decide +kernel
  have hM := hP
  refine lv_aload_n hx hb dX5_putValue_0 rfl (lv_at hl 0 rfl) ?_
  refine kx_get (v := .ref (q + 1)) hx hb hts hinX5 hown hK hM.obj rfl 0 (by decide) (by decide +kernel) rfl dX5_putValue_1 ?_
  refine lv_iload_n hx hb dX5_putValue_4 rfl (lv_at hl 1 rfl) ?_
  refine kx_iald (i := x) hx hb hK hM.cells 0 rfl (by omega) (by decide) dX5_putValue_5 ?_
  refine lv_istore_n (lv' := [(3, .int (e (8 + x))), (0, .ref (q)), (1, .int (nI (x))), (2, .int (v))]) hx hb dX5_putValue_6 rfl hl (by decide) rfl (fun ls hl => ?_)
  refine lv_aload_n hx hb dX5_putValue_7 rfl (lv_at hl 1 rfl) ?_
  refine kx_get (v := .ref (q + 1)) hx hb hts hinX5 hown hK hM.obj rfl 0 (by decide) (by decide +kernel) rfl dX5_putValue_8 ?_
  refine lv_iload_n hx hb dX5_putValue_11 rfl (lv_at hl 2 rfl) ?_
  refine lv_iload_n hx hb dX5_putValue_12 rfl (lv_at hl 3 rfl) ?_
  refine kx_iast (i := x) hx hb hK hM.cells hS ⟨by omega, by omega⟩ 0 rfl (by omega) (by decide) dX5_putValue_13 (fun H locs hc hU hS => ?_)
  have hM := hM.put_cells (i := x) (by omega) hc hU
  clear hc hU
  refine lv_iload_n hx hb dX5_putValue_14 rfl (lv_at hl 0 rfl) ?_
  exact kx_iretM hx hb hrt hlk rfl hM hS dX5_putValue_15
set_option maxHeartbeats 2500000 in
set_option maxRecDepth 100000 in
theorem k_X5_moveRefusal (l : Launch) (D : va_G) (cs : Nat → ClassId) (q : Nat) (e : Nat → Int32) (g : Nat → Int64) (f fp t tp n0 : Int32) (hI : Inv e) : Met l yX5_moveRefusal wsX5_moveRefusal ({ frames := 1, cells := 0, slots := 0, locals := 22 } : Room) (PcK D cs [.ref (q), .int (f), .int (fp), .int (t), .int (tp), .int (n0)] (fun H => StC D cs q e g H)) (QcP (some (.int (nI (wmv e f fp t tp n0))))) 0 0 nowhere := by
  refine kx_met (cc := cX5_moveRefusal) (maxL := 6) (ret := (some .int)) (by decide) rfl (Nat.le_of_ble_eq_true rfl) ?_
  intro p en s m args below meth c hx hb hml hrt hts hown hlk hK hN hP ls hl
  have hl : lv_has ls 6 [(0, .ref (q)), (1, .int (f)), (2, .int (fp)), (3, .int (t)), (4, .int (tp)), (5, .int (n0))] := hl
  have hinX4 : ∀ w ∈ wsX40, w ∈ wsX5_moveRefusal := by decide +kernel
  have hinX5 : ∀ w ∈ wsX50, w ∈ wsX5_moveRefusal := by decide +kernel
  have hM := hP
  have h24 := hI.M24
  have h6 := hI.R6
  refine lv_aload_n hx hb dX5_moveRefusal_0 rfl (lv_at hl 0 rfl) ?_
  refine lv_iload_n hx hb dX5_moveRefusal_1 rfl (lv_at hl 1 rfl) ?_
  refine kx_retP (va_runV (As := [.int (f)]) (rest := []) ⟨hx, hb, hml, hown, hts⟩ (k_X5_hasRing l D cs q e g f hI) (cwV 1 hts gX5_moveRefusal_X5_hasRing rfl rfl rfl (by decide +kernel) ⟨Nat.le_of_ble_eq_true rfl, Nat.le_of_ble_eq_true rfl⟩) (kx_preV hK hN hM.obj rfl hM) rfl rfl hl.1 rfl (lv_room (Nat.le_of_ble_eq_true rfl)) dX5_moveRefusal_2 ⟨Nat.le_of_ble_eq_true rfl, Nat.le_of_ble_eq_true rfl⟩) ?_
  refine kb_if_eq (tgt := 16) hx hb dX5_moveRefusal_5 (by decide) (fun hqa => ?_) (fun hqa => ?_)
  · refine lv_iconst (v := nI 1) hx hb dX5_moveRefusal_16 (by decide) ?_
    exact kx_iretP hx hb hrt hlk (congrArg nI (by first | (simp [wmv, *]; done) | (exfalso; omega) | (exfalso; simp_all; done))) dX5_moveRefusal_17
  · refine lv_aload_n hx hb dX5_moveRefusal_8 rfl (lv_at hl 0 rfl) ?_
    refine lv_iload_n hx hb dX5_moveRefusal_9 rfl (lv_at hl 3 rfl) ?_
    refine kx_retP (va_runV (As := [.int (t)]) (rest := []) ⟨hx, hb, hml, hown, hts⟩ (k_X5_hasRing l D cs q e g t hI) (cwV 1 hts gX5_moveRefusal_X5_hasRing rfl rfl rfl (by decide +kernel) ⟨Nat.le_of_ble_eq_true rfl, Nat.le_of_ble_eq_true rfl⟩) (kx_preV hK hN hM.obj rfl hM) rfl rfl hl.1 rfl (lv_room (Nat.le_of_ble_eq_true rfl)) dX5_moveRefusal_10 ⟨Nat.le_of_ble_eq_true rfl, Nat.le_of_ble_eq_true rfl⟩) ?_
    refine kb_if_ne (tgt := 18) hx hb dX5_moveRefusal_13 (by decide) (fun hqb => ?_) (fun hqb => ?_)
    · obtain ⟨r1, hrr1, rfl⟩ := (lsB_iff (by omega)).mp hqa
      have hnr1 : nn (nI r1) = r1 := nn_nI (by omega)
      obtain ⟨r2, hrr2, rfl⟩ := (lsB_iff (by omega)).mp hqb
      have hnr2 : nn (nI r2) = r2 := nn_nI (by omega)
      have hl1 := hI.l16 hrr1
      have hl2 := hI.l16 hrr2
      refine lv_iload_n hx hb dX5_moveRefusal_18 rfl (lv_at hl 2 rfl) ?_
      refine lv_iconst (v := nI 0) hx hb dX5_moveRefusal_19 (by decide) ?_
      refine lv_bipush (v := nI 99) hx hb dX5_moveRefusal_20 (by decide) ?_
      refine kx_retP (va_runSN (As := [.int (fp), .int (nI (0)), .int (nI (99))]) (rest := []) ⟨hx, hb, hml, hown, hts⟩ (k_X7_isWithin l D cs fp (nI (0)) (nI (99))) ⟨va_cnB 3 hts ggX5_moveRefusal_X7_isWithin rfl rfl rfl hN.2.2.2.2.2.1 (hts (.initialized RX7) (by decide +kernel)) (by decide +kernel) ⟨Nat.le_of_ble_eq_true rfl, Nat.le_of_ble_eq_true rfl⟩, hts (.static yX7_isWithin) (by decide +kernel), trivial⟩ (kx_preS hK hN trivial) rfl rfl hl.1 rfl (lv_room (Nat.le_of_ble_eq_true rfl)) dX5_moveRefusal_22 ⟨Nat.le_of_ble_eq_true rfl, Nat.le_of_ble_eq_true rfl⟩) ?_
      refine kb_if_eq (tgt := 69) hx hb dX5_moveRefusal_25 (by decide) (fun h25 => ?_) (fun h25 => ?_)
      · refine lv_iconst (v := nI 2) hx hb dX5_moveRefusal_69 (by decide) ?_
        exact kx_iretP hx hb hrt hlk (congrArg nI (by first | exact (wmv_2 hqa hqb (by rw [hnr1, hnr2]; simp [*])) | (rw [wmv_min (by omega) hqa hqb (by rw [hnr1]; omega) (by rw [hnr2]; omega), hnr1, hnr2]; simp [*]))) dX5_moveRefusal_70
      · refine lv_iload hx hb dX5_moveRefusal_28 (lv_at hl 4 rfl) ?_
        refine lv_iconst (v := nI 0) hx hb dX5_moveRefusal_30 (by decide) ?_
        refine lv_bipush (v := nI 99) hx hb dX5_moveRefusal_31 (by decide) ?_
        refine kx_retP (va_runSN (As := [.int (tp), .int (nI (0)), .int (nI (99))]) (rest := []) ⟨hx, hb, hml, hown, hts⟩ (k_X7_isWithin l D cs tp (nI (0)) (nI (99))) ⟨va_cnB 3 hts ggX5_moveRefusal_X7_isWithin rfl rfl rfl hN.2.2.2.2.2.1 (hts (.initialized RX7) (by decide +kernel)) (by decide +kernel) ⟨Nat.le_of_ble_eq_true rfl, Nat.le_of_ble_eq_true rfl⟩, hts (.static yX7_isWithin) (by decide +kernel), trivial⟩ (kx_preS hK hN trivial) rfl rfl hl.1 rfl (lv_room (Nat.le_of_ble_eq_true rfl)) dX5_moveRefusal_33 ⟨Nat.le_of_ble_eq_true rfl, Nat.le_of_ble_eq_true rfl⟩) ?_
        refine kb_if_eq (tgt := 69) hx hb dX5_moveRefusal_36 (by decide) (fun h36 => ?_) (fun h36 => ?_)
        · refine lv_iconst (v := nI 2) hx hb dX5_moveRefusal_69 (by decide) ?_
          exact kx_iretP hx hb hrt hlk (congrArg nI (by first | exact (wmv_2 hqa hqb (by rw [hnr1, hnr2]; simp [*])) | (rw [wmv_min (by omega) hqa hqb (by rw [hnr1]; omega) (by rw [hnr2]; omega), hnr1, hnr2]; simp [*]))) dX5_moveRefusal_70
        · refine lv_iload hx hb dX5_moveRefusal_39 (lv_at hl 5 rfl) ?_
          refine lv_iconst (v := nI 1) hx hb dX5_moveRefusal_41 (by decide) ?_
          refine lv_aload_n hx hb dX5_moveRefusal_42 rfl (lv_at hl 0 rfl) ?_
          refine kx_get (v := .ref (q + 2)) hx hb hts hinX5 hown hK hM.obj rfl 1 (by decide) (by decide +kernel) rfl dX5_moveRefusal_43 ?_
          refine lv_iload_n hx hb dX5_moveRefusal_46 rfl (lv_at hl 1 rfl) ?_
          refine kx_aald (i := r1) hx hb hK hM.rings 2 rfl (by omega) (by decide) rfl dX5_moveRefusal_47 ?_
          refine kx_get (v := .int (e (56 + 4 * r1 + 1))) hx hb hts hinX4 hown hK (hM.rg (r := r1) (by omega)) rfl 1 (by decide) (by decide +kernel) rfl dX5_moveRefusal_48 ?_
          refine kx_ci (x := e (56 + 4 * r1 + 1)) (y := nI (rL e r1)) (Inv.r1 hI (by first | assumption | omega)) ?_
          refine lv_aload_n hx hb dX5_moveRefusal_51 rfl (lv_at hl 0 rfl) ?_
          refine kx_get (v := .ref (q + 2)) hx hb hts hinX5 hown hK hM.obj rfl 1 (by decide) (by decide +kernel) rfl dX5_moveRefusal_52 ?_
          refine lv_iload_n hx hb dX5_moveRefusal_55 rfl (lv_at hl 3 rfl) ?_
          refine kx_aald (i := r2) hx hb hK hM.rings 2 rfl (by omega) (by decide) rfl dX5_moveRefusal_56 ?_
          refine kx_get (v := .int (e (56 + 4 * r2 + 1))) hx hb hts hinX4 hown hK (hM.rg (r := r2) (by omega)) rfl 1 (by decide) (by decide +kernel) rfl dX5_moveRefusal_57 ?_
          refine kx_ci (x := e (56 + 4 * r2 + 1)) (y := nI (rL e r2)) (Inv.r1 hI (by first | assumption | omega)) ?_
          refine kn_min hx hb (hml.trans hl.1.symm) hown (hts (.methodLink RX5 116 Lib.Math.min.name) (by decide +kernel)) (hts (.static Lib.Math.min.name) (by decide +kernel)) (hts (.initialized "java/lang/Math") (by decide +kernel)) (hts (.code Lib.Math.min.name Lib.Math.min.code 2 (some .int)) (by decide +kernel)) (Nat.le_of_ble_eq_true rfl) (Nat.le_of_ble_eq_true rfl) (Nat.le_of_ble_eq_true rfl) (Nat.le_of_ble_eq_true rfl) (by omega) (by omega) dX5_moveRefusal_60 ?_
          refine kx_retP (va_runSN (As := [.int (n0), .int (nI (1)), .int (nI (min (rL e r1) (rL e r2)))]) (rest := []) ⟨hx, hb, hml, hown, hts⟩ (k_X7_isWithin l D cs n0 (nI (1)) (nI (min (rL e r1) (rL e r2)))) ⟨va_cnB 3 hts ggX5_moveRefusal_X7_isWithin rfl rfl rfl hN.2.2.2.2.2.1 (hts (.initialized RX7) (by decide +kernel)) (by decide +kernel) ⟨Nat.le_of_ble_eq_true rfl, Nat.le_of_ble_eq_true rfl⟩, hts (.static yX7_isWithin) (by decide +kernel), trivial⟩ (kx_preS hK hN trivial) rfl rfl hl.1 rfl (lv_room (Nat.le_of_ble_eq_true rfl)) dX5_moveRefusal_63 ⟨Nat.le_of_ble_eq_true rfl, Nat.le_of_ble_eq_true rfl⟩) ?_
          refine kb_if_ne (tgt := 71) hx hb dX5_moveRefusal_66 (by decide) (fun h66 => ?_) (fun h66 => ?_)
          · refine lv_aload_n hx hb dX5_moveRefusal_71 rfl (lv_at hl 0 rfl) ?_
            refine kx_get (v := .int (e 4)) hx hb hts hinX5 hown hK hM.obj rfl 5 (by decide) (by decide +kernel) rfl dX5_moveRefusal_72 ?_
            refine kx_ci (x := e 4) (y := nI (Mn e)) (Inv.z4 hI) ?_
            refine lv_bipush (v := nI 24) hx hb dX5_moveRefusal_75 (by decide) ?_
            refine kn_icmp_lt (tgt := 84) hx hb dX5_moveRefusal_77 (by decide) (by omega) (by decide) (fun h77 => ?_) (fun h77 => ?_)
            · refine lv_iconst (v := nI 0) hx hb dX5_moveRefusal_84 (by decide) ?_
              exact kx_iretP hx hb hrt hlk (congrArg nI (by rw [wmv_min (by omega) hqa hqb (by rw [hnr1]; omega) (by rw [hnr2]; omega), hnr1, hnr2]; simp [*])) dX5_moveRefusal_85
            · refine lv_iconst (v := nI 3) hx hb dX5_moveRefusal_80 (by decide) ?_
              refine lv_goto (tgt := 85) hx hb dX5_moveRefusal_81 (by decide) ?_
              exact kx_iretP hx hb hrt hlk (congrArg nI (by rw [wmv_min (by omega) hqa hqb (by rw [hnr1]; omega) (by rw [hnr2]; omega), hnr1, hnr2]; simp [*])) dX5_moveRefusal_85
          · refine lv_iconst (v := nI 2) hx hb dX5_moveRefusal_69 (by decide) ?_
            exact kx_iretP hx hb hrt hlk (congrArg nI (by first | exact (wmv_2 hqa hqb (by rw [hnr1, hnr2]; simp [*])) | (rw [wmv_min (by omega) hqa hqb (by rw [hnr1]; omega) (by rw [hnr2]; omega), hnr1, hnr2]; simp [*]))) dX5_moveRefusal_70
    · refine lv_iconst (v := nI 1) hx hb dX5_moveRefusal_16 (by decide) ?_
      exact kx_iretP hx hb hrt hlk (congrArg nI (by first | (simp [wmv, *]; done) | (exfalso; omega) | (exfalso; simp_all; done))) dX5_moveRefusal_17
set_option maxHeartbeats 2500000 in
set_option maxRecDepth 100000 in
theorem k_X5_putMove (l : Launch) (D : va_G) (cs : Nat → ClassId) (q : Nat) (e : Nat → Int32) (g : Nat → Int64) (qf qa qt qb qn : Nat) (hI : Inv e) (hM24 : Mn e < 24) (hf : qf < Rn e) (ht : qt < Rn e) (ha : qa ≤ 99) (hb9 : qb ≤ 99) (hn : qn ≤ 16) : Met l yX5_putMove wsX5_putMove ({ frames := 2, cells := 0, slots := 0, locals := 46 } : Room) (PcK D cs [.ref (q), .int (nI (qf)), .int (nI (qa)), .int (nI (qt)), .int (nI (qb)), .int (nI (qn))] (fun H => StC D cs q e g H)) (QcM (some (.int (nI (Mn e)))) (fun H => StC D cs q (pmF e (nI qf) (nI qa) (nI qt) (nI qb) (nI qn)) (pmG e g qf qa qt qb qn) H) (rgS q)) 0 0 ((rgS q)) := by
  refine kx_met (cc := cX5_putMove) (maxL := 7) (ret := (some .int)) (by decide) rfl (Nat.le_of_ble_eq_true rfl) ?_
  intro p en s m args below meth c hx hb hml hrt hts hown hlk hK hN hP ls hl
  have hl : lv_has ls 7 [(0, .ref (q)), (1, .int (nI (qf))), (2, .int (nI (qa))), (3, .int (nI (qt))), (4, .int (nI (qb))), (5, .int (nI (qn)))] := hl
  obtain ⟨H, hHe⟩ : ∃ H : Heap, H = s.heap := ⟨_, rfl⟩
  rw [← hHe] at hP ⊢
  have hS : va_S ((rgS q)) s.heap H [] := by rw [← hHe]; exact va_S.rf
  have hinX3 : ∀ w ∈ wsX30, w ∈ wsX5_putMove := by decide +kernel
  have hinX5 : ∀ w ∈ wsX50, w ∈ wsX5_putMove := by decide +kernel
  have hM := hP
  have h24 := hI.M24
  have h6 := hI.R6
  refine lv_aload_n hx hb dX5_putMove_0 rfl (lv_at hl 0 rfl) ?_
  refine kx_get (v := .ref (q + 3)) hx hb hts hinX5 hown hK hM.obj rfl 2 (by decide) (by decide +kernel) rfl dX5_putMove_1 ?_
  refine lv_aload_n hx hb dX5_putMove_4 rfl (lv_at hl 0 rfl) ?_
  refine kx_get (v := .int (e 4)) hx hb hts hinX5 hown hK hM.obj rfl 5 (by decide) (by decide +kernel) rfl dX5_putMove_5 ?_
  refine kx_ci (x := e 4) (y := nI (Mn e)) (Inv.z4 hI) ?_
  refine kx_aald (i := Mn e) hx hb hK hM.moves 3 rfl (by omega) (by decide) rfl dX5_putMove_8 ?_
  refine lv_astore (lv' := [(6, .ref (q + 11 + 2 * (Mn e))), (0, .ref (q)), (1, .int (nI (qf))), (2, .int (nI (qa))), (3, .int (nI (qt))), (4, .int (nI (qb))), (5, .int (nI (qn)))]) hx hb dX5_putMove_9 hl (by decide) rfl (fun ls hl => ?_)
  refine lv_aload hx hb dX5_putMove_11 (lv_at hl 0 rfl) ?_
  refine lv_iload_n hx hb dX5_putMove_13 rfl (lv_at hl 2 rfl) ?_
  refine kx_put hx hb hts hinX3 tyX3_ok nmX3 hown hK (hM.mv (m := Mn e) (by omega)) rfl hS ⟨by omega, by omega⟩ 0 (by decide) (by decide +kernel) rfl rfl rfl (Nat.le_of_ble_eq_true rfl) dX5_putMove_14 (fun H locs hc hU hS => ?_)
  have hM := hM.put_from (m := Mn e) (by omega) hc hU
  clear hc hU
  refine lv_aload hx hb dX5_putMove_17 (lv_at hl 0 rfl) ?_
  refine lv_iload_n hx hb dX5_putMove_19 rfl (lv_at hl 3 rfl) ?_
  refine kx_put hx hb hts hinX3 tyX3_ok nmX3 hown hK (hM.mv (m := Mn e) (by omega)) rfl hS ⟨by omega, by omega⟩ 1 (by decide) (by decide +kernel) rfl rfl rfl (Nat.le_of_ble_eq_true rfl) dX5_putMove_20 (fun H locs hc hU hS => ?_)
  have hM := hM.put_fromPlace (m := Mn e) (by omega) hc hU
  clear hc hU
  refine lv_aload hx hb dX5_putMove_23 (lv_at hl 0 rfl) ?_
  refine lv_iload_n hx hb dX5_putMove_25 rfl (lv_at hl 4 rfl) ?_
  refine kx_put hx hb hts hinX3 tyX3_ok nmX3 hown hK (hM.mv (m := Mn e) (by omega)) rfl hS ⟨by omega, by omega⟩ 2 (by decide) (by decide +kernel) rfl rfl rfl (Nat.le_of_ble_eq_true rfl) dX5_putMove_26 (fun H locs hc hU hS => ?_)
  have hM := hM.put_to (m := Mn e) (by omega) hc hU
  clear hc hU
  refine lv_aload hx hb dX5_putMove_29 (lv_at hl 0 rfl) ?_
  refine lv_iload hx hb dX5_putMove_31 (lv_at hl 5 rfl) ?_
  refine kx_put hx hb hts hinX3 tyX3_ok nmX3 hown hK (hM.mv (m := Mn e) (by omega)) rfl hS ⟨by omega, by omega⟩ 3 (by decide) (by decide +kernel) rfl rfl rfl (Nat.le_of_ble_eq_true rfl) dX5_putMove_33 (fun H locs hc hU hS => ?_)
  have hM := hM.put_toPlace (m := Mn e) (by omega) hc hU
  clear hc hU
  refine lv_aload hx hb dX5_putMove_36 (lv_at hl 0 rfl) ?_
  refine lv_iload hx hb dX5_putMove_38 (lv_at hl 6 rfl) ?_
  refine kx_put hx hb hts hinX3 tyX3_ok nmX3 hown hK (hM.mv (m := Mn e) (by omega)) rfl hS ⟨by omega, by omega⟩ 4 (by decide) (by decide +kernel) rfl rfl rfl (Nat.le_of_ble_eq_true rfl) dX5_putMove_40 (fun H locs hc hU hS => ?_)
  have hM := hM.put_count (m := Mn e) (by omega) hc hU
  clear hc hU
  have hEq : Eqv e (upd (upd (upd (upd (upd e (80 + 10 * (Mn e) + 0) (nI (qf))) (80 + 10 * (Mn e) + 1) (nI (qa))) (80 + 10 * (Mn e) + 2) (nI (qt))) (80 + 10 * (Mn e) + 3) (nI (qb))) (80 + 10 * (Mn e) + 4) (nI (qn))) := eqv_new hI hM24 (fun j hj => (by simp only [upd_at]; (repeat rw [if_neg (by omega)])))
  have hIy := hEq.inv hI
  have hRy := hEq.R
  refine lv_aload hx hb dX5_putMove_43 (lv_at hl 0 rfl) ?_
  refine lv_aload_n hx hb dX5_putMove_45 rfl (lv_at hl 1 rfl) ?_
  refine kx_get (v := .ref (q + 2)) hx hb hts hinX5 hown hK hM.obj rfl 1 (by decide) (by decide +kernel) rfl dX5_putMove_46 ?_
  refine lv_iload_n hx hb dX5_putMove_49 rfl (lv_at hl 2 rfl) ?_
  refine kx_aald (i := qf) hx hb hK hM.rings 2 rfl (by omega) (by decide) rfl dX5_putMove_50 ?_
  refine lv_iload_n hx hb dX5_putMove_51 rfl (lv_at hl 3 rfl) ?_
  refine lv_iload hx hb dX5_putMove_52 (lv_at hl 6 rfl) ?_
  refine kx_retP (va_runV (As := [.int (nI (qa)), .int (nI (qn))]) (rest := [.ref (q + 11 + 2 * (Mn e))]) ⟨hx, hb, hml, hown, hts⟩ (k_X4_cellsFrom l D cs q (upd (upd (upd (upd (upd e (80 + 10 * (Mn e) + 0) (nI (qf))) (80 + 10 * (Mn e) + 1) (nI (qa))) (80 + 10 * (Mn e) + 2) (nI (qt))) (80 + 10 * (Mn e) + 3) (nI (qb))) (80 + 10 * (Mn e) + 4) (nI (qn))) g qf qa qn hIy (by rw [hRy]; exact hf) (by omega) (by omega)) (cwV 2 hts gX5_putMove_X4_cellsFrom rfl rfl rfl (by decide +kernel) ⟨Nat.le_of_ble_eq_true rfl, Nat.le_of_ble_eq_true rfl⟩) (kx_preV hK hN (hM.rg (r := qf) (by omega)) rfl hM) rfl rfl hl.1 rfl (lv_room (Nat.le_of_ble_eq_true rfl)) dX5_putMove_54 ⟨Nat.le_of_ble_eq_true rfl, Nat.le_of_ble_eq_true rfl⟩) ?_
  refine kx_cl (x := lN (cfN (upd (upd (upd (upd (upd e (80 + 10 * (Mn e) + 0) (nI (qf))) (80 + 10 * (Mn e) + 1) (nI (qa))) (80 + 10 * (Mn e) + 2) (nI (qt))) (80 + 10 * (Mn e) + 3) (nI (qb))) (80 + 10 * (Mn e) + 4) (nI (qn))) qf qa qn)) (y := lN (cfN e qf qa qn)) (congrArg lN (cf_eqv hEq hf _ _)) ?_
  refine kx_put hx hb hts hinX3 tyX3_ok nmX3 hown hK (hM.mv (m := Mn e) (by omega)) rfl hS ⟨by omega, by omega⟩ 5 (by decide) (by decide +kernel) rfl rfl rfl (Nat.le_of_ble_eq_true rfl) dX5_putMove_57 (fun H locs hc hU hS => ?_)
  have hM := hM.put_sources (m := Mn e) (by omega) hc hU
  clear hc hU
  refine lv_aload hx hb dX5_putMove_60 (lv_at hl 0 rfl) ?_
  refine lv_aload_n hx hb dX5_putMove_62 rfl (lv_at hl 1 rfl) ?_
  refine kx_get (v := .ref (q + 2)) hx hb hts hinX5 hown hK hM.obj rfl 1 (by decide) (by decide +kernel) rfl dX5_putMove_63 ?_
  refine lv_iload_n hx hb dX5_putMove_66 rfl (lv_at hl 4 rfl) ?_
  refine kx_aald (i := qt) hx hb hK hM.rings 2 rfl (by omega) (by decide) rfl dX5_putMove_67 ?_
  refine lv_iload hx hb dX5_putMove_68 (lv_at hl 5 rfl) ?_
  refine lv_iload hx hb dX5_putMove_70 (lv_at hl 6 rfl) ?_
  refine kx_retP (va_runV (As := [.int (nI (qb)), .int (nI (qn))]) (rest := [.ref (q + 11 + 2 * (Mn e))]) ⟨hx, hb, hml, hown, hts⟩ (k_X4_cellsFrom l D cs q (upd (upd (upd (upd (upd e (80 + 10 * (Mn e) + 0) (nI (qf))) (80 + 10 * (Mn e) + 1) (nI (qa))) (80 + 10 * (Mn e) + 2) (nI (qt))) (80 + 10 * (Mn e) + 3) (nI (qb))) (80 + 10 * (Mn e) + 4) (nI (qn))) (vp_updL g (2 * (Mn e)) (lN (cfN e qf qa qn))) qt qb qn hIy (by rw [hRy]; exact ht) (by omega) (by omega)) (cwV 2 hts gX5_putMove_X4_cellsFrom rfl rfl rfl (by decide +kernel) ⟨Nat.le_of_ble_eq_true rfl, Nat.le_of_ble_eq_true rfl⟩) (kx_preV hK hN (hM.rg (r := qt) (by omega)) rfl hM) rfl rfl hl.1 rfl (lv_room (Nat.le_of_ble_eq_true rfl)) dX5_putMove_72 ⟨Nat.le_of_ble_eq_true rfl, Nat.le_of_ble_eq_true rfl⟩) ?_
  refine kx_cl (x := lN (cfN (upd (upd (upd (upd (upd e (80 + 10 * (Mn e) + 0) (nI (qf))) (80 + 10 * (Mn e) + 1) (nI (qa))) (80 + 10 * (Mn e) + 2) (nI (qt))) (80 + 10 * (Mn e) + 3) (nI (qb))) (80 + 10 * (Mn e) + 4) (nI (qn))) qt qb qn)) (y := lN (cfN e qt qb qn)) (congrArg lN (cf_eqv hEq ht _ _)) ?_
  refine kx_put hx hb hts hinX3 tyX3_ok nmX3 hown hK (hM.mv (m := Mn e) (by omega)) rfl hS ⟨by omega, by omega⟩ 6 (by decide) (by decide +kernel) rfl rfl rfl (Nat.le_of_ble_eq_true rfl) dX5_putMove_75 (fun H locs hc hU hS => ?_)
  have hM := hM.put_targets (m := Mn e) (by omega) hc hU
  clear hc hU
  refine lv_aload hx hb dX5_putMove_78 (lv_at hl 0 rfl) ?_
  refine lv_iconst (v := nI 0) hx hb dX5_putMove_80 (by decide) ?_
  refine kx_put hx hb hts hinX3 tyX3_ok nmX3 hown hK (hM.mv (m := Mn e) (by omega)) rfl hS ⟨by omega, by omega⟩ 7 (by decide) (by decide +kernel) rfl rfl rfl (Nat.le_of_ble_eq_true rfl) dX5_putMove_81 (fun H locs hc hU hS => ?_)
  have hM := hM.put_phase (m := Mn e) (by omega) hc hU
  clear hc hU
  refine lv_aload hx hb dX5_putMove_84 (lv_at hl 0 rfl) ?_
  refine lv_iconst (v := nI 0) hx hb dX5_putMove_86 (by decide) ?_
  refine kx_put hx hb hts hinX3 tyX3_ok nmX3 hown hK (hM.mv (m := Mn e) (by omega)) rfl hS ⟨by omega, by omega⟩ 8 (by decide) (by decide +kernel) rfl rfl rfl (Nat.le_of_ble_eq_true rfl) dX5_putMove_87 (fun H locs hc hU hS => ?_)
  have hM := hM.put_written (m := Mn e) (by omega) hc hU
  clear hc hU
  refine lv_aload hx hb dX5_putMove_90 (lv_at hl 0 rfl) ?_
  refine lv_sipush (v := -1000) hx hb dX5_putMove_92 (by decide) ?_
  refine kx_put hx hb hts hinX3 tyX3_ok nmX3 hown hK (hM.mv (m := Mn e) (by omega)) rfl hS ⟨by omega, by omega⟩ 9 (by decide) (by decide +kernel) rfl rfl rfl (Nat.le_of_ble_eq_true rfl) dX5_putMove_95 (fun H locs hc hU hS => ?_)
  have hM := hM.put_started (m := Mn e) (by omega) hc hU
  clear hc hU
  refine lv_aload hx hb dX5_putMove_98 (lv_at hl 0 rfl) ?_
  refine lv_sipush (v := -1000) hx hb dX5_putMove_100 (by decide) ?_
  refine kx_put hx hb hts hinX3 tyX3_ok nmX3 hown hK (hM.mv (m := Mn e) (by omega)) rfl hS ⟨by omega, by omega⟩ 10 (by decide) (by decide +kernel) rfl rfl rfl (Nat.le_of_ble_eq_true rfl) dX5_putMove_103 (fun H locs hc hU hS => ?_)
  have hM := hM.put_copied (m := Mn e) (by omega) hc hU
  clear hc hU
  refine lv_aload hx hb dX5_putMove_106 (lv_at hl 0 rfl) ?_
  refine lv_sipush (v := -1000) hx hb dX5_putMove_108 (by decide) ?_
  refine kx_put hx hb hts hinX3 tyX3_ok nmX3 hown hK (hM.mv (m := Mn e) (by omega)) rfl hS ⟨by omega, by omega⟩ 11 (by decide) (by decide +kernel) rfl rfl rfl (Nat.le_of_ble_eq_true rfl) dX5_putMove_111 (fun H locs hc hU hS => ?_)
  have hM := hM.put_signed (m := Mn e) (by omega) hc hU
  clear hc hU
  refine lv_aload_n hx hb dX5_putMove_114 rfl (lv_at hl 1 rfl) ?_
  refine lv_dup hx hb dX5_putMove_115 rfl ?_
  refine kx_get (v := .int ((upd (upd (upd (upd (upd (upd (upd (upd (upd (upd e (80 + 10 * (Mn e) + 0) (nI (qf))) (80 + 10 * (Mn e) + 1) (nI (qa))) (80 + 10 * (Mn e) + 2) (nI (qt))) (80 + 10 * (Mn e) + 3) (nI (qb))) (80 + 10 * (Mn e) + 4) (nI (qn))) (80 + 10 * (Mn e) + 5) (nI (0))) (80 + 10 * (Mn e) + 6) (nI (0))) (80 + 10 * (Mn e) + 7) ((-1000))) (80 + 10 * (Mn e) + 8) ((-1000))) (80 + 10 * (Mn e) + 9) ((-1000))) 4)) hx hb hts hinX5 hown hK hM.obj rfl 5 (by decide) (by decide +kernel) rfl dX5_putMove_116 ?_
  refine kx_ci (x := (upd (upd (upd (upd (upd (upd (upd (upd (upd (upd e (80 + 10 * (Mn e) + 0) (nI (qf))) (80 + 10 * (Mn e) + 1) (nI (qa))) (80 + 10 * (Mn e) + 2) (nI (qt))) (80 + 10 * (Mn e) + 3) (nI (qb))) (80 + 10 * (Mn e) + 4) (nI (qn))) (80 + 10 * (Mn e) + 5) (nI (0))) (80 + 10 * (Mn e) + 6) (nI (0))) (80 + 10 * (Mn e) + 7) ((-1000))) (80 + 10 * (Mn e) + 8) ((-1000))) (80 + 10 * (Mn e) + 9) ((-1000))) 4) (y := nI (Mn e)) (by simp only [upd_at]; (repeat rw [if_neg (by omega)]); exact hI.z4) ?_
  refine lv_iconst (v := nI 1) hx hb dX5_putMove_119 (by decide) ?_
  refine kn_add hx hb dX5_putMove_120 ?_
  refine kx_put hx hb hts hinX5 tyX5_ok nmX5 hown hK hM.obj rfl hS ⟨by omega, by omega⟩ 5 (by decide) (by decide +kernel) rfl rfl rfl (Nat.le_of_ble_eq_true rfl) dX5_putMove_121 (fun H locs hc hU hS => ?_)
  have hM := hM.put_moveCount hc hU
  clear hc hU
  refine lv_aload_n hx hb dX5_putMove_124 rfl (lv_at hl 1 rfl) ?_
  refine kx_get (v := .int ((upd (upd (upd (upd (upd (upd (upd (upd (upd (upd (upd e (80 + 10 * (Mn e) + 0) (nI (qf))) (80 + 10 * (Mn e) + 1) (nI (qa))) (80 + 10 * (Mn e) + 2) (nI (qt))) (80 + 10 * (Mn e) + 3) (nI (qb))) (80 + 10 * (Mn e) + 4) (nI (qn))) (80 + 10 * (Mn e) + 5) (nI (0))) (80 + 10 * (Mn e) + 6) (nI (0))) (80 + 10 * (Mn e) + 7) ((-1000))) (80 + 10 * (Mn e) + 8) ((-1000))) (80 + 10 * (Mn e) + 9) ((-1000))) 4 (nI (Mn e + 1))) 4)) hx hb hts hinX5 hown hK hM.obj rfl 5 (by decide) (by decide +kernel) rfl dX5_putMove_125 ?_
  refine kx_ci (x := (upd (upd (upd (upd (upd (upd (upd (upd (upd (upd (upd e (80 + 10 * (Mn e) + 0) (nI (qf))) (80 + 10 * (Mn e) + 1) (nI (qa))) (80 + 10 * (Mn e) + 2) (nI (qt))) (80 + 10 * (Mn e) + 3) (nI (qb))) (80 + 10 * (Mn e) + 4) (nI (qn))) (80 + 10 * (Mn e) + 5) (nI (0))) (80 + 10 * (Mn e) + 6) (nI (0))) (80 + 10 * (Mn e) + 7) ((-1000))) (80 + 10 * (Mn e) + 8) ((-1000))) (80 + 10 * (Mn e) + 9) ((-1000))) 4 (nI (Mn e + 1))) 4) (y := nI (Mn e + 1)) pk_us ?_
  refine lv_iconst (v := nI 1) hx hb dX5_putMove_128 (by decide) ?_
  refine kn_sub hx hb (by omega) dX5_putMove_129 ?_
  exact kx_iretM hx hb hrt hlk (congrArg nI (by omega)) hM hS dX5_putMove_130
set_option maxHeartbeats 2500000 in
set_option maxRecDepth 100000 in
theorem k_X5_signRefusal (l : Launch) (D : va_G) (cs : Nat → ClassId) (q : Nat) (e : Nat → Int32) (g : Nat → Int64) (x : Int32) (hI : Inv e) : Met l yX5_signRefusal wsX5_signRefusal ({ frames := 2, cells := 0, slots := 0, locals := 44 } : Room) (PcK D cs [.ref (q), .int (x)] (fun H => StC D cs q e g H)) (QcP (some (.int (nI (c23 (wsg e x)))))) 0 0 nowhere := by
  refine kx_met (cc := cX5_signRefusal) (maxL := 2) (ret := (some .int)) (by decide) rfl (Nat.le_of_ble_eq_true rfl) ?_
  intro p en s m args below meth c hx hb hml hrt hts hown hlk hK hN hP ls hl
  have hl : lv_has ls 2 [(0, .ref (q)), (1, .int (x))] := hl
  have hinX4 : ∀ w ∈ wsX40, w ∈ wsX5_signRefusal := by decide +kernel
  have hinX5 : ∀ w ∈ wsX50, w ∈ wsX5_signRefusal := by decide +kernel
  have hM := hP
  have h24 := hI.M24
  have h6 := hI.R6
  refine lv_aload_n hx hb dX5_signRefusal_0 rfl (lv_at hl 0 rfl) ?_
  refine lv_iload_n hx hb dX5_signRefusal_1 rfl (lv_at hl 1 rfl) ?_
  refine kx_retP (va_runV (As := [.int (x)]) (rest := []) ⟨hx, hb, hml, hown, hts⟩ (k_X5_hasRing l D cs q e g x hI) (cwV 1 hts gX5_signRefusal_X5_hasRing rfl rfl rfl (by decide +kernel) ⟨Nat.le_of_ble_eq_true rfl, Nat.le_of_ble_eq_true rfl⟩) (kx_preV hK hN hM.obj rfl hM) rfl rfl hl.1 rfl (lv_room (Nat.le_of_ble_eq_true rfl)) dX5_signRefusal_2 ⟨Nat.le_of_ble_eq_true rfl, Nat.le_of_ble_eq_true rfl⟩) ?_
  refine kb_if_ne (tgt := 10) hx hb dX5_signRefusal_5 (by decide) (fun hq => ?_) (fun hq => ?_)
  · obtain ⟨r, hrr, rfl⟩ := (lsB_iff (by omega)).mp hq
    have hnr : nn (nI r) = r := nn_nI (by omega)
    refine lv_aload_n hx hb dX5_signRefusal_10 rfl (lv_at hl 0 rfl) ?_
    refine kx_get (v := .ref (q + 2)) hx hb hts hinX5 hown hK hM.obj rfl 1 (by decide) (by decide +kernel) rfl dX5_signRefusal_11 ?_
    refine lv_iload_n hx hb dX5_signRefusal_14 rfl (lv_at hl 1 rfl) ?_
    refine kx_aald (i := r) hx hb hK hM.rings 2 rfl (by omega) (by decide) rfl dX5_signRefusal_15 ?_
    refine kx_get (v := .int (e (56 + 4 * r + 3))) hx hb hts hinX4 hown hK (hM.rg (r := r) (by omega)) rfl 3 (by decide) (by decide +kernel) rfl dX5_signRefusal_16 ?_
    refine kx_ci (x := e (56 + 4 * r + 3)) (y := bI (stkB e r)) (stk_is hI (by first | assumption | omega)) ?_
    refine kb_if_ne (tgt := 30) hx hb dX5_signRefusal_19 (by decide) (fun hst => ?_) (fun hst => ?_)
    · refine lv_iconst (v := nI 3) hx hb dX5_signRefusal_30 (by decide) ?_
      refine lv_goto (tgt := 35) hx hb dX5_signRefusal_31 (by decide) ?_
      exact kx_iretP hx hb hrt hlk (congrArg nI (by have h9 := stk_is hI hrr; have h8 := fc_cp (z := e) (r := r); have h7 : ¬ nI 0 = nI 1 := (by decide); first | (have h5 := h8.mp hcp; simp [c23, wsg, *, bI_t, bI_f, nI1_0, nI01]; done) | (have h5 : ¬ fcI e r = -1000 := fun q => hcp (h8.mpr q); simp [c23, wsg, *, bI_t, bI_f, nI1_0, nI01]; done) | (simp [c23, wsg, *, bI_t, bI_f, nI1_0, nI01]; done))) dX5_signRefusal_35
    · refine lv_aload_n hx hb dX5_signRefusal_22 rfl (lv_at hl 0 rfl) ?_
      refine lv_iload_n hx hb dX5_signRefusal_23 rfl (lv_at hl 1 rfl) ?_
      refine kx_retP (va_runV (As := [.int (nI (r))]) (rest := []) ⟨hx, hb, hml, hown, hts⟩ (k_X5_countCopiedTo l D cs q e g r hI (by first | assumption | omega)) (cwV 1 hts gX5_signRefusal_X5_countCopiedTo rfl rfl rfl (by decide +kernel) ⟨Nat.le_of_ble_eq_true rfl, Nat.le_of_ble_eq_true rfl⟩) (kx_preV hK hN hM.obj rfl hM) rfl rfl hl.1 rfl (lv_room (Nat.le_of_ble_eq_true rfl)) dX5_signRefusal_24 ⟨Nat.le_of_ble_eq_true rfl, Nat.le_of_ble_eq_true rfl⟩) ?_
      refine kn_if_ne (tgt := 34) hx hb dX5_signRefusal_27 (by decide) (by have := cpK_le e r (Mn e); have e9 : cpN e r = cpK e r (Mn e) := rfl; omega) (fun hcp => ?_) (fun hcp => ?_)
      · refine lv_iconst (v := nI 0) hx hb dX5_signRefusal_34 (by decide) ?_
        exact kx_iretP hx hb hrt hlk (congrArg nI (by have h9 := stk_is hI hrr; have h8 := fc_cp (z := e) (r := r); have h7 : ¬ nI 0 = nI 1 := (by decide); first | (have h5 := h8.mp hcp; simp [c23, wsg, *, bI_t, bI_f, nI1_0, nI01]; done) | (have h5 : ¬ fcI e r = -1000 := fun q => hcp (h8.mpr q); simp [c23, wsg, *, bI_t, bI_f, nI1_0, nI01]; done) | (simp [c23, wsg, *, bI_t, bI_f, nI1_0, nI01]; done))) dX5_signRefusal_35
      · refine lv_iconst (v := nI 3) hx hb dX5_signRefusal_30 (by decide) ?_
        refine lv_goto (tgt := 35) hx hb dX5_signRefusal_31 (by decide) ?_
        exact kx_iretP hx hb hrt hlk (congrArg nI (by have h9 := stk_is hI hrr; have h8 := fc_cp (z := e) (r := r); have h7 : ¬ nI 0 = nI 1 := (by decide); first | (have h5 := h8.mp hcp; simp [c23, wsg, *, bI_t, bI_f, nI1_0, nI01]; done) | (have h5 : ¬ fcI e r = -1000 := fun q => hcp (h8.mpr q); simp [c23, wsg, *, bI_t, bI_f, nI1_0, nI01]; done) | (simp [c23, wsg, *, bI_t, bI_f, nI1_0, nI01]; done))) dX5_signRefusal_35
  · refine lv_iconst (v := nI 1) hx hb dX5_signRefusal_8 (by decide) ?_
    exact kx_iretP hx hb hrt hlk (congrArg nI (by simp [c23, wsg, *])) dX5_signRefusal_9
set_option maxHeartbeats 2500000 in
set_option maxRecDepth 100000 in
theorem k_X5_markSigned (l : Launch) (D : va_G) (cs : Nat → ClassId) (q : Nat) (e : Nat → Int32) (g : Nat → Int64) (mv : Nat) (hm : mv < 24) : Met l yX5_markSigned wsX5_markSigned ({ frames := 0, cells := 0, slots := 0, locals := 0 } : Room) (PcK D cs [.ref (q), .ref (q + 11 + 2 * mv)] (fun H => StC D cs q e g H)) (QcM none (fun H => StC D cs q (signF e mv) g H) (rgS q)) 0 0 ((rgS q)) := by
  refine kx_met (cc := cX5_markSigned) (maxL := 2) (ret := none) (by decide) rfl (Nat.le_of_ble_eq_true rfl) ?_
  intro p en s m args below meth c hx hb hml hrt hts hown hlk hK hN hP ls hl
  have hl : lv_has ls 2 [(0, .ref (q)), (1, .ref (q + 11 + 2 * mv))] := hl
  obtain ⟨H, hHe⟩ : ∃ H : Heap, H = s.heap := ⟨_, rfl⟩
  rw [← hHe] at hP ⊢
  have hS : va_S ((rgS q)) s.heap H [] := by rw [← hHe]; exact va_S.rf
  have hinX3 : ∀ w ∈ wsX30, w ∈ wsX5_markSigned := by decide +kernel
  have hinX5 : ∀ w ∈ wsX50, w ∈ wsX5_markSigned := by decide +kernel
  have hM := hP
  refine lv_aload_n hx hb dX5_markSigned_0 rfl (lv_at hl 1 rfl) ?_
  refine lv_iconst (v := nI 3) hx hb dX5_markSigned_1 (by decide) ?_
  refine kx_put hx hb hts hinX3 tyX3_ok nmX3 hown hK (hM.mv (m := mv) (by omega)) rfl hS ⟨by omega, by omega⟩ 7 (by decide) (by decide +kernel) rfl rfl rfl (Nat.le_of_ble_eq_true rfl) dX5_markSigned_2 (fun H locs hc hU hS => ?_)
  have hM := hM.put_phase (m := mv) (by omega) hc hU
  clear hc hU
  refine lv_aload_n hx hb dX5_markSigned_5 rfl (lv_at hl 1 rfl) ?_
  refine lv_aload_n hx hb dX5_markSigned_6 rfl (lv_at hl 0 rfl) ?_
  refine kx_get (v := .int ((upd e (80 + 10 * mv + 5) (nI (3))) 0)) hx hb hts hinX5 hown hK hM.obj rfl 8 (by decide) (by decide +kernel) rfl dX5_markSigned_7 ?_
  refine kx_ci (x := (upd e (80 + 10 * mv + 5) (nI (3))) 0) (y := e 0) (by simp only [upd_at]; (repeat rw [if_neg (by omega)])) ?_
  refine kx_put hx hb hts hinX3 tyX3_ok nmX3 hown hK (hM.mv (m := mv) (by omega)) rfl hS ⟨by omega, by omega⟩ 11 (by decide) (by decide +kernel) rfl rfl rfl (Nat.le_of_ble_eq_true rfl) dX5_markSigned_10 (fun H locs hc hU hS => ?_)
  have hM := hM.put_signed (m := mv) (by omega) hc hU
  clear hc hU
  refine lv_aload_n hx hb dX5_markSigned_13 rfl (lv_at hl 0 rfl) ?_
  refine lv_dup hx hb dX5_markSigned_14 rfl ?_
  refine kx_get (v := .int ((upd (upd e (80 + 10 * mv + 5) (nI (3))) (80 + 10 * mv + 9) (e 0)) 6)) hx hb hts hinX5 hown hK hM.obj rfl 10 (by decide) (by decide +kernel) rfl dX5_markSigned_15 ?_
  refine kx_ci (x := (upd (upd e (80 + 10 * mv + 5) (nI (3))) (80 + 10 * mv + 9) (e 0)) 6) (y := e 6) (by simp only [upd_at]; (repeat rw [if_neg (by omega)])) ?_
  refine lv_iconst (v := nI 1) hx hb dX5_markSigned_18 (by decide) ?_
  refine lv_iadd hx hb dX5_markSigned_19 ?_
  refine kx_put hx hb hts hinX5 tyX5_ok nmX5 hown hK hM.obj rfl hS ⟨by omega, by omega⟩ 10 (by decide) (by decide +kernel) rfl rfl rfl (Nat.le_of_ble_eq_true rfl) dX5_markSigned_20 (fun H locs hc hU hS => ?_)
  have hM := hM.put_signedInAll hc hU
  clear hc hU
  exact kx_vretM hx hb hrt hlk hM hS dX5_markSigned_23
set_option maxHeartbeats 2500000 in
set_option maxRecDepth 100000 in
theorem k_X5_signFirst (l : Launch) (D : va_G) (cs : Nat → ClassId) (q : Nat) (e : Nat → Int32) (g : Nat → Int64) (r : Nat) (hI : Inv e) (hr : r < Rn e) (hf : fcN e r < Mn e) : Met l yX5_signFirst wsX5_signFirst ({ frames := 1, cells := 0, slots := 0, locals := 21 } : Room) (PcK D cs [.ref (q), .int (nI (r))] (fun H => StC D cs q e g H)) (QcM (some (.int (nI (fcN e r)))) (fun H => StC D cs q (signF e (fcN e r)) g H) (rgS q)) 0 0 ((rgS q)) := by
  refine kx_met (cc := cX5_signFirst) (maxL := 3) (ret := (some .int)) (by decide) rfl (Nat.le_of_ble_eq_true rfl) ?_
  intro p en s m args below meth c hx hb hml hrt hts hown hlk hK hN hP ls hl
  have hl : lv_has ls 3 [(0, .ref (q)), (1, .int (nI (r)))] := hl
  obtain ⟨H, hHe⟩ : ∃ H : Heap, H = s.heap := ⟨_, rfl⟩
  rw [← hHe] at hP ⊢
  have hS : va_S ((rgS q)) s.heap H [] := by rw [← hHe]; exact va_S.rf
  have hinX5 : ∀ w ∈ wsX50, w ∈ wsX5_signFirst := by decide +kernel
  have hM := hP
  have h24 := hI.M24
  have h6 := hI.R6
  refine lv_iconst (v := nI 0) hx hb dX5_signFirst_0 (by decide) ?_
  refine lv_istore_n (lv' := [(2, .int (nI (0))), (0, .ref (q)), (1, .int (nI (r)))]) hx hb dX5_signFirst_1 rfl hl (by decide) rfl (fun ls hl => ?_)
  have J2 : ∀ (fu2 : Nat) (k : Nat) (H : Heap) (locs : List Loc) (ls : Array Slot), (Mn e - k) < fu2 → (k ≤ Mn e) → (∀ j, j < k → isC e r j = false) → (StC D cs q e g H) → va_S ((rgS q)) s.heap H locs → lv_has ls 3 [(0, .ref (q)), (1, .int (nI (r))), (2, .int (nI (k)))] → W p l en ({ frames := 1, cells := 0, slots := 0, locals := 21 } : Room) s m args below meth c H locs 0 0 (MQ below (QcM (some (.int (nI (fcN e r)))) (fun H => StC D cs q (signF e (fcN e r)) g H) (rgS q)) args s 0 0 ((rgS q))) (F0 m 2 ls []) := by
    intro fu2; induction fu2 with
    | zero => intro k H locs ls hmu2 hk hno hM hS hl; exact absurd hmu2 (Nat.not_lt_zero _)
    | succ fu2 ih2 =>
      intro k H locs ls hmu2 hk hno hM hS hl
      refine lv_iload_n hx hb dX5_signFirst_2 rfl (lv_at hl 2 rfl) ?_
      refine lv_aload_n hx hb dX5_signFirst_3 rfl (lv_at hl 0 rfl) ?_
      refine kx_get (v := .int (e 4)) hx hb hts hinX5 hown hK hM.obj rfl 5 (by decide) (by decide +kernel) rfl dX5_signFirst_4 ?_
      refine kx_ci (x := e 4) (y := nI (Mn e)) (Inv.z4 hI) ?_
      refine kn_icmp_ge (tgt := 41) hx hb dX5_signFirst_7 (by decide) (by omega) (by omega) (fun c_1 => ?_) (fun c_1 => ?_)
      · exact absurd (firstN_none (p := isC e r) (n := Mn e) (fun j hj => hno j (by omega))) (by show ¬ fcN e r = Mn e; omega)
      · have hkM : k < Mn e := by omega
        refine lv_aload_n hx hb dX5_signFirst_10 rfl (lv_at hl 0 rfl) ?_
        refine kx_get (v := .ref (q + 3)) hx hb hts hinX5 hown hK hM.obj rfl 2 (by decide) (by decide +kernel) rfl dX5_signFirst_11 ?_
        refine lv_iload_n hx hb dX5_signFirst_14 rfl (lv_at hl 2 rfl) ?_
        refine kx_aald (i := k) hx hb hK hM.moves 3 rfl (by omega) (by decide) rfl dX5_signFirst_15 ?_
        refine lv_iload_n hx hb dX5_signFirst_16 rfl (lv_at hl 1 rfl) ?_
        refine kx_retP (va_runS (As := [.ref (q + 11 + 2 * k), .int (nI (r))]) (rest := []) ⟨hx, hb, hml, hown, hts⟩ (k_X5_isCopiedTo l D cs q e g k r hI (by first | assumption | omega) (by omega)) (cwS 2 hts gX5_signFirst_X5_isCopiedTo rfl rfl rfl (by decide +kernel) ⟨Nat.le_of_ble_eq_true rfl, Nat.le_of_ble_eq_true rfl⟩) (kx_preS hK hN hM) rfl rfl hl.1 rfl (lv_room (Nat.le_of_ble_eq_true rfl)) dX5_signFirst_17 ⟨Nat.le_of_ble_eq_true rfl, Nat.le_of_ble_eq_true rfl⟩) ?_
        refine kb_if_eq (tgt := 35) hx hb dX5_signFirst_20 (by decide) (fun hic => ?_) (fun hic => ?_)
        · refine lv_iinc (v := nI (k + 1)) (lv' := [(2, .int (nI (k + 1))), (0, .ref (q)), (1, .int (nI (r)))]) (k := 2) hx hb dX5_signFirst_35 hl rfl (nI_add _ _) (by decide) rfl (fun ls hl => ?_)
          refine lv_goto (tgt := 2) hx hb dX5_signFirst_38 (by decide) ?_
          exact ih2 (k + 1) _ _ _ (by omega) (by omega) (no_s hno hic) hM hS (lv_sub hl [1, 2, 0] rfl)
        · have hke : fcN e r = k := firstN_is hno hkM hic
          refine lv_aload_n hx hb dX5_signFirst_23 rfl (lv_at hl 0 rfl) ?_
          refine lv_aload_n hx hb dX5_signFirst_24 rfl (lv_at hl 0 rfl) ?_
          refine kx_get (v := .ref (q + 3)) hx hb hts hinX5 hown hK hM.obj rfl 2 (by decide) (by decide +kernel) rfl dX5_signFirst_25 ?_
          refine lv_iload_n hx hb dX5_signFirst_28 rfl (lv_at hl 2 rfl) ?_
          refine kx_aald (i := k) hx hb hK hM.moves 3 rfl (by omega) (by decide) rfl dX5_signFirst_29 ?_
          refine kx_retM (va_runV (As := [.ref (q + 11 + 2 * k)]) (rest := []) ⟨hx, hb, hml, hown, hts⟩ (k_X5_markSigned l D cs q e g k (by first | assumption | omega)) (cwV 1 hts gX5_signFirst_X5_markSigned rfl rfl rfl (by decide +kernel) ⟨Nat.le_of_ble_eq_true rfl, Nat.le_of_ble_eq_true rfl⟩) (kx_preV hK hN hM.obj rfl hM) rfl rfl hl.1 rfl (lv_room (Nat.le_of_ble_eq_true rfl)) dX5_signFirst_30 ⟨Nat.le_of_ble_eq_true rfl, Nat.le_of_ble_eq_true rfl⟩) hS (fun x _ h => by first | exact h | exact ⟨by have h1 := h.1; have h2 := h.2; omega, by have h1 := h.1; have h2 := h.2; omega⟩) (fun x h => by first | exact h | exact ⟨by have h1 := h.1; have h2 := h.2; omega, by have h1 := h.1; have h2 := h.2; omega⟩) (fun H locs hMN hk hS => ?_)
          have hM := hMN
          clear hk hMN
          refine lv_iload_n hx hb dX5_signFirst_33 rfl (lv_at hl 2 rfl) ?_
          exact kx_iretM hx hb hrt hlk (by rw [hke]) (by rw [hke]; exact hM) hS dX5_signFirst_34
  exact J2 _ 0 _ _ _ (Nat.lt_succ_self _) (by omega) (fun j hj => absurd hj (Nat.not_lt_zero j)) hM hS (lv_sub hl [1, 2, 0] rfl)
set_option maxHeartbeats 2500000 in
set_option maxRecDepth 100000 in
theorem k_X5_strikeRefusal (l : Launch) (D : va_G) (cs : Nat → ClassId) (q : Nat) (e : Nat → Int32) (g : Nat → Int64) (x : Int32) (y : Bool) (hI : Inv e) : Met l yX5_strikeRefusal wsX5_strikeRefusal ({ frames := 1, cells := 0, slots := 0, locals := 21 } : Room) (PcK D cs [.ref (q), .int (x), .int (bI (y))] (fun H => StC D cs q e g H)) (QcP (some (.int (nI (c23 (wst e x (bI y))))))) 0 0 nowhere := by
  refine kx_met (cc := cX5_strikeRefusal) (maxL := 3) (ret := (some .int)) (by decide) rfl (Nat.le_of_ble_eq_true rfl) ?_
  intro p en s m args below meth c hx hb hml hrt hts hown hlk hK hN hP ls hl
  have hl : lv_has ls 3 [(0, .ref (q)), (1, .int (x)), (2, .int (bI (y)))] := hl
  have hinX4 : ∀ w ∈ wsX40, w ∈ wsX5_strikeRefusal := by decide +kernel
  have hinX5 : ∀ w ∈ wsX50, w ∈ wsX5_strikeRefusal := by decide +kernel
  have hM := hP
  have h24 := hI.M24
  have h6 := hI.R6
  refine lv_aload_n hx hb dX5_strikeRefusal_0 rfl (lv_at hl 0 rfl) ?_
  refine lv_iload_n hx hb dX5_strikeRefusal_1 rfl (lv_at hl 1 rfl) ?_
  refine kx_retP (va_runV (As := [.int (x)]) (rest := []) ⟨hx, hb, hml, hown, hts⟩ (k_X5_hasRing l D cs q e g x hI) (cwV 1 hts gX5_strikeRefusal_X5_hasRing rfl rfl rfl (by decide +kernel) ⟨Nat.le_of_ble_eq_true rfl, Nat.le_of_ble_eq_true rfl⟩) (kx_preV hK hN hM.obj rfl hM) rfl rfl hl.1 rfl (lv_room (Nat.le_of_ble_eq_true rfl)) dX5_strikeRefusal_2 ⟨Nat.le_of_ble_eq_true rfl, Nat.le_of_ble_eq_true rfl⟩) ?_
  refine kb_if_ne (tgt := 10) hx hb dX5_strikeRefusal_5 (by decide) (fun hq => ?_) (fun hq => ?_)
  · obtain ⟨r, hrr, rfl⟩ := (lsB_iff (by omega)).mp hq
    have hnr : nn (nI r) = r := nn_nI (by omega)
    refine lv_aload_n hx hb dX5_strikeRefusal_10 rfl (lv_at hl 0 rfl) ?_
    refine kx_get (v := .ref (q + 2)) hx hb hts hinX5 hown hK hM.obj rfl 1 (by decide) (by decide +kernel) rfl dX5_strikeRefusal_11 ?_
    refine lv_iload_n hx hb dX5_strikeRefusal_14 rfl (lv_at hl 1 rfl) ?_
    refine kx_aald (i := r) hx hb hK hM.rings 2 rfl (by omega) (by decide) rfl dX5_strikeRefusal_15 ?_
    refine kx_get (v := .int (e (56 + 4 * r + 3))) hx hb hts hinX4 hown hK (hM.rg (r := r) (by omega)) rfl 3 (by decide) (by decide +kernel) rfl dX5_strikeRefusal_16 ?_
    refine kx_ci (x := e (56 + 4 * r + 3)) (y := bI (stkB e r)) (stk_is hI (by first | assumption | omega)) ?_
    refine lv_iload_n hx hb dX5_strikeRefusal_19 rfl (lv_at hl 2 rfl) ?_
    refine lv_icmp_ne (tgt := 27) hx hb dX5_strikeRefusal_20 (by decide) (fun hst => ?_) (fun hst => ?_)
    · refine lv_iconst (v := nI 0) hx hb dX5_strikeRefusal_27 (by decide) ?_
      exact kx_iretP hx hb hrt hlk (congrArg nI (by have h9 := stk_is hI hrr; simp [c23, wst, *])) dX5_strikeRefusal_28
    · refine lv_iconst (v := nI 3) hx hb dX5_strikeRefusal_23 (by decide) ?_
      refine lv_goto (tgt := 28) hx hb dX5_strikeRefusal_24 (by decide) ?_
      exact kx_iretP hx hb hrt hlk (congrArg nI (by have h9 := stk_is hI hrr; simp [c23, wst, *])) dX5_strikeRefusal_28
  · refine lv_iconst (v := nI 1) hx hb dX5_strikeRefusal_8 (by decide) ?_
    exact kx_iretP hx hb hrt hlk (congrArg nI (by simp [c23, wst, *])) dX5_strikeRefusal_9
set_option maxHeartbeats 2500000 in
set_option maxRecDepth 100000 in
theorem k_X5_putStrike (l : Launch) (D : va_G) (cs : Nat → ClassId) (q : Nat) (e : Nat → Int32) (g : Nat → Int64) (r : Nat) (y : Bool) (hI : Inv e) (hr : r < Rn e) : Met l yX5_putStrike wsX5_putStrike ({ frames := 2, cells := 0, slots := 0, locals := 44 } : Room) (PcK D cs [.ref (q), .int (nI (r)), .int (bI (y))] (fun H => StC D cs q e g H)) (QcM (some (.int (nI (cpN e r)))) (fun H => StC D cs q (upd e (56 + 4 * r + 3) (bI y)) g H) (rgS q)) 0 0 ((rgS q)) := by
  refine kx_met (cc := cX5_putStrike) (maxL := 3) (ret := (some .int)) (by decide) rfl (Nat.le_of_ble_eq_true rfl) ?_
  intro p en s m args below meth c hx hb hml hrt hts hown hlk hK hN hP ls hl
  have hl : lv_has ls 3 [(0, .ref (q)), (1, .int (nI (r))), (2, .int (bI (y)))] := hl
  obtain ⟨H, hHe⟩ : ∃ H : Heap, H = s.heap := ⟨_, rfl⟩
  rw [← hHe] at hP ⊢
  have hS : va_S ((rgS q)) s.heap H [] := by rw [← hHe]; exact va_S.rf
  have hinX4 : ∀ w ∈ wsX40, w ∈ wsX5_putStrike := by decide +kernel
  have hinX5 : ∀ w ∈ wsX50, w ∈ wsX5_putStrike := by decide +kernel
  have hM := hP
  have h24 := hI.M24
  have h6 := hI.R6
  refine lv_aload_n hx hb dX5_putStrike_0 rfl (lv_at hl 0 rfl) ?_
  refine kx_get (v := .ref (q + 2)) hx hb hts hinX5 hown hK hM.obj rfl 1 (by decide) (by decide +kernel) rfl dX5_putStrike_1 ?_
  refine lv_iload_n hx hb dX5_putStrike_4 rfl (lv_at hl 1 rfl) ?_
  refine kx_aald (i := r) hx hb hK hM.rings 2 rfl (by omega) (by decide) rfl dX5_putStrike_5 ?_
  refine lv_iload_n hx hb dX5_putStrike_6 rfl (lv_at hl 2 rfl) ?_
  refine kx_put hx hb hts hinX4 tyX4_ok nmX4 hown hK (hM.rg (r := r) (by omega)) rfl hS ⟨by omega, by omega⟩ 3 (by decide) (by decide +kernel) rfl (bI_nar _) (bI_fit _) (Nat.le_of_ble_eq_true rfl) dX5_putStrike_7 (fun H locs hc hU hS => ?_)
  have hM := hM.put_strikes (r := r) (by omega) hc hU
  clear hc hU
  have hM : StC D cs q (upd e (56 + 4 * r + 3) (bI y)) g H := hM
  refine lv_aload_n hx hb dX5_putStrike_10 rfl (lv_at hl 0 rfl) ?_
  refine lv_iload_n hx hb dX5_putStrike_11 rfl (lv_at hl 1 rfl) ?_
  refine kx_retP (va_runV (As := [.int (nI (r))]) (rest := []) ⟨hx, hb, hml, hown, hts⟩ (k_X5_countCopiedTo l D cs q (upd e (56 + 4 * r + 3) (bI y)) g r (stk_inv hI r y) (by rw [stk_R]; exact hr)) (cwV 1 hts gX5_putStrike_X5_countCopiedTo rfl rfl rfl (by decide +kernel) ⟨Nat.le_of_ble_eq_true rfl, Nat.le_of_ble_eq_true rfl⟩) (kx_preV hK hN hM.obj rfl hM) rfl rfl hl.1 rfl (lv_room (Nat.le_of_ble_eq_true rfl)) dX5_putStrike_12 ⟨Nat.le_of_ble_eq_true rfl, Nat.le_of_ble_eq_true rfl⟩) ?_
  refine kx_ci (x := nI (cpN (upd e (56 + 4 * r + 3) (bI y)) r)) (y := nI (cpN e r)) (congrArg nI (stk_cp _ _ _ _)) ?_
  exact kx_iretM hx hb hrt hlk rfl hM hS dX5_putStrike_15
set_option maxHeartbeats 2500000 in
set_option maxRecDepth 100000 in
theorem k_X5_passRefusal (l : Launch) (D : va_G) (cs : Nat → ClassId) (q : Nat) (e : Nat → Int32) (g : Nat → Int64) (x : Int32) : Met l yX5_passRefusal wsX5_passRefusal ({ frames := 1, cells := 0, slots := 0, locals := 22 } : Room) (PcK D cs [.ref (q), .int (x)] (fun H => StC D cs q e g H)) (QcP (some (.int (nI (c12 (wtk e x)))))) 0 0 nowhere := by
  refine kx_met (cc := cX5_passRefusal) (maxL := 2) (ret := (some .int)) (by decide) rfl (Nat.le_of_ble_eq_true rfl) ?_
  intro p en s m args below meth c hx hb hml hrt hts hown hlk hK hN hP ls hl
  have hl : lv_has ls 2 [(0, .ref (q)), (1, .int (x))] := hl
  have hinX5 : ∀ w ∈ wsX50, w ∈ wsX5_passRefusal := by decide +kernel
  have hM := hP
  refine lv_iload_n hx hb dX5_passRefusal_0 rfl (lv_at hl 1 rfl) ?_
  refine lv_iconst (v := nI 1) hx hb dX5_passRefusal_1 (by decide) ?_
  refine lv_bipush (v := nI 50) hx hb dX5_passRefusal_2 (by decide) ?_
  refine kx_retP (va_runSN (As := [.int (x), .int (nI (1)), .int (nI (50))]) (rest := []) ⟨hx, hb, hml, hown, hts⟩ (k_X7_isWithin l D cs x (nI (1)) (nI (50))) ⟨va_cnB 3 hts ggX5_passRefusal_X7_isWithin rfl rfl rfl hN.2.2.2.2.2.1 (hts (.initialized RX7) (by decide +kernel)) (by decide +kernel) ⟨Nat.le_of_ble_eq_true rfl, Nat.le_of_ble_eq_true rfl⟩, hts (.static yX7_isWithin) (by decide +kernel), trivial⟩ (kx_preS hK hN trivial) rfl rfl hl.1 rfl (lv_room (Nat.le_of_ble_eq_true rfl)) dX5_passRefusal_4 ⟨Nat.le_of_ble_eq_true rfl, Nat.le_of_ble_eq_true rfl⟩) ?_
  refine kb_if_ne (tgt := 12) hx hb dX5_passRefusal_7 (by decide) (fun c_1 => ?_) (fun c_1 => ?_)
  · refine lv_aload_n hx hb dX5_passRefusal_12 rfl (lv_at hl 0 rfl) ?_
    refine kx_get (v := .int (e 0)) hx hb hts hinX5 hown hK hM.obj rfl 8 (by decide) (by decide +kernel) rfl dX5_passRefusal_13 ?_
    refine lv_iload_n hx hb dX5_passRefusal_16 rfl (lv_at hl 1 rfl) ?_
    refine lv_iadd hx hb dX5_passRefusal_17 ?_
    refine lv_sipush (v := nI 9999) hx hb dX5_passRefusal_18 (by decide) ?_
    refine lv_icmp_le (tgt := 28) hx hb dX5_passRefusal_21 (by decide) (fun h21 => ?_) (fun h21 => ?_)
    · refine lv_iconst (v := nI 0) hx hb dX5_passRefusal_28 (by decide) ?_
      exact kx_iretP hx hb hrt hlk (congrArg nI (by first | (simp [c12, wtk, i_nle.mp, *]; done) | (simp [c12, wtk, i_nle, *]; done))) dX5_passRefusal_29
    · refine lv_iconst (v := nI 3) hx hb dX5_passRefusal_24 (by decide) ?_
      refine lv_goto (tgt := 29) hx hb dX5_passRefusal_25 (by decide) ?_
      exact kx_iretP hx hb hrt hlk (congrArg nI (by first | (simp [c12, wtk, i_nle.mp, *]; done) | (simp [c12, wtk, i_nle, *]; done))) dX5_passRefusal_29
  · refine lv_iconst (v := nI 2) hx hb dX5_passRefusal_10 (by decide) ?_
    exact kx_iretP hx hb hrt hlk (congrArg nI (by simp [c12, wtk, *])) dX5_passRefusal_11
