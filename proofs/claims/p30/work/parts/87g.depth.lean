/-! the law's depths -/
set_option maxHeartbeats 2500000 in
set_option maxRecDepth 100000 in
theorem k_L_depth (l : Launch) (D : va_G) (cs : Nat → ClassId) (a : Nat) (z : Nat → Int32) (g : Nat → Int64) (mv : Nat) (hI : Inv z) (hG : Msk z g) (hB : LB z) (hm : mv < Mn z) (n : Nat) : Met l yL_depth wsL_depth ({ frames := 2, cells := 1, slots := 8, locals := 50 } : Room) (PcK D cs [.int (nI (mv)), .ref (a + 3), .ref (a + 5)] (fun H => LwC D cs a z g H ∧ H.size = n)) (QcM (some (.int (nI (dpN z mv)))) (fun H => LwC D cs a z g H ∧ H.size = n + 1) (fun y9 => n ≤ y9)) 1 8 ((fun y9 => n ≤ y9)) := by
  refine kx_met (cc := cL_depth) (maxL := 6) (ret := (some .int)) (by decide) rfl (Nat.le_of_ble_eq_true rfl) ?_
  intro p en s m args below meth c hx hb hml hrt hts hown hlk hK hN hP ls hl
  have hl : lv_has ls 6 [(0, .int (nI (mv))), (1, .ref (a + 3)), (2, .ref (a + 5))] := hl
  obtain ⟨H, hHe⟩ : ∃ H : Heap, H = s.heap := ⟨_, rfl⟩
  rw [← hHe] at hP ⊢
  have hS : va_S ((fun y9 => n ≤ y9)) s.heap H [] := by rw [← hHe]; exact va_S.rf
  have hL := hP.1
  have hz := hP.2
  have han := hL.lt (a + 5) (by omega) (by omega)
  rw [hz] at han
  have h24 := hI.M24
  have h6 := hI.R6
  have h8 := hB.M8
  have hR3 := hB.R
  refine lv_bipush (v := nI 8) hx hb dL_depth_0 (by decide) ?_
  refine kx_newi hx hb hts (by decide +kernel) hK hS hz 0 rfl (n := 8) (by decide) (Nat.le_of_ble_eq_true rfl) (Nat.le_of_ble_eq_true rfl) dL_depth_2 (fun H hA9 z1 o1 hS => ?_)
  have hL := hL.keep (fun x h1 h2 => o1 x (by omega))
  have hWdp := hA9
  have hz := z1
  clear hA9 z1 o1
  refine lv_astore_n (lv' := [(3, .ref (n)), (0, .int (nI (mv))), (1, .ref (a + 3)), (2, .ref (a + 5))]) hx hb dL_depth_4 rfl hl (by decide) rfl (fun ls hl => ?_)
  refine lv_iconst (v := nI 0) hx hb dL_depth_5 (by decide) ?_
  refine lv_istore (lv' := [(4, .int (nI (0))), (3, .ref (n)), (0, .int (nI (mv))), (1, .ref (a + 3)), (2, .ref (a + 5))]) hx hb dL_depth_6 hl (by decide) rfl (fun ls hl => ?_)
  have J8 : ∀ (fu8 : Nat) (k : Nat) (H : Heap) (locs : List Loc) (ls : Array Slot), (mv + 1 - k) < fu8 → (k ≤ mv + 1) → (va_at D vwCl (n, .inl (cs 0, 8, .inl (dtF z k))) H) → (H.size = n + 1) → (LwC D cs a z g H) → va_S ((fun y9 => n ≤ y9)) s.heap H locs → lv_has ls 6 [(0, .int (nI (mv))), (1, .ref (a + 3)), (2, .ref (a + 5)), (3, .ref (n)), (4, .int (nI (k)))] → W p l en ({ frames := 2, cells := 1, slots := 8, locals := 50 } : Room) s m args below meth c H locs (0 + 1) (0 + 8) (MQ below (QcM (some (.int (nI (dpN z mv)))) (fun H => LwC D cs a z g H ∧ H.size = n + 1) (fun y9 => n ≤ y9)) args s 1 8 ((fun y9 => n ≤ y9))) (F0 m 8 ls []) := by
    intro fu8; induction fu8 with
    | zero => intro k H locs ls hmu8 hk hWdp hz hL hS hl; exact absurd hmu8 (Nat.not_lt_zero _)
    | succ fu8 ih8 =>
      intro k H locs ls hmu8 hk hWdp hz hL hS hl
      refine lv_iload hx hb dL_depth_8 (lv_at hl 4 rfl) ?_
      refine lv_iload_n hx hb dL_depth_10 rfl (lv_at hl 0 rfl) ?_
      refine kn_icmp_gt (tgt := 73) hx hb dL_depth_11 (by decide) (by omega) (by omega) (fun c_1 => ?_) (fun c_1 => ?_)
      · refine lv_aload_n hx hb dL_depth_73 rfl (lv_at hl 3 rfl) ?_
        refine lv_iload_n hx hb dL_depth_74 rfl (lv_at hl 0 rfl) ?_
        refine kx_iald (i := mv) hx hb hK hWdp 0 rfl (by omega) (by omega) dL_depth_75 ?_
        refine kx_ci (x := (dtF z k) mv) (y := nI (dpN z mv)) (by have hkk : k = mv + 1 := (by omega); subst hkk; rfl) ?_
        exact kx_iretN hx hb hrt hlk rfl ⟨hL, hz⟩ hS (Nat.le_of_ble_eq_true rfl) (Nat.le_of_ble_eq_true rfl) dL_depth_76
      · refine lv_iconst (v := nI 0) hx hb dL_depth_14 (by decide) ?_
        refine lv_istore (lv' := [(5, .int (nI (0))), (0, .int (nI (mv))), (1, .ref (a + 3)), (2, .ref (a + 5)), (3, .ref (n)), (4, .int (nI (k)))]) hx hb dL_depth_15 hl (by decide) rfl (fun ls hl => ?_)
        have J17 : ∀ (fu17 : Nat) (er : Nat) (H : Heap) (locs : List Loc) (ls : Array Slot), (k - er) < fu17 → (er ≤ k) → (va_at D vwCl (n, .inl (cs 0, 8, .inl (dwF z k er))) H) → (H.size = n + 1) → (LwC D cs a z g H) → va_S ((fun y9 => n ≤ y9)) s.heap H locs → lv_has ls 6 [(0, .int (nI (mv))), (1, .ref (a + 3)), (2, .ref (a + 5)), (3, .ref (n)), (4, .int (nI (k))), (5, .int (nI (er)))] → W p l en ({ frames := 2, cells := 1, slots := 8, locals := 50 } : Room) s m args below meth c H locs (0 + 1) (0 + 8) (MQ below (QcM (some (.int (nI (dpN z mv)))) (fun H => LwC D cs a z g H ∧ H.size = n + 1) (fun y9 => n ≤ y9)) args s 1 8 ((fun y9 => n ≤ y9))) (F0 m 17 ls []) := by
          intro fu17; induction fu17 with
          | zero => intro er H locs ls hmu17 he hWdp hz hL hS hl; exact absurd hmu17 (Nat.not_lt_zero _)
          | succ fu17 ih17 =>
            intro er H locs ls hmu17 he hWdp hz hL hS hl
            refine lv_iload hx hb dL_depth_17 (lv_at hl 5 rfl) ?_
            refine lv_iload hx hb dL_depth_19 (lv_at hl 4 rfl) ?_
            refine kn_icmp_ge (tgt := 67) hx hb dL_depth_21 (by decide) (by omega) (by omega) (fun c_2 => ?_) (fun c_2 => ?_)
            · have hee : er = k := by omega
              have hWdp : va_at D vwCl (n, .inl (cs 0, 8, .inl (dtF z (k + 1)))) H := by rw [← dw_end, ← hee]; rw [hee] at hWdp ⊢; exact hWdp
              refine lv_iinc (v := nI (k + 1)) (lv' := [(4, .int (nI (k + 1))), (0, .int (nI (mv))), (1, .ref (a + 3)), (2, .ref (a + 5)), (3, .ref (n)), (5, .int (nI (er)))]) (k := 4) hx hb dL_depth_67 hl rfl (nI_add _ _) (by decide) rfl (fun ls hl => ?_)
              refine lv_goto (tgt := 8) hx hb dL_depth_70 (by decide) ?_
              exact ih8 (k + 1) _ _ _ (by omega) (by omega) hWdp hz hL hS (lv_sub hl [1, 2, 3, 4, 0] rfl)
            · refine lv_iload hx hb dL_depth_24 (lv_at hl 4 rfl) ?_
              refine lv_aload_n hx hb dL_depth_26 rfl (lv_at hl 1 rfl) ?_
              refine lv_aload_n hx hb dL_depth_27 rfl (lv_at hl 2 rfl) ?_
              refine kx_retP (va_runS (As := [.int (nI (k)), .ref (a + 3), .ref (a + 5)]) (rest := []) ⟨hx, hb, hml, hown, hts⟩ (k_L_waitsFor l D cs a z g k hI hG hB (by omega)) (cwS 3 hts gL_depth_L_waitsFor rfl rfl rfl (by decide +kernel) ⟨Nat.le_of_ble_eq_true rfl, Nat.le_of_ble_eq_true rfl⟩) (kx_preS hK hN hL) rfl rfl hl.1 rfl (lv_room (Nat.le_of_ble_eq_true rfl)) dL_depth_28 ⟨Nat.le_of_ble_eq_true rfl, Nat.le_of_ble_eq_true rfl⟩) ?_
              refine lv_iload hx hb dL_depth_31 (lv_at hl 5 rfl) ?_
              refine kn_shr hx hb (Nat.lt_trans (woN_lt z (by omega)) (by decide)) (by omega) dL_depth_33 ?_
              refine lv_iconst (v := nI 1) hx hb dL_depth_34 (by decide) ?_
              refine kn_and hx hb dL_depth_35 ?_
              refine lv_iconst (v := nI 1) hx hb dL_depth_36 (by decide) ?_
              refine kn_icmp_ne (tgt := 61) hx hb dL_depth_37 (by decide) (Nat.lt_of_le_of_lt Nat.and_le_right (by decide)) (by decide) (fun hb1 => ?_) (fun hb1 => ?_)
              · have hWdp : va_at D vwCl (n, .inl (cs 0, 8, .inl (dwF z k (er + 1)))) H := by rw [dw_no z (by first | exact Or.inl hb1 | exact Or.inr (by omega))]; exact hWdp
                refine lv_iinc (v := nI (er + 1)) (lv' := [(5, .int (nI (er + 1))), (0, .int (nI (mv))), (1, .ref (a + 3)), (2, .ref (a + 5)), (3, .ref (n)), (4, .int (nI (k)))]) (k := 5) hx hb dL_depth_61 hl rfl (nI_add _ _) (by decide) rfl (fun ls hl => ?_)
                refine lv_goto (tgt := 17) hx hb dL_depth_64 (by decide) ?_
                exact ih17 (er + 1) _ _ _ (by omega) (by omega) hWdp hz hL hS (lv_sub hl [1, 2, 3, 4, 5, 0] rfl)
              · refine lv_aload_n hx hb dL_depth_40 rfl (lv_at hl 3 rfl) ?_
                refine lv_iload hx hb dL_depth_41 (lv_at hl 5 rfl) ?_
                refine kx_iald (i := er) hx hb hK hWdp 0 rfl (by omega) (by omega) dL_depth_43 ?_
                refine kx_ci (x := (dwF z k er) er) (y := nI (dpT z k er)) (dw_lo z (by omega)) ?_
                refine lv_aload_n hx hb dL_depth_44 rfl (lv_at hl 3 rfl) ?_
                refine lv_iload hx hb dL_depth_45 (lv_at hl 4 rfl) ?_
                refine kx_iald (i := k) hx hb hK hWdp 0 rfl (by omega) (by omega) dL_depth_47 ?_
                refine kx_ci (x := (dwF z k er) k) (y := nI (dpV z (dpT z k) k er)) (dw_at z k er) ?_
                refine kn_icmp_lt (tgt := 61) hx hb dL_depth_48 (by decide) (Nat.lt_trans (dpT_lt z (by omega)) (by decide)) (Nat.lt_trans (dpV_lt z (by omega) (by omega)) (by decide)) (fun hb2 => ?_) (fun hb2 => ?_)
                · have hWdp : va_at D vwCl (n, .inl (cs 0, 8, .inl (dwF z k (er + 1)))) H := by rw [dw_no z (by first | exact Or.inl hb1 | exact Or.inr (by omega))]; exact hWdp
                  refine lv_iinc (v := nI (er + 1)) (lv' := [(5, .int (nI (er + 1))), (0, .int (nI (mv))), (1, .ref (a + 3)), (2, .ref (a + 5)), (3, .ref (n)), (4, .int (nI (k)))]) (k := 5) hx hb dL_depth_61 hl rfl (nI_add _ _) (by decide) rfl (fun ls hl => ?_)
                  refine lv_goto (tgt := 17) hx hb dL_depth_64 (by decide) ?_
                  exact ih17 (er + 1) _ _ _ (by omega) (by omega) hWdp hz hL hS (lv_sub hl [1, 2, 3, 4, 5, 0] rfl)
                · refine lv_aload_n hx hb dL_depth_51 rfl (lv_at hl 3 rfl) ?_
                  refine lv_iload hx hb dL_depth_52 (lv_at hl 4 rfl) ?_
                  refine lv_aload_n hx hb dL_depth_54 rfl (lv_at hl 3 rfl) ?_
                  refine lv_iload hx hb dL_depth_55 (lv_at hl 5 rfl) ?_
                  refine kx_iald (i := er) hx hb hK hWdp 0 rfl (by omega) (by omega) dL_depth_57 ?_
                  refine kx_ci (x := (dwF z k er) er) (y := nI (dpT z k er)) (dw_lo z (by omega)) ?_
                  refine lv_iconst (v := nI 1) hx hb dL_depth_58 (by decide) ?_
                  refine kn_add hx hb dL_depth_59 ?_
                  refine kx_iast (i := k) hx hb hK hWdp hS (Nat.le_refl n) 0 rfl (by omega) (by omega) dL_depth_60 (fun H locs hc hU hS => ?_)
                  have hWdp : va_at D vwCl (n, .inl (cs 0, 8, .inl (upd (dwF z k er) k (nI (dpT z k er + 1))))) H := hc
                  have hz := hU.1.trans hz
                  have hL := hL.off hU (by omega)
                  clear hc hU
                  have hWdp : va_at D vwCl (n, .inl (cs 0, 8, .inl (dwF z k (er + 1)))) H := by rw [← dw_up z hb1 (by omega)]; exact hWdp
                  refine lv_iinc (v := nI (er + 1)) (lv' := [(5, .int (nI (er + 1))), (0, .int (nI (mv))), (1, .ref (a + 3)), (2, .ref (a + 5)), (3, .ref (n)), (4, .int (nI (k)))]) (k := 5) hx hb dL_depth_61 hl rfl (nI_add _ _) (by decide) rfl (fun ls hl => ?_)
                  refine lv_goto (tgt := 17) hx hb dL_depth_64 (by decide) ?_
                  exact ih17 (er + 1) _ _ _ (by omega) (by omega) hWdp hz hL hS (lv_sub hl [1, 2, 3, 4, 5, 0] rfl)
        exact J17 _ 0 _ _ _ (Nat.lt_succ_self _) (by omega) (by rw [dw_0]; exact hWdp) hz hL hS (lv_sub hl [1, 2, 3, 4, 5, 0] rfl)
  exact J8 _ 0 _ _ _ (Nat.lt_succ_self _) (by omega) (by rw [dt_0]; exact hWdp) hz hL hS (lv_sub hl [2, 3, 4, 1, 0] rfl)
