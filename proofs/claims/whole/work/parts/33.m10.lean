set_option maxHeartbeats 2500000 in
set_option maxRecDepth 100000 in
theorem k_X8_runCommands (l : Launch) (D : va_G) (cs : Nat → ClassId) (a : Nat) (z : Nat → Int32) (b : Nat → Int32) (n0 : Nat) (hT : TXT (t0 z) b n0) (hZ : InvZ z) : Met l yX8_runCommands wsX8_runCommands ({ frames := 8, cells := 0, slots := 0, locals := 186 } : Room) (PcK D cs [.ref (a)] (fun H => MdC D (cs 0) a z H)) (QcM (some (.int (rcA z b n0))) (fun H => ∃ y, MdC D (cs 0) a y H ∧ RcP z y b n0) (rgM a)) 0 0 ((rgM a)) := by
  refine kx_met (cc := cX8_runCommands) (maxL := 4) (ret := (some .int)) (by decide) rfl (Nat.le_of_ble_eq_true rfl) ?_
  intro p e s m args below meth c hx hb hml hrt hts hown hlk hK hN hP ls hl
  have hl : lv_has ls 4 [(0, .ref (a))] := hl
  obtain ⟨H, hHe⟩ : ∃ H : Heap, H = s.heap := ⟨_, rfl⟩
  rw [← hHe] at hP ⊢
  have hS : va_S ((rgM a)) s.heap H [] := by rw [← hHe]; exact va_S.rf
  have hinX8 : ∀ w ∈ wsX80, w ∈ wsX8_runCommands := by decide +kernel
  have hM := hP
  have hI := hZ.1
  have hn150 := hT.2.2
  have hS4 := hZ.2.1.2
  refine lv_aload_n hx hb dX8_runCommands_0 rfl (lv_at hl 0 rfl) ?_
  refine lv_iconst (v := nI 0) hx hb dX8_runCommands_1 (by decide) ?_
  refine kx_put hx hb hts hinX8 tyX8_ok nmX8 hown hK hM.1 rfl hS ⟨by omega, by omega⟩ 0 (by decide) (by decide +kernel) rfl rfl rfl (Nat.le_of_ble_eq_true rfl) dX8_runCommands_2 (fun H locs hc hU hS => ?_)
  have hM := hM.put_thrown hc hU
  clear hc hU
  refine lv_aload_n hx hb dX8_runCommands_5 rfl (lv_at hl 0 rfl) ?_
  refine lv_iconst (v := nI 0) hx hb dX8_runCommands_6 (by decide) ?_
  refine kx_put hx hb hts hinX8 tyX8_ok nmX8 hown hK hM.1 rfl hS ⟨by omega, by omega⟩ 7 (by decide) (by decide +kernel) rfl rfl rfl (Nat.le_of_ble_eq_true rfl) dX8_runCommands_7 (fun H locs hc hU hS => ?_)
  have hM := hM.put_place hc hU
  clear hc hU
  refine lv_aload_n hx hb dX8_runCommands_10 rfl (lv_at hl 0 rfl) ?_
  have hTa := (TX.pl (t0 z) (nI 0)).txt hT
  refine kx_retM (va_runV (As := []) (rest := []) ⟨hx, hb, hml, hown, hts⟩ (k_X8_skipSpaces l D cs a (upd (upd z 4403 (nI (0))) 4406 (nI (0))) b n0 0 hTa rfl (Nat.zero_le _)) (cwV 0 hts gX8_runCommands_X8_skipSpaces rfl rfl rfl (by decide +kernel) ⟨Nat.le_of_ble_eq_true rfl, Nat.le_of_ble_eq_true rfl⟩) (kx_preV hK hN hM.1 rfl hM) rfl rfl hl.1 rfl (lv_room (Nat.le_of_ble_eq_true rfl)) dX8_runCommands_11 ⟨Nat.le_of_ble_eq_true rfl, Nat.le_of_ble_eq_true rfl⟩) hS (fun q _ h => h) (fun q h => h) (fun H locs hM hk hS => ?_)
  clear hk
  have J39 : ∀ (r : Bool) (y : Nat → Int32) (H : Heap) (locs : List Loc) (ls : Array Slot), (TX (t0 z) y) → (y 4406 = nI (if r = true then cpq b n0 (ccN b n0) else rdFl b n0 (cpq b n0 (ccN b n0)))) → (r = decide (¬ cpq b n0 (ccN b n0) < n0)) → (MdC D (cs 0) a y H) → va_S ((rgM a)) s.heap H locs → lv_has ls 4 [(0, .ref (a)), (1, .int (bI (r)))] → W p l e ({ frames := 8, cells := 0, slots := 0, locals := 186 } : Room) s m args below meth c H locs 0 0 (MQ below (QcM (some (.int (rcA z b n0))) (fun H => ∃ y, MdC D (cs 0) a y H ∧ RcP z y b n0) (rgM a)) args s 0 0 ((rgM a))) (F0 m 39 ls []) := by
    intro r y H locs ls htx hpl9 hr9 hM hS hl
    refine lv_iload_n hx hb dX8_runCommands_39 rfl (lv_at hl 1 rfl) ?_
    refine kb_if_ne (tgt := 51) hx hb dX8_runCommands_40 (by decide) (fun hr1 => ?_) (fun hr1 => ?_)
    · have hge9 : ¬ cpq b n0 (ccN b n0) < n0 := by rw [hr1] at hr9; simpa using hr9.symm
      refine lv_aload_n hx hb dX8_runCommands_51 rfl (lv_at hl 0 rfl) ?_
      refine kx_retM (va_runV (As := []) (rest := []) ⟨hx, hb, hml, hown, hts⟩ (k_X8_save l D cs a y (Sv z) ((htx 4404 (by omega) (by omega) (Or.inr (by omega))).trans ((t0_at z (by omega)).trans hZ.2.1.1)) hS4) (cwV 0 hts gX8_runCommands_X8_save rfl rfl rfl (by decide +kernel) ⟨Nat.le_of_ble_eq_true rfl, Nat.le_of_ble_eq_true rfl⟩) (kx_preV hK hN hM.1 rfl hM) rfl rfl hl.1 rfl (lv_room (Nat.le_of_ble_eq_true rfl)) dX8_runCommands_52 ⟨Nat.le_of_ble_eq_true rfl, Nat.le_of_ble_eq_true rfl⟩) hS (fun q _ h => h) (fun q h => h) (fun H locs hM hk hS => ?_)
      clear hk
      refine lv_aload_n hx hb dX8_runCommands_55 rfl (lv_at hl 0 rfl) ?_
      refine lv_iconst (v := nI 0) hx hb dX8_runCommands_56 (by decide) ?_
      refine kx_put hx hb hts hinX8 tyX8_ok nmX8 hown hK hM.1 rfl hS ⟨by omega, by omega⟩ 7 (by decide) (by decide +kernel) rfl rfl rfl (Nat.le_of_ble_eq_true rfl) dX8_runCommands_57 (fun H locs hc hU hS => ?_)
      have hM := hM.put_place hc hU
      clear hc hU
      have hst : TX (svT z) (upd (saveF y (Sv z)) 4406 (nI 0)) := (saveF_tx htx (Sv z)).tr (TX.pl _ _)
      have hTs : TXT (upd (saveF y (Sv z)) 4406 (nI 0)) b n0 := (TX.pl _ _).txt (txt_sv (htx.txt hT) hS4)
      refine lv_aload_n hx hb dX8_runCommands_60 rfl (lv_at hl 0 rfl) ?_
      refine kx_retM (va_runV (As := []) (rest := []) ⟨hx, hb, hml, hown, hts⟩ (k_X8_skipSpaces l D cs a (upd (saveF y (Sv z)) 4406 (nI (0))) b n0 0 hTs rfl (Nat.zero_le _)) (cwV 0 hts gX8_runCommands_X8_skipSpaces rfl rfl rfl (by decide +kernel) ⟨Nat.le_of_ble_eq_true rfl, Nat.le_of_ble_eq_true rfl⟩) (kx_preV hK hN hM.1 rfl hM) rfl rfl hl.1 rfl (lv_room (Nat.le_of_ble_eq_true rfl)) dX8_runCommands_61 ⟨Nat.le_of_ble_eq_true rfl, Nat.le_of_ble_eq_true rfl⟩) hS (fun q _ h => h) (fun q h => h) (fun H locs hM hk hS => ?_)
      clear hk
      refine lv_iconst (v := nI 0) hx hb dX8_runCommands_64 (by decide) ?_
      refine lv_istore_n (lv' := [(2, .int (nI (0))), (0, .ref (a)), (1, .int (bI (r)))]) hx hb dX8_runCommands_65 rfl hl (by decide) rfl (fun ls hl => ?_)
      refine lv_iconst (v := nI 1) hx hb dX8_runCommands_66 (by decide) ?_
      refine lv_istore_n (lv' := [(3, .int (nI (1))), (2, .int (nI (0))), (0, .ref (a)), (1, .int (bI (r)))]) hx hb dX8_runCommands_67 rfl hl (by decide) rfl (fun ls hl => ?_)
      have J68 : ∀ (fu68 : Nat) (k : Nat) (r : Bool) (y : Nat → Int32) (H : Heap) (locs : List Loc) (ls : Array Slot), (2 * (ccN b n0 - k) + (if r = true then 1 else 0)) < fu68 → (k ≤ ccN b n0) → (∀ i, i < k → cmW (xc (svT z) b n0 i) b n0 (cpq b n0 i) = 0) → (EI (xc (svT z) b n0 k) y) → (FrT (svT z) y) → (TXT y b n0) → (r = true → y 4406 = nI (cpq b n0 k)) → (r = false → k < ccN b n0 ∧ ¬ cmW (xc (svT z) b n0 k) b n0 (cpq b n0 k) = 0) → (MdC D (cs 0) a y H) → va_S ((rgM a)) s.heap H locs → lv_has ls 4 [(0, .ref (a)), (2, .int (nI (k))), (3, .int (bI (r)))] → W p l e ({ frames := 8, cells := 0, slots := 0, locals := 186 } : Room) s m args below meth c H locs 0 0 (MQ below (QcM (some (.int (rcA z b n0))) (fun H => ∃ y, MdC D (cs 0) a y H ∧ RcP z y b n0) (rgM a)) args s 0 0 ((rgM a))) (F0 m 68 ls []) := by
        intro fu68; induction fu68 with
        | zero => intro k r y H locs ls hmu68 hk h0 hei hft hty hpl hbad hM hS hl; exact absurd hmu68 (Nat.not_lt_zero _)
        | succ fu68 ih68 =>
          intro k r y H locs ls hmu68 hk h0 hei hft hty hpl hbad hM hS hl
          refine lv_iload_n hx hb dX8_runCommands_68 rfl (lv_at hl 2 rfl) ?_
          refine kb_if_eq (tgt := 108) hx hb dX8_runCommands_69 (by decide) (fun hr2 => ?_) (fun hr2 => ?_)
          · have hex : exN (svT z) b n0 = k := exN_is h0 (by first | exact Or.inr (hbad hr2) | (left; rcases Nat.lt_or_ge k (ccN b n0) with q | q; (have q2 := (cgo_iff.mp (ccN_all q)).1; omega); omega))
            refine lv_iload_n hx hb dX8_runCommands_108 rfl (lv_at hl 1 rfl) ?_
            exact kx_iretM hx hb hrt hlk (by unfold rcA; rw [if_neg hge9, hex]) ⟨_, hM, (by unfold RcP; rw [if_neg hge9, hex]; exact ⟨hei, hft⟩)⟩ hS dX8_runCommands_109
          · have hally : ∀ i, i < k → cgo b n0 i = true := fun i hi => ccN_all (by omega)
            have hck := (cpq_le k hally).2
            refine lv_aload_n hx hb dX8_runCommands_72 rfl (lv_at hl 0 rfl) ?_
            refine kx_get (v := .int (y 4406)) hx hb hts hinX8 hown hK hM.1 rfl 7 (by decide) (by decide +kernel) rfl dX8_runCommands_73 ?_
            refine kx_ci (y := nI (cpq b n0 k)) (hpl hr2) ?_
            refine lv_aload_n hx hb dX8_runCommands_76 rfl (lv_at hl 0 rfl) ?_
            refine kx_get (v := .int (y 4405)) hx hb hts hinX8 hown hK hM.1 rfl 6 (by decide) (by decide +kernel) rfl dX8_runCommands_77 ?_
            refine kx_ci (y := nI (n0)) hty.2.1 ?_
            refine kn_icmp_ge (tgt := 108) hx hb dX8_runCommands_80 (by decide) (by omega) (by omega) (fun hlk9 => ?_) (fun hlk9 => ?_)
            · have hex : exN (svT z) b n0 = k := exN_is h0 (by first | exact Or.inr (hbad hr2) | (left; rcases Nat.lt_or_ge k (ccN b n0) with q | q; (have q2 := (cgo_iff.mp (ccN_all q)).1; omega); omega))
              refine lv_iload_n hx hb dX8_runCommands_108 rfl (lv_at hl 1 rfl) ?_
              exact kx_iretM hx hb hrt hlk (by unfold rcA; rw [if_neg hge9, hex]) ⟨_, hM, (by unfold RcP; rw [if_neg hge9, hex]; exact ⟨hei, hft⟩)⟩ hS dX8_runCommands_109
            · have hkl : k < ccN b n0 := by rcases Nat.lt_or_ge k (ccN b n0) with q | q; exact q; rw [show ccN b n0 = k by omega] at hge9; omega
              have hok := (cgo_iff.mp (ccN_all hkl)).2
              have hk8 := cKd_8 hok
              refine lv_aload_n hx hb dX8_runCommands_83 rfl (lv_at hl 0 rfl) ?_
              refine kx_retM (va_runV (As := []) (rest := []) ⟨hx, hb, hml, hown, hts⟩ (k_X8_readsCommand l D cs a y b n0 (cpq b n0 k) hty (hpl hr2) hck) (cwV 0 hts gX8_runCommands_X8_readsCommand rfl rfl rfl (by decide +kernel) ⟨Nat.le_of_ble_eq_true rfl, Nat.le_of_ble_eq_true rfl⟩) (kx_preV hK hN hM.1 rfl hM) rfl rfl hl.1 rfl (lv_room (Nat.le_of_ble_eq_true rfl)) dX8_runCommands_84 ⟨Nat.le_of_ble_eq_true rfl, Nat.le_of_ble_eq_true rfl⟩) hS (fun q _ h => h) (fun q h => h) (fun H locs hM hk hS => ?_)
              clear hk
              obtain ⟨y1, hM, hrdy1⟩ := hM
              have hev := rd_ev hei hrdy1 hok
              have hIy1 := ev_R (rd_ei hei hrdy1.1)
              refine lv_pop hx hb dX8_runCommands_87 rfl ?_
              refine lv_aload_n hx hb dX8_runCommands_88 rfl (lv_at hl 0 rfl) ?_
              refine kx_retM (va_runV (As := []) (rest := []) ⟨hx, hb, hml, hown, hts⟩ (k_X8_carriesOut l D cs a y1 (cKd b n0 (cpq b n0 k)) (y1 4374) (y1 4375) (y1 4376) (y1 4377) (y1 4378) hIy1 (hrdy1.2.2 hok).1 hk8 rfl rfl rfl rfl rfl) (cwV 0 hts gX8_runCommands_X8_carriesOut rfl rfl rfl (by decide +kernel) ⟨Nat.le_of_ble_eq_true rfl, Nat.le_of_ble_eq_true rfl⟩) (kx_preV hK hN hM.1 rfl hM) rfl rfl hl.1 rfl (lv_room (Nat.le_of_ble_eq_true rfl)) dX8_runCommands_89 ⟨Nat.le_of_ble_eq_true rfl, Nat.le_of_ble_eq_true rfl⟩) hS (fun q _ h => h) (fun q h => h) (fun H locs hM hk hS => ?_)
              clear hk
              have hfr := fr_crF hIy1 hk8 (y1 4374) (y1 4375) (y1 4376) (y1 4377) (y1 4378)
              have hpl2 : crF y1 (cKd b n0 (cpq b n0 k)) (y1 4374) (y1 4375) (y1 4376) (y1 4377) (y1 4378) 4406 = nI (cpq b n0 (k + 1)) := (hfr 4406 (by omega)).trans (hrdy1.2.1.trans (by rw [if_pos hok, cpq_s]))
              refine lv_istore_n (lv' := [(3, .int (bI (decide (crW y1 (cKd b n0 (cpq b n0 k)) (y1 4374) (y1 4375) (y1 4376) (y1 4377) (y1 4378) = 0)))), (0, .ref (a)), (2, .int (nI (k)))]) hx hb dX8_runCommands_92 rfl hl (by decide) rfl (fun ls hl => ?_)
              refine lv_iload_n hx hb dX8_runCommands_93 rfl (lv_at hl 2 rfl) ?_
              refine lv_iload_n hx hb dX8_runCommands_94 rfl (lv_at hl 0 rfl) ?_
              refine kb_if_eq (tgt := 102) hx hb dX8_runCommands_95 (by decide) (fun hg => ?_) (fun hg => ?_)
              · refine lv_iconst (v := nI 0) hx hb dX8_runCommands_102 (by decide) ?_
                refine kn_add hx hb dX8_runCommands_103 ?_
                refine lv_istore_n (lv' := [(2, .int (nI (k + 0))), (3, .int (bI (decide (crW y1 (cKd b n0 (cpq b n0 k)) (y1 4374) (y1 4375) (y1 4376) (y1 4377) (y1 4378) = 0)))), (0, .ref (a))]) hx hb dX8_runCommands_104 rfl hl (by decide) rfl (fun ls hl => ?_)
                refine lv_goto (tgt := 68) hx hb dX8_runCommands_105 (by decide) ?_
                have hw9 := hev.2
                have hg2 : ¬ cmW (xc (svT z) b n0 k) b n0 (cpq b n0 k) = 0 := by rw [← hw9]; simpa using hg
                exact ih68 k (decide (crW y1 (cKd b n0 (cpq b n0 k)) (y1 4374) (y1 4375) (y1 4376) (y1 4377) (y1 4378) = 0)) (crF y1 (cKd b n0 (cpq b n0 k)) (y1 4374) (y1 4375) (y1 4376) (y1 4377) (y1 4378)) _ _ _ (by rw [hg]; rw [if_pos hr2] at hmu68; simp; omega) (by omega) h0 (rd_no hei hrdy1 hok hw9 hg2) (frt_rd hft hrdy1.1 hIy1 hk8 (y1 4374) (y1 4375) (y1 4376) (y1 4377) (y1 4378)) (txt_fr (hrdy1.1.txt hty) hfr) (fun q => absurd (hg.symm.trans q) (by decide)) (fun _ => ⟨hkl, hg2⟩) hM hS (lv_sub hl [2, 0, 1] rfl)
              · refine lv_iconst (v := nI 1) hx hb dX8_runCommands_98 (by decide) ?_
                refine lv_goto (tgt := 103) hx hb dX8_runCommands_99 (by decide) ?_
                refine kn_add hx hb dX8_runCommands_103 ?_
                refine lv_istore_n (lv' := [(2, .int (nI (k + 1))), (3, .int (bI (decide (crW y1 (cKd b n0 (cpq b n0 k)) (y1 4374) (y1 4375) (y1 4376) (y1 4377) (y1 4378) = 0)))), (0, .ref (a))]) hx hb dX8_runCommands_104 rfl hl (by decide) rfl (fun ls hl => ?_)
                refine lv_goto (tgt := 68) hx hb dX8_runCommands_105 (by decide) ?_
                have hw9 := hev.2
                have hg2 : cmW (xc (svT z) b n0 k) b n0 (cpq b n0 k) = 0 := by rw [← hw9]; simpa using hg
                exact ih68 (k + 1) (decide (crW y1 (cKd b n0 (cpq b n0 k)) (y1 4374) (y1 4375) (y1 4376) (y1 4377) (y1 4378) = 0)) (crF y1 (cKd b n0 (cpq b n0 k)) (y1 4374) (y1 4375) (y1 4376) (y1 4377) (y1 4378)) _ _ _ (by rw [hg]; rw [if_pos hr2] at hmu68; simp; omega) (by omega) (fun i hi => by rcases Nat.lt_succ_iff_lt_or_eq.mp hi with q | q; exact h0 i q; subst q; exact hg2) hev.1 (frt_rd hft hrdy1.1 hIy1 hk8 (y1 4374) (y1 4375) (y1 4376) (y1 4377) (y1 4378)) (txt_fr (hrdy1.1.txt hty) hfr) (fun _ => hpl2) (fun q => absurd (hg.symm.trans q) (by decide)) hM hS (lv_sub hl [2, 0, 1] rfl)
      exact J68 _ 0 true (upd (upd (saveF y (Sv z)) 4406 (nI (0))) 4406 (nI (skp b n0 0))) _ _ _ (Nat.lt_succ_self _) (Nat.zero_le _) (fun i hi => absurd hi (Nat.not_lt_zero i)) (tx_ei (svT_inv hI) (hst.tr (TX.pl _ _))) (tx_frt (hst.tr (TX.pl _ _))) ((TX.pl _ _).txt hTs) (fun _ => rfl) (fun q => absurd q (by decide)) hM hS (lv_sub hl [2, 1, 0] rfl)
    · have hcl9 : cpq b n0 (ccN b n0) < n0 := by rw [hr1] at hr9; simpa using hr9.symm
      refine lv_bipush (v := -10) hx hb dX8_runCommands_43 (by decide) ?_
      refine lv_aload_n hx hb dX8_runCommands_45 rfl (lv_at hl 0 rfl) ?_
      refine kx_get (v := .int (y 4406)) hx hb hts hinX8 hown hK hM.1 rfl 7 (by decide) (by decide +kernel) rfl dX8_runCommands_46 ?_
      refine kx_ci (y := nI (rdFl b n0 (cpq b n0 (ccN b n0)))) (by rw [hpl9, if_neg (by rw [hr1]; decide)]) ?_
      refine lv_isub hx hb dX8_runCommands_49 ?_
      exact kx_iretM hx hb hrt hlk (by unfold rcA; rw [if_pos hcl9]) ⟨_, hM, (by unfold RcP; rw [if_pos hcl9]; exact htx)⟩ hS dX8_runCommands_50
  refine lv_iconst (v := nI 1) hx hb dX8_runCommands_14 (by decide) ?_
  refine lv_istore_n (lv' := [(1, .int (nI (1))), (0, .ref (a))]) hx hb dX8_runCommands_15 rfl hl (by decide) rfl (fun ls hl => ?_)
  have J16 : ∀ (fu16 : Nat) (j : Nat) (r : Bool) (y : Nat → Int32) (H : Heap) (locs : List Loc) (ls : Array Slot), (2 * (n0 - cpq b n0 j) + (if r = true then 1 else 0)) < fu16 → (∀ i, i < j → cgo b n0 i = true) → (TX (t0 z) y) → (y 4406 = nI (if r = true then cpq b n0 j else rdFl b n0 (cpq b n0 j))) → (r = false → cgo b n0 j = false ∧ cpq b n0 j < n0) → (MdC D (cs 0) a y H) → va_S ((rgM a)) s.heap H locs → lv_has ls 4 [(0, .ref (a)), (1, .int (bI (r)))] → W p l e ({ frames := 8, cells := 0, slots := 0, locals := 186 } : Room) s m args below meth c H locs 0 0 (MQ below (QcM (some (.int (rcA z b n0))) (fun H => ∃ y, MdC D (cs 0) a y H ∧ RcP z y b n0) (rgM a)) args s 0 0 ((rgM a))) (F0 m 16 ls []) := by
    intro fu16; induction fu16 with
    | zero => intro j r y H locs ls hmu16 hall htx hpl hbad hM hS hl; exact absurd hmu16 (Nat.not_lt_zero _)
    | succ fu16 ih16 =>
      intro j r y H locs ls hmu16 hall htx hpl hbad hM hS hl
      refine lv_iload_n hx hb dX8_runCommands_16 rfl (lv_at hl 1 rfl) ?_
      refine kb_if_eq (tgt := 39) hx hb dX8_runCommands_17 (by decide) (fun hr0 => ?_) (fun hr0 => ?_)
      · have ecc : ccN b n0 = j := ccN_is hn150 hall (by first | exact (hbad hr0).1 | (have q : ¬ cpq b n0 j < n0 := by omega); unfold cgo; simp [q])
        exact J39 r y _ _ _ (by omega) (by rw [ecc]; exact hpl) (by rw [ecc]; first | (have q := (hbad hr0).2; simp [hr0, q]; done) | ((have q : ¬ cpq b n0 j < n0 := by omega); simp [hr0, q]; done)) hM hS (lv_sub hl [0, 1] rfl)
      · have hTy := htx.txt hT
        have hcl := (cpq_le j hall).2
        refine lv_aload_n hx hb dX8_runCommands_20 rfl (lv_at hl 0 rfl) ?_
        refine kx_get (v := .int (y 4406)) hx hb hts hinX8 hown hK hM.1 rfl 7 (by decide) (by decide +kernel) rfl dX8_runCommands_21 ?_
        refine kx_ci (y := nI (cpq b n0 j)) (by rw [hpl, if_pos hr0]) ?_
        refine lv_aload_n hx hb dX8_runCommands_24 rfl (lv_at hl 0 rfl) ?_
        refine kx_get (v := .int (y 4405)) hx hb hts hinX8 hown hK hM.1 rfl 6 (by decide) (by decide +kernel) rfl dX8_runCommands_25 ?_
        refine kx_ci (y := nI (n0)) hTy.2.1 ?_
        refine kn_icmp_ge (tgt := 39) hx hb dX8_runCommands_28 (by decide) (by omega) (by omega) (fun hlt => ?_) (fun hlt => ?_)
        · have ecc : ccN b n0 = j := ccN_is hn150 hall (by first | exact (hbad hr0).1 | (have q : ¬ cpq b n0 j < n0 := by omega); unfold cgo; simp [q])
          exact J39 r y _ _ _ (by omega) (by rw [ecc]; exact hpl) (by rw [ecc]; first | (have q := (hbad hr0).2; simp [hr0, q]; done) | ((have q : ¬ cpq b n0 j < n0 := by omega); simp [hr0, q]; done)) hM hS (lv_sub hl [0, 1] rfl)
        · refine lv_aload_n hx hb dX8_runCommands_31 rfl (lv_at hl 0 rfl) ?_
          refine kx_retM (va_runV (As := []) (rest := []) ⟨hx, hb, hml, hown, hts⟩ (k_X8_readsCommand l D cs a y b n0 (cpq b n0 j) hTy (by rw [hpl, if_pos hr0]) hcl) (cwV 0 hts gX8_runCommands_X8_readsCommand rfl rfl rfl (by decide +kernel) ⟨Nat.le_of_ble_eq_true rfl, Nat.le_of_ble_eq_true rfl⟩) (kx_preV hK hN hM.1 rfl hM) rfl rfl hl.1 rfl (lv_room (Nat.le_of_ble_eq_true rfl)) dX8_runCommands_32 ⟨Nat.le_of_ble_eq_true rfl, Nat.le_of_ble_eq_true rfl⟩) hS (fun q _ h => h) (fun q h => h) (fun H locs hM hk hS => ?_)
          clear hk
          obtain ⟨y1, hM, hrdy1⟩ := hM
          refine lv_istore_n (lv' := [(1, .int (bI (rdOk b n0 (cpq b n0 j)))), (0, .ref (a))]) hx hb dX8_runCommands_35 rfl hl (by decide) rfl (fun ls hl => ?_)
          refine lv_goto (tgt := 16) hx hb dX8_runCommands_36 (by decide) ?_
          exact ih16 (cnx b n0 j) (rdOk b n0 (cpq b n0 j)) y1 _ _ _ (Nat.lt_of_lt_of_le (cnx_mu hall (Nat.lt_of_not_le hlt)) (by rw [if_pos hr0] at hmu16; omega)) (cnx_all hall (Nat.lt_of_not_le hlt)) (htx.tr hrdy1.1) (hrdy1.2.1.trans (congrArg nI (cnx_pl b n0 j))) (fun q => cnx_bad (Nat.lt_of_not_le hlt) q) hM hS (lv_sub hl [1, 0] rfl)
  exact J16 _ 0 true (upd (upd (upd z 4403 (nI (0))) 4406 (nI (0))) 4406 (nI (skp b n0 0))) _ _ _ (Nat.lt_succ_self _) (fun i hi => absurd hi (Nat.not_lt_zero i)) ((TX.pl _ _).tr (TX.pl _ _)) rfl (fun q => absurd q (by decide)) hM hS (lv_sub hl [1, 0] rfl)
