set_option maxHeartbeats 2500000 in
set_option maxRecDepth 100000 in
theorem k_X8_runCommands (l : Launch) (D : va_G) (cs : Nat → ClassId) (a : Nat) (z : Nat → Int32) (b : Nat → Int32) (n0 : Nat) (hT : TXT (t0 z) b n0) (hZ : InvZ z) : Met l yX8_runCommands wsX8_runCommands ({ frames := 8, cells := 0, slots := 0, locals := 186 } : Room) (PcK D cs [.ref (a)] (fun H => MdC D (cs 0) a z H)) (QcM (some (.int (rcA z b n0))) (fun H => ∃ y, MdC D (cs 0) a y H ∧ RcP z y b n0) (rgM a)) 0 0 ((rgM a)) := by
  refine kx_met (cc := cX8_runCommands) (maxL := 4) (ret := (some .int)) (by decide) rfl (Nat.le_of_ble_eq_true rfl) ?_
  intro p e s m args below meth c hx hb hml hrt hts hown hlk hK hN hP ls hl
  have hl : lv_has ls 4 [(0, .ref (a))] := hl
  obtain ⟨H, hHe⟩ : ∃ H : Heap, H = s.heap := ⟨_, rfl⟩
  rw [← hHe] at hP ⊢
  have hS : va_S ((rgM a)) s.heap H [] := by rw [← hHe]; exact va_S.rf
  have hinX8 : ∀ w ∈ wsX80, w ∈ wsX8_runCommands := by decide +kernel
  have hM := hP
  have hI := hZ.1
  have hn150 := hT.2.2
  refine lv_aload_n hx hb dX8_runCommands_0 rfl (lv_at hl 0 rfl) ?_
  refine lv_iconst (v := nI 0) hx hb dX8_runCommands_1 (by decide) ?_
  refine kx_put hx hb hts hinX8 tyX8_ok nmX8 hown hK hM.1 rfl hS ⟨by omega, by omega⟩ 0 (by decide) (by decide +kernel) rfl rfl rfl (Nat.le_of_ble_eq_true rfl) dX8_runCommands_2 (fun H locs hc hU hS => ?_)
  have hM := hM.put_thrown hc hU
  clear hc hU
  refine lv_aload_n hx hb dX8_runCommands_5 rfl (lv_at hl 0 rfl) ?_
  refine lv_iconst (v := nI 0) hx hb dX8_runCommands_6 (by decide) ?_
  refine kx_put hx hb hts hinX8 tyX8_ok nmX8 hown hK hM.1 rfl hS ⟨by omega, by omega⟩ 7 (by decide) (by decide +kernel) rfl rfl rfl (Nat.le_of_ble_eq_true rfl) dX8_runCommands_7 (fun H locs hc hU hS => ?_)
  have hM := hM.put_place hc hU
  clear hc hU
  refine lv_aload_n hx hb dX8_runCommands_10 rfl (lv_at hl 0 rfl) ?_
  have hTa := (TX.pl (t0 z) (nI 0)).txt hT
  refine kx_retM (va_runV (As := []) (rest := []) ⟨hx, hb, hml, hown, hts⟩ (k_X8_skipSpaces l D cs a (upd (upd z 4403 (nI (0))) 4406 (nI (0))) b n0 0 hTa rfl (Nat.zero_le _)) (cwV 0 hts gX8_runCommands_X8_skipSpaces rfl rfl rfl (by decide +kernel) ⟨Nat.le_of_ble_eq_true rfl, Nat.le_of_ble_eq_true rfl⟩) (kx_preV hK hN hM.1 rfl hM) rfl rfl hl.1 rfl (lv_room (Nat.le_of_ble_eq_true rfl)) dX8_runCommands_11 ⟨Nat.le_of_ble_eq_true rfl, Nat.le_of_ble_eq_true rfl⟩) hS (fun q _ h => h) (fun q h => h) (fun H locs hM hk hS => ?_)
  clear hk
  have J39 : ∀ (r : Bool) (y : Nat → Int32) (H : Heap) (locs : List Loc) (ls : Array Slot), (TX (t0 z) y) → (y 4406 = nI (if r = true then cpq b n0 (ccN b n0) else rdFl b n0 (cpq b n0 (ccN b n0)))) → (r = decide (¬ cpq b n0 (ccN b n0) < n0)) → (MdC D (cs 0) a y H) → va_S ((rgM a)) s.heap H locs → lv_has ls 4 [(0, .ref (a)), (1, .int (bI (r)))] → W p l e ({ frames := 8, cells := 0, slots := 0, locals := 186 } : Room) s m args below meth c H locs 0 0 (MQ below (QcM (some (.int (rcA z b n0))) (fun H => ∃ y, MdC D (cs 0) a y H ∧ RcP z y b n0) (rgM a)) args s 0 0 ((rgM a))) (F0 m 39 ls []) := by
    intro r y H locs ls htx hpl9 hr9 hM hS hl
    refine lv_iload_n hx hb dX8_runCommands_39 rfl (lv_at hl 1 rfl) ?_
    refine kb_if_ne (tgt := 51) hx hb dX8_runCommands_40 (by decide) (fun hr1 => ?_) (fun hr1 => ?_)
    · sorry
    · have hcl9 : cpq b n0 (ccN b n0) < n0 := by rw [hr1] at hr9; simpa using hr9.symm
      refine lv_bipush (v := -10) hx hb dX8_runCommands_43 (by decide) ?_
      refine lv_aload_n hx hb dX8_runCommands_45 rfl (lv_at hl 0 rfl) ?_
      refine kx_get (v := .int (y 4406)) hx hb hts hinX8 hown hK hM.1 rfl 7 (by decide) (by decide +kernel) rfl dX8_runCommands_46 ?_
      refine kx_ci (y := nI (rdFl b n0 (cpq b n0 (ccN b n0)))) (by rw [hpl9, if_neg (by rw [hr1]; decide)]) ?_
      refine lv_isub hx hb dX8_runCommands_49 ?_
      exact kx_iretM hx hb hrt hlk (by unfold rcA; rw [if_pos hcl9]; rfl) ⟨_, hM, (by unfold RcP; rw [if_pos hcl9]; exact htx)⟩ hS dX8_runCommands_50
  refine lv_iconst (v := nI 1) hx hb dX8_runCommands_14 (by decide) ?_
  refine lv_istore_n (lv' := [(1, .int (nI (1))), (0, .ref (a))]) hx hb dX8_runCommands_15 rfl hl (by decide) rfl (fun ls hl => ?_)
  have J16 : ∀ (fu16 : Nat) (j : Nat) (r : Bool) (y : Nat → Int32) (H : Heap) (locs : List Loc) (ls : Array Slot), (2 * (n0 - cpq b n0 j) + (if r = true then 1 else 0)) < fu16 → (∀ i, i < j → cgo b n0 i = true) → (TX (t0 z) y) → (y 4406 = nI (if r = true then cpq b n0 j else rdFl b n0 (cpq b n0 j))) → (r = false → cgo b n0 j = false ∧ cpq b n0 j < n0) → (MdC D (cs 0) a y H) → va_S ((rgM a)) s.heap H locs → lv_has ls 4 [(0, .ref (a)), (1, .int (bI (r)))] → W p l e ({ frames := 8, cells := 0, slots := 0, locals := 186 } : Room) s m args below meth c H locs 0 0 (MQ below (QcM (some (.int (rcA z b n0))) (fun H => ∃ y, MdC D (cs 0) a y H ∧ RcP z y b n0) (rgM a)) args s 0 0 ((rgM a))) (F0 m 16 ls []) := by
    intro fu16; induction fu16 with
    | zero => intro j r y H locs ls hmu16 hall htx hpl hbad hM hS hl; exact absurd hmu16 (Nat.not_lt_zero _)
    | succ fu16 ih16 =>
      intro j r y H locs ls hmu16 hall htx hpl hbad hM hS hl
      refine lv_iload_n hx hb dX8_runCommands_16 rfl (lv_at hl 1 rfl) ?_
      refine kb_if_eq (tgt := 39) hx hb dX8_runCommands_17 (by decide) (fun hr0 => ?_) (fun hr0 => ?_)
      · have ecc : ccN b n0 = j := ccN_is hn150 hall (by first | exact (hbad hr0).1 | (have q : ¬ cpq b n0 j < n0 := by omega); unfold cgo; simp [q])
        exact J39 r y _ _ _ (by omega) (by rw [ecc]; exact hpl) (by rw [ecc]; first | (have q := (hbad hr0).2; simp [hr0, q]; done) | ((have q : ¬ cpq b n0 j < n0 := by omega); simp [hr0, q]; done)) hM hS (lv_sub hl [0, 1] rfl)
      · have hTy := htx.txt hT
        have hcl := (cpq_le j hall).2
        refine lv_aload_n hx hb dX8_runCommands_20 rfl (lv_at hl 0 rfl) ?_
        refine kx_get (v := .int (y 4406)) hx hb hts hinX8 hown hK hM.1 rfl 7 (by decide) (by decide +kernel) rfl dX8_runCommands_21 ?_
        refine kx_ci (y := nI (cpq b n0 j)) (by rw [hpl, if_pos hr0]) ?_
        refine lv_aload_n hx hb dX8_runCommands_24 rfl (lv_at hl 0 rfl) ?_
        refine kx_get (v := .int (y 4405)) hx hb hts hinX8 hown hK hM.1 rfl 6 (by decide) (by decide +kernel) rfl dX8_runCommands_25 ?_
        refine kx_ci (y := nI (n0)) hTy.2.1 ?_
        refine kn_icmp_ge (tgt := 39) hx hb dX8_runCommands_28 (by decide) (by omega) (by omega) (fun hlt => ?_) (fun hlt => ?_)
        · have ecc : ccN b n0 = j := ccN_is hn150 hall (by first | exact (hbad hr0).1 | (have q : ¬ cpq b n0 j < n0 := by omega); unfold cgo; simp [q])
          exact J39 r y _ _ _ (by omega) (by rw [ecc]; exact hpl) (by rw [ecc]; first | (have q := (hbad hr0).2; simp [hr0, q]; done) | ((have q : ¬ cpq b n0 j < n0 := by omega); simp [hr0, q]; done)) hM hS (lv_sub hl [0, 1] rfl)
        · refine lv_aload_n hx hb dX8_runCommands_31 rfl (lv_at hl 0 rfl) ?_
          refine kx_retM (va_runV (As := []) (rest := []) ⟨hx, hb, hml, hown, hts⟩ (k_X8_readsCommand l D cs a y b n0 (cpq b n0 j) hTy (by rw [hpl, if_pos hr0]) hcl) (cwV 0 hts gX8_runCommands_X8_readsCommand rfl rfl rfl (by decide +kernel) ⟨Nat.le_of_ble_eq_true rfl, Nat.le_of_ble_eq_true rfl⟩) (kx_preV hK hN hM.1 rfl hM) rfl rfl hl.1 rfl (lv_room (Nat.le_of_ble_eq_true rfl)) dX8_runCommands_32 ⟨Nat.le_of_ble_eq_true rfl, Nat.le_of_ble_eq_true rfl⟩) hS (fun q _ h => h) (fun q h => h) (fun H locs hM hk hS => ?_)
          clear hk
          obtain ⟨y1, hM, hrdy1⟩ := hM
          refine lv_istore_n (lv' := [(1, .int (bI (rdOk b n0 (cpq b n0 j)))), (0, .ref (a))]) hx hb dX8_runCommands_35 rfl hl (by decide) rfl (fun ls hl => ?_)
          refine lv_goto (tgt := 16) hx hb dX8_runCommands_36 (by decide) ?_
          exact ih16 (cnx b n0 j) (rdOk b n0 (cpq b n0 j)) y1 _ _ _ (Nat.lt_of_lt_of_le (cnx_mu hall (Nat.lt_of_not_le hlt)) (by rw [if_pos hr0] at hmu16; omega)) (cnx_all hall (Nat.lt_of_not_le hlt)) (htx.tr hrdy1.1) (hrdy1.2.1.trans (congrArg nI (cnx_pl b n0 j))) (fun q => cnx_bad (Nat.lt_of_not_le hlt) q) hM hS (lv_sub hl [1, 0] rfl)
  exact J16 _ 0 true (upd (upd (upd z 4403 (nI (0))) 4406 (nI (0))) 4406 (nI (skp b n0 0))) _ _ _ (Nat.lt_succ_self _) (fun i hi => absurd hi (Nat.not_lt_zero i)) ((TX.pl _ _).tr (TX.pl _ _)) rfl (fun q => absurd q (by decide)) hM hS (lv_sub hl [1, 0] rfl)
