set_option maxHeartbeats 2500000 in
set_option maxRecDepth 100000 in
theorem k_X8_digest (l : Launch) (D : va_G) (cs : Nat → ClassId) (a : Nat) (z : Nat → Int32) (hZ : InvZ z) : Met l yX8_digest wsX8_digest ({ frames := 6, cells := 0, slots := 0, locals := 143 } : Room) (PcK D cs [.ref (a)] (fun H => MdC D (cs 0) a z H)) (QcM (some (.long (dgF (t0 z) (nI (Sv z))))) (fun H => ∃ y, MdC D (cs 0) a y H ∧ DgP (t0 z) y) (rgM a)) 0 0 ((rgM a)) := by
  refine kx_met (cc := cX8_digest) (maxL := 5) (ret := (some .long)) (by decide) rfl (Nat.le_of_ble_eq_true rfl) ?_
  intro p e s m args below meth c hx hb hml hrt hts hown hlk hK hN hP ls hl
  have hl : lv_has ls 5 [(0, .ref (a))] := hl
  obtain ⟨H, hHe⟩ : ∃ H : Heap, H = s.heap := ⟨_, rfl⟩
  rw [← hHe] at hP ⊢
  have hS : va_S ((rgM a)) s.heap H [] := by rw [← hHe]; exact va_S.rf
  have hinX8 : ∀ w ∈ wsX80, w ∈ wsX8_digest := by decide +kernel
  have hM := hP
  have hI := hZ.1
  have hit : Inv (t0 z) := th_inv hI (nI 0)
  have h24 := hit.M24
  have h6 := hit.R6
  refine lv_aload_n hx hb dX8_digest_0 rfl (lv_at hl 0 rfl) ?_
  refine lv_iconst (v := nI 0) hx hb dX8_digest_1 (by decide) ?_
  refine kx_put hx hb hts hinX8 tyX8_ok nmX8 hown hK hM.1 rfl hS ⟨by omega, by omega⟩ 0 (by decide) (by decide +kernel) rfl rfl rfl (Nat.le_of_ble_eq_true rfl) dX8_digest_2 (fun H locs hc hU hS => ?_)
  have hM := hM.put_thrown hc hU
  clear hc hU
  have hM : MdC D (cs 0) a (t0 z) H := hM
  refine lv_ldc2 hx hb hown (hts (.constantLong RX8 214 (1347756)) (by decide +kernel)) dX8_digest_5 ?_
  refine lv_aload_n hx hb dX8_digest_8 rfl (lv_at hl 0 rfl) ?_
  refine kx_get (v := .int ((t0 z) 4404)) hx hb hts hinX8 hown hK hM.1 rfl 4 (by decide) (by decide +kernel) rfl dX8_digest_9 ?_
  refine kx_ci (y := nI (Sv z)) ((t0_at z (by omega)).trans hZ.2.1.1) ?_
  refine lv_i2l hx hb dX8_digest_12 rfl ?_
  refine lv_ladd hx hb dX8_digest_13 ?_
  refine kx_cl (x := 1347756 + ((nI (Sv z)).toInt64)) (y := dg0 (nI (Sv z))) (dg0_e _) ?_
  refine lv_lstore_n (lv' := [(1, .long (dg0 (nI (Sv z)))), (0, .ref (a))]) hx hb dX8_digest_14 rfl hl (by decide) rfl (fun ls hl => ?_)
  refine lv_iconst (v := nI 0) hx hb dX8_digest_15 (by decide) ?_
  refine lv_istore_n (lv' := [(3, .int (nI (0))), (1, .long (dg0 (nI (Sv z)))), (0, .ref (a))]) hx hb dX8_digest_16 rfl hl (by decide) rfl (fun ls hl => ?_)
  have J17 : ∀ (fu17 : Nat) (k : Nat) (H : Heap) (locs : List Loc) (ls : Array Slot), (15 - k) < fu17 → (k ≤ 15) → (MdC D (cs 0) a (t0 z) H) → va_S ((rgM a)) s.heap H locs → lv_has ls 5 [(0, .ref (a)), (1, .long (dgW (t0 z) (dg0 (nI (Sv z))) k)), (3, .int (nI (k)))] → W p l e ({ frames := 6, cells := 0, slots := 0, locals := 143 } : Room) s m args below meth c H locs 0 0 (MQ below (QcM (some (.long (dgF (t0 z) (nI (Sv z))))) (fun H => ∃ y, MdC D (cs 0) a y H ∧ DgP (t0 z) y) (rgM a)) args s 0 0 ((rgM a))) (F0 m 17 ls []) := by
    intro fu17; induction fu17 with
    | zero => intro k H locs ls hmu17 hk hM hS hl; exact absurd hmu17 (Nat.not_lt_zero _)
    | succ fu17 ih17 =>
      intro k H locs ls hmu17 hk hM hS hl
      refine lv_iload_n hx hb dX8_digest_17 rfl (lv_at hl 2 rfl) ?_
      refine lv_bipush (v := nI 14) hx hb dX8_digest_18 (by decide) ?_
      refine kn_icmp_gt (tgt := 42) hx hb dX8_digest_20 (by decide) (by omega) (by decide) (fun c_1 => ?_) (fun c_1 => ?_)
      · have hk15 : k = 15 := by omega
        subst hk15
        have hl : lv_has ls 5 [(0, .ref (a)), (1, .long (dg1 (t0 z) (nI (Sv z)))), (3, .int (nI (15)))] := by rw [dg1_e]; exact hl
        refine lv_aload_n hx hb dX8_digest_42 rfl (lv_at hl 0 rfl) ?_
        refine kx_get (v := .ref (a + 1)) hx hb hts hinX8 hown hK hM.1 rfl 1 (by decide) (by decide +kernel) rfl dX8_digest_43 ?_
        refine lv_iconst (v := nI 0) hx hb dX8_digest_46 (by decide) ?_
        refine lv_aload_n hx hb dX8_digest_47 rfl (lv_at hl 0 rfl) ?_
        refine kx_get (v := .ref (a + 2)) hx hb hts hinX8 hown hK hM.1 rfl 2 (by decide) (by decide +kernel) rfl dX8_digest_48 ?_
        refine lv_iconst (v := nI 0) hx hb dX8_digest_51 (by decide) ?_
        refine kx_retM (va_runS (As := [.ref (a + 1), .int (nI (0)), .ref (a + 2), .int (nI (0))]) (rest := []) ⟨hx, hb, hml, hown, hts⟩ (k_X8_copy l D cs (a + 1) (a + 2) 704 704 0 0 (fun j => (t0 z) j) (fun j => (t0 z) (704 + j)) (by omega) (by omega) (by omega) (by decide) (by decide)) (cwS 4 hts gX8_digest_X8_copy rfl rfl rfl (by decide +kernel) ⟨Nat.le_of_ble_eq_true rfl, Nat.le_of_ble_eq_true rfl⟩) (kx_preS hK hN ⟨hM.state, hM.kept⟩) rfl rfl hl.1 rfl (lv_room (Nat.le_of_ble_eq_true rfl)) dX8_digest_52 ⟨Nat.le_of_ble_eq_true rfl, Nat.le_of_ble_eq_true rfl⟩) hS (fun q h1 (h : q = a + 2) => by subst h; exact ⟨by omega, by omega⟩) (fun q (h : q = a + 2) => by subst h; exact ⟨by omega, by omega⟩) (fun H locs hc hk hS => ?_)
        have hM := hM.cp_kept (src := 0) (F := (fun j => (t0 z) j)) (fun j hj => congrArg (t0 z) (by omega)) hc (fun q h1 h2 h3 => hk.2 q (hM.lt q h1 h2) h3)
        clear hc hk
        have hM : MdC D (cs 0) a (kpt z) H := hM
        refine lv_aload_n hx hb dX8_digest_55 rfl (lv_at hl 0 rfl) ?_
        refine kx_retM (va_runV (As := []) (rest := []) ⟨hx, hb, hml, hown, hts⟩ (k_X8_finish l D cs a (kpt z) (kpt_inv hI)) (cwV 0 hts gX8_digest_X8_finish rfl rfl rfl (by decide +kernel) ⟨Nat.le_of_ble_eq_true rfl, Nat.le_of_ble_eq_true rfl⟩) (kx_preV hK hN hM.1 rfl hM) rfl rfl hl.1 rfl (lv_room (Nat.le_of_ble_eq_true rfl)) dX8_digest_56 ⟨Nat.le_of_ble_eq_true rfl, Nat.le_of_ble_eq_true rfl⟩) hS (fun q _ h => h) (fun q h => h) (fun H locs hM hk hS => ?_)
        clear hk
        have hM : MdC D (cs 0) a (finF (kpt z)) H := hM
        refine lv_iconst (v := nI 0) hx hb dX8_digest_59 (by decide) ?_
        refine lv_istore_n (lv' := [(3, .int (nI (0))), (0, .ref (a)), (1, .long (dg1 (t0 z) (nI (Sv z))))]) hx hb dX8_digest_60 rfl hl (by decide) rfl (fun ls hl => ?_)
        have J61 : ∀ (fu61 : Nat) (k : Nat) (H : Heap) (locs : List Loc) (ls : Array Slot), (48 - k) < fu61 → (k ≤ 48) → (MdC D (cs 0) a (finF (kpt z)) H) → va_S ((rgM a)) s.heap H locs → lv_has ls 5 [(0, .ref (a)), (1, .long (dgC (t0 z) (finF (t0 z)) (dg1 (t0 z) (nI (Sv z))) k)), (3, .int (nI (k)))] → W p l e ({ frames := 6, cells := 0, slots := 0, locals := 143 } : Room) s m args below meth c H locs 0 0 (MQ below (QcM (some (.long (dgF (t0 z) (nI (Sv z))))) (fun H => ∃ y, MdC D (cs 0) a y H ∧ DgP (t0 z) y) (rgM a)) args s 0 0 ((rgM a))) (F0 m 61 ls []) := by
          intro fu61; induction fu61 with
          | zero => intro k H locs ls hmu61 hk hM hS hl; exact absurd hmu61 (Nat.not_lt_zero _)
          | succ fu61 ih61 =>
            intro k H locs ls hmu61 hk hM hS hl
            refine lv_iload_n hx hb dX8_digest_61 rfl (lv_at hl 2 rfl) ?_
            refine lv_bipush (v := nI 48) hx hb dX8_digest_62 (by decide) ?_
            refine kn_icmp_ge (tgt := 107) hx hb dX8_digest_64 (by decide) (by omega) (by decide) (fun c_2 => ?_) (fun c_2 => ?_)
            · have hk48 : k = 48 := by omega
              subst hk48
              have hl : lv_has ls 5 [(0, .ref (a)), (1, .long (dg2 (t0 z) (nI (Sv z)))), (3, .int (nI (48)))] := by rw [dg2_e]; exact hl
              refine lv_aload_n hx hb dX8_digest_107 rfl (lv_at hl 0 rfl) ?_
              refine kx_get (v := .ref (a + 2)) hx hb hts hinX8 hown hK hM.1 rfl 2 (by decide) (by decide +kernel) rfl dX8_digest_108 ?_
              refine lv_iconst (v := nI 0) hx hb dX8_digest_111 (by decide) ?_
              refine lv_aload_n hx hb dX8_digest_112 rfl (lv_at hl 0 rfl) ?_
              refine kx_get (v := .ref (a + 1)) hx hb hts hinX8 hown hK hM.1 rfl 1 (by decide) (by decide +kernel) rfl dX8_digest_113 ?_
              refine lv_iconst (v := nI 0) hx hb dX8_digest_116 (by decide) ?_
              refine kx_retM (va_runS (As := [.ref (a + 2), .int (nI (0)), .ref (a + 1), .int (nI (0))]) (rest := []) ⟨hx, hb, hml, hown, hts⟩ (k_X8_copy l D cs (a + 2) (a + 1) 704 704 0 0 (fun j => (finF (kpt z)) (704 + j)) (fun j => (finF (kpt z)) j) (by omega) (by omega) (by omega) (by decide) (by decide)) (cwS 4 hts gX8_digest_X8_copy rfl rfl rfl (by decide +kernel) ⟨Nat.le_of_ble_eq_true rfl, Nat.le_of_ble_eq_true rfl⟩) (kx_preS hK hN ⟨hM.kept, hM.state⟩) rfl rfl hl.1 rfl (lv_room (Nat.le_of_ble_eq_true rfl)) dX8_digest_117 ⟨Nat.le_of_ble_eq_true rfl, Nat.le_of_ble_eq_true rfl⟩) hS (fun q h1 (h : q = a + 1) => by subst h; exact ⟨by omega, by omega⟩) (fun q (h : q = a + 1) => by subst h; exact ⟨by omega, by omega⟩) (fun H locs hc hk hS => ?_)
              have hM := hM.cp_state (sp := 0) (src := 704) (F := (fun j => (finF (kpt z)) (704 + j))) (fun j hj => congrArg (finF (kpt z)) (by omega)) hc (fun q h1 h2 h3 => hk.2 q (hM.lt q h1 h2) h3)
              clear hc hk
              obtain ⟨y, hyd⟩ : ∃ y, y = cpZ (finF (kpt z)) 704 0 := ⟨_, rfl⟩
              rw [← hyd] at hM
              have hdp : DgP (t0 z) y := by rw [hyd]; exact dg_y hI
              clear hyd
              have hey := hdp.ei hit
              have hIy := ev_R hey
              refine lv_iconst (v := nI 0) hx hb dX8_digest_120 (by decide) ?_
              refine lv_istore_n (lv' := [(3, .int (nI (0))), (0, .ref (a)), (1, .long (dg2 (t0 z) (nI (Sv z))))]) hx hb dX8_digest_121 rfl hl (by decide) rfl (fun ls hl => ?_)
              have J122 : ∀ (fu122 : Nat) (r : Nat) (H : Heap) (locs : List Loc) (ls : Array Slot), (Rn (t0 z) - r) < fu122 → (r ≤ Rn (t0 z)) → (MdC D (cs 0) a y H) → va_S ((rgM a)) s.heap H locs → lv_has ls 5 [(0, .ref (a)), (1, .long (dgR (t0 z) (dg2 (t0 z) (nI (Sv z))) r)), (3, .int (nI (r)))] → W p l e ({ frames := 6, cells := 0, slots := 0, locals := 143 } : Room) s m args below meth c H locs 0 0 (MQ below (QcM (some (.long (dgF (t0 z) (nI (Sv z))))) (fun H => ∃ y, MdC D (cs 0) a y H ∧ DgP (t0 z) y) (rgM a)) args s 0 0 ((rgM a))) (F0 m 122 ls []) := by
                intro fu122; induction fu122 with
                | zero => intro r H locs ls hmu122 hr hM hS hl; exact absurd hmu122 (Nat.not_lt_zero _)
                | succ fu122 ih122 =>
                  intro r H locs ls hmu122 hr hM hS hl
                  refine lv_iload_n hx hb dX8_digest_122 rfl (lv_at hl 2 rfl) ?_
                  refine lv_aload_n hx hb dX8_digest_123 rfl (lv_at hl 0 rfl) ?_
                  refine kx_get (v := .ref (a + 1)) hx hb hts hinX8 hown hK hM.1 rfl 1 (by decide) (by decide +kernel) rfl dX8_digest_124 ?_
                  refine lv_iconst (v := nI 3) hx hb dX8_digest_127 (by decide) ?_
                  refine kx_iald (i := 3) hx hb hK hM.state 0 rfl (by decide) (by decide) dX8_digest_128 ?_
                  refine kx_ci (y := nI (Rn (t0 z))) ((hdp 3 (Or.inl (by omega))).trans hit.z3) ?_
                  refine kn_icmp_ge (tgt := 169) hx hb dX8_digest_129 (by decide) (by omega) (by omega) (fun c_3 => ?_) (fun c_3 => ?_)
                  · have hrr : r = Rn (t0 z) := by omega
                    subst hrr
                    have hl : lv_has ls 5 [(0, .ref (a)), (1, .long (dg3 (t0 z) (nI (Sv z)))), (3, .int (nI ((Rn (t0 z)))))] := by rw [dg3_e]; exact hl
                    refine lv_iconst (v := nI 0) hx hb dX8_digest_169 (by decide) ?_
                    refine lv_istore_n (lv' := [(3, .int (nI (0))), (0, .ref (a)), (1, .long (dg3 (t0 z) (nI (Sv z))))]) hx hb dX8_digest_170 rfl hl (by decide) rfl (fun ls hl => ?_)
                    have J171 : ∀ (fu171 : Nat) (q : Nat) (y : Nat → Int32) (H : Heap) (locs : List Loc) (ls : Array Slot), (Mn (t0 z) - q) < fu171 → (q ≤ Mn (t0 z)) → (DgP (t0 z) y) → (MdC D (cs 0) a y H) → va_S ((rgM a)) s.heap H locs → lv_has ls 5 [(0, .ref (a)), (1, .long (dgM (t0 z) (dg3 (t0 z) (nI (Sv z))) q)), (3, .int (nI (q)))] → W p l e ({ frames := 6, cells := 0, slots := 0, locals := 143 } : Room) s m args below meth c H locs 0 0 (MQ below (QcM (some (.long (dgF (t0 z) (nI (Sv z))))) (fun H => ∃ y, MdC D (cs 0) a y H ∧ DgP (t0 z) y) (rgM a)) args s 0 0 ((rgM a))) (F0 m 171 ls []) := by
                      intro fu171; induction fu171 with
                      | zero => intro q y H locs ls hmu171 hq hdp hM hS hl; exact absurd hmu171 (Nat.not_lt_zero _)
                      | succ fu171 ih171 =>
                        intro q y H locs ls hmu171 hq hdp hM hS hl
                        have hey := hdp.ei hit
                        have hIy := ev_R hey
                        refine lv_iload_n hx hb dX8_digest_171 rfl (lv_at hl 2 rfl) ?_
                        refine lv_aload_n hx hb dX8_digest_172 rfl (lv_at hl 0 rfl) ?_
                        refine kx_get (v := .ref (a + 1)) hx hb hts hinX8 hown hK hM.1 rfl 1 (by decide) (by decide +kernel) rfl dX8_digest_173 ?_
                        refine lv_iconst (v := nI 4) hx hb dX8_digest_176 (by decide) ?_
                        refine kx_iald (i := 4) hx hb hK hM.state 0 rfl (by decide) (by decide) dX8_digest_177 ?_
                        refine kx_ci (y := nI (Mn (t0 z))) ((hdp 4 (Or.inl (by omega))).trans hit.z4) ?_
                        refine kn_icmp_ge (tgt := 278) hx hb dX8_digest_178 (by decide) (by omega) (by omega) (fun c_4 => ?_) (fun c_4 => ?_)
                        · have hqq : q = Mn (t0 z) := by omega
                          subst hqq
                          have hl : lv_has ls 5 [(0, .ref (a)), (1, .long (dg4 (t0 z) (nI (Sv z)))), (3, .int (nI ((Mn (t0 z)))))] := by rw [dg4_e]; exact hl
                          refine lv_ldc2 hx hb hown (hts (.constantLong RX8 216 (31)) (by decide +kernel)) dX8_digest_278 ?_
                          refine lv_lload_n hx hb dX8_digest_281 rfl (lv_at hl 1 rfl) ?_
                          refine lv_lmul hx hb dX8_digest_282 ?_
                          refine lv_aload_n hx hb dX8_digest_283 rfl (lv_at hl 0 rfl) ?_
                          refine kx_retP (va_runV (As := []) (rest := [.long (31 * (dg4 (t0 z) (nI (Sv z))))]) ⟨hx, hb, hml, hown, hts⟩ (k_X8_heldCells l D cs a y hIy) (cwV 0 hts gX8_digest_X8_heldCells rfl rfl rfl (by decide +kernel) ⟨Nat.le_of_ble_eq_true rfl, Nat.le_of_ble_eq_true rfl⟩) (kx_preV hK hN hM.1 rfl hM) rfl rfl hl.1 rfl (lv_room (Nat.le_of_ble_eq_true rfl)) dX8_digest_284 ⟨Nat.le_of_ble_eq_true rfl, Nat.le_of_ble_eq_true rfl⟩) ?_
                          refine kx_cl (x := lN (hcN y)) (y := lN (hcN (t0 z))) (congrArg lN (ev_hc hey)) ?_
                          refine lv_ladd hx hb dX8_digest_287 ?_
                          exact kx_lretM hx hb hrt hlk (dgF_e _ _) ⟨_, hM, hdp⟩ hS dX8_digest_288
                        · have hqM : q < Mn (t0 z) := by omega
                          have hqy : q < Mn y := by rw [hey.M]; exact hqM
                          have hc16 := hit.c16 hqM
                          have hwc := hit.wc hqM
                          have hgl := hgN_le (t0 z) q
                          have hmw := hey.1.mW hqM
                          refine lv_iconst (v := nI 0) hx hb dX8_digest_181 (by decide) ?_
                          refine lv_istore (lv' := [(4, .int (nI (0))), (0, .ref (a)), (1, .long (dgM (t0 z) (dg3 (t0 z) (nI (Sv z))) q)), (3, .int (nI (q)))]) hx hb dX8_digest_182 hl (by decide) rfl (fun ls hl => ?_)
                          have J184 : ∀ (fu184 : Nat) (k : Nat) (H : Heap) (locs : List Loc) (ls : Array Slot), (10 - k) < fu184 → (k ≤ 10) → (MdC D (cs 0) a y H) → va_S ((rgM a)) s.heap H locs → lv_has ls 5 [(0, .ref (a)), (1, .long (dgMp (t0 z) q (dgM (t0 z) (dg3 (t0 z) (nI (Sv z))) q) k)), (3, .int (nI (q))), (4, .int (nI (k)))] → W p l e ({ frames := 6, cells := 0, slots := 0, locals := 143 } : Room) s m args below meth c H locs 0 0 (MQ below (QcM (some (.long (dgF (t0 z) (nI (Sv z))))) (fun H => ∃ y, MdC D (cs 0) a y H ∧ DgP (t0 z) y) (rgM a)) args s 0 0 ((rgM a))) (F0 m 184 ls []) := by
                            intro fu184; induction fu184 with
                            | zero => intro k H locs ls hmu184 hk hM hS hl; exact absurd hmu184 (Nat.not_lt_zero _)
                            | succ fu184 ih184 =>
                              intro k H locs ls hmu184 hk hM hS hl
                              refine lv_iload hx hb dX8_digest_184 (lv_at hl 3 rfl) ?_
                              refine lv_bipush (v := nI 9) hx hb dX8_digest_186 (by decide) ?_
                              refine kn_icmp_gt (tgt := 212) hx hb dX8_digest_188 (by decide) (by omega) (by decide) (fun c_5 => ?_) (fun c_5 => ?_)
                              · have hk10 : k = 10 := by omega
                                subst hk10
                                have hl : lv_has ls 5 [(0, .ref (a)), (1, .long (dgMp (t0 z) q (dgM (t0 z) (dg3 (t0 z) (nI (Sv z))) q) 10)), (3, .int (nI (q))), (4, .int (nI (10)))] := hl
                                refine lv_iconst (v := nI 0) hx hb dX8_digest_212 (by decide) ?_
                                refine lv_istore (lv' := [(4, .int (nI (0))), (0, .ref (a)), (1, .long (dgMp (t0 z) q (dgM (t0 z) (dg3 (t0 z) (nI (Sv z))) q) 10)), (3, .int (nI (q)))]) hx hb dX8_digest_213 hl (by decide) rfl (fun ls hl => ?_)
                                have J215 : ∀ (fu215 : Nat) (k : Nat) (H : Heap) (locs : List Loc) (ls : Array Slot), (hgN (t0 z) q - k) < fu215 → (k ≤ hgN (t0 z) q) → (MdC D (cs 0) a y H) → va_S ((rgM a)) s.heap H locs → lv_has ls 5 [(0, .ref (a)), (1, .long (dgMh (t0 z) q (dgMp (t0 z) q (dgM (t0 z) (dg3 (t0 z) (nI (Sv z))) q) 10) k)), (3, .int (nI (q))), (4, .int (nI (k)))] → W p l e ({ frames := 6, cells := 0, slots := 0, locals := 143 } : Room) s m args below meth c H locs 0 0 (MQ below (QcM (some (.long (dgF (t0 z) (nI (Sv z))))) (fun H => ∃ y, MdC D (cs 0) a y H ∧ DgP (t0 z) y) (rgM a)) args s 0 0 ((rgM a))) (F0 m 215 ls []) := by
                                  intro fu215; induction fu215 with
                                  | zero => intro k H locs ls hmu215 hk hM hS hl; exact absurd hmu215 (Nat.not_lt_zero _)
                                  | succ fu215 ih215 =>
                                    intro k H locs ls hmu215 hk hM hS hl
                                    refine lv_iload hx hb dX8_digest_215 (lv_at hl 3 rfl) ?_
                                    refine lv_aload_n hx hb dX8_digest_217 rfl (lv_at hl 0 rfl) ?_
                                    refine lv_iload_n hx hb dX8_digest_218 rfl (lv_at hl 2 rfl) ?_
                                    refine kx_retP (va_runV (As := [.int (nI (q))]) (rest := [.int (nI (k))]) ⟨hx, hb, hml, hown, hts⟩ (k_X8_hostages l D cs a y q hIy hqy) (cwV 1 hts gX8_digest_X8_hostages rfl rfl rfl (by decide +kernel) ⟨Nat.le_of_ble_eq_true rfl, Nat.le_of_ble_eq_true rfl⟩) (kx_preV hK hN hM.1 rfl hM) rfl rfl hl.1 rfl (lv_room (Nat.le_of_ble_eq_true rfl)) dX8_digest_219 ⟨Nat.le_of_ble_eq_true rfl, Nat.le_of_ble_eq_true rfl⟩) ?_
                                    refine kx_ci (y := nI (hgN (t0 z) q)) (congrArg nI (ev_hg hey hqM)) ?_
                                    refine kn_icmp_ge (tgt := 246) hx hb dX8_digest_222 (by decide) (by omega) (by omega) (fun c_6 => ?_) (fun c_6 => ?_)
                                    · have hkh : k = hgN (t0 z) q := by omega
                                      subst hkh
                                      have hl : lv_has ls 5 [(0, .ref (a)), (1, .long (dgMh (t0 z) q (dgMp (t0 z) q (dgM (t0 z) (dg3 (t0 z) (nI (Sv z))) q) 10) (hgN (t0 z) q))), (3, .int (nI (q))), (4, .int (nI ((hgN (t0 z) q))))] := hl
                                      refine lv_ldc2 hx hb hown (hts (.constantLong RX8 216 (31)) (by decide +kernel)) dX8_digest_246 ?_
                                      refine lv_lload_n hx hb dX8_digest_249 rfl (lv_at hl 1 rfl) ?_
                                      refine lv_lmul hx hb dX8_digest_250 ?_
                                      refine lv_aload_n hx hb dX8_digest_251 rfl (lv_at hl 0 rfl) ?_
                                      refine lv_iload_n hx hb dX8_digest_252 rfl (lv_at hl 2 rfl) ?_
                                      refine kx_retP (va_runV (As := [.int (nI (q))]) (rest := [.long (31 * (dgMh (t0 z) q (dgMp (t0 z) q (dgM (t0 z) (dg3 (t0 z) (nI (Sv z))) q) 10) (hgN (t0 z) q)))]) ⟨hx, hb, hml, hown, hts⟩ (k_X8_waitsOf l D cs a y q hIy hqy) (cwV 1 hts gX8_digest_X8_waitsOf rfl rfl rfl (by decide +kernel) ⟨Nat.le_of_ble_eq_true rfl, Nat.le_of_ble_eq_true rfl⟩) (kx_preV hK hN hM.1 rfl hM) rfl rfl hl.1 rfl (lv_room (Nat.le_of_ble_eq_true rfl)) dX8_digest_253 ⟨Nat.le_of_ble_eq_true rfl, Nat.le_of_ble_eq_true rfl⟩) ?_
                                      refine kx_ci (y := nI (woN (t0 z) q)) (congrArg nI (hey.1.wo hit hqM)) ?_
                                      refine lv_i2l hx hb dX8_digest_256 rfl ?_
                                      refine lv_ladd hx hb dX8_digest_257 ?_
                                      refine kx_cl (x := (31 * (dgMh (t0 z) q (dgMp (t0 z) q (dgM (t0 z) (dg3 (t0 z) (nI (Sv z))) q) 10) (hgN (t0 z) q))) + ((nI (woN (t0 z) q)).toInt64)) (y := dS (dgMh (t0 z) q (dgMp (t0 z) q (dgM (t0 z) (dg3 (t0 z) (nI (Sv z))) q) 10) (hgN (t0 z) q)) (nI (woN (t0 z) q)).toInt64) (dS_e _ _) ?_
                                      refine lv_lstore_n (lv' := [(1, .long (dS (dgMh (t0 z) q (dgMp (t0 z) q (dgM (t0 z) (dg3 (t0 z) (nI (Sv z))) q) 10) (hgN (t0 z) q)) (nI (woN (t0 z) q)).toInt64)), (0, .ref (a)), (3, .int (nI (q))), (4, .int (nI ((hgN (t0 z) q))))]) hx hb dX8_digest_258 rfl hl (by decide) rfl (fun ls hl => ?_)
                                      refine lv_ldc2 hx hb hown (hts (.constantLong RX8 216 (31)) (by decide +kernel)) dX8_digest_259 ?_
                                      refine lv_lload_n hx hb dX8_digest_262 rfl (lv_at hl 0 rfl) ?_
                                      refine lv_lmul hx hb dX8_digest_263 ?_
                                      refine lv_aload_n hx hb dX8_digest_264 rfl (lv_at hl 1 rfl) ?_
                                      refine lv_iload_n hx hb dX8_digest_265 rfl (lv_at hl 2 rfl) ?_
                                      refine kx_retM (va_runV (As := [.int (nI (q))]) (rest := [.long (31 * (dS (dgMh (t0 z) q (dgMp (t0 z) q (dgM (t0 z) (dg3 (t0 z) (nI (Sv z))) q) 10) (hgN (t0 z) q)) (nI (woN (t0 z) q)).toInt64))]) ⟨hx, hb, hml, hown, hts⟩ (k_X8_depthOf l D cs a y q hIy hqy) (cwV 1 hts gX8_digest_X8_depthOf rfl rfl rfl (by decide +kernel) ⟨Nat.le_of_ble_eq_true rfl, Nat.le_of_ble_eq_true rfl⟩) (kx_preV hK hN hM.1 rfl hM) rfl rfl hl.1 rfl (lv_room (Nat.le_of_ble_eq_true rfl)) dX8_digest_266 ⟨Nat.le_of_ble_eq_true rfl, Nat.le_of_ble_eq_true rfl⟩) hS (fun q _ h => h) (fun q h => h) (fun H locs hM hk hS => ?_)
                                      clear hk
                                      refine kx_ci (y := nI (dpN (t0 z) q)) (congrArg nI (ev_dp hey hqM)) ?_
                                      refine lv_i2l hx hb dX8_digest_269 rfl ?_
                                      refine lv_ladd hx hb dX8_digest_270 ?_
                                      refine kx_cl (x := (31 * (dS (dgMh (t0 z) q (dgMp (t0 z) q (dgM (t0 z) (dg3 (t0 z) (nI (Sv z))) q) 10) (hgN (t0 z) q)) (nI (woN (t0 z) q)).toInt64)) + ((nI (dpN (t0 z) q)).toInt64)) (y := dgM (t0 z) (dg3 (t0 z) (nI (Sv z))) (q + 1)) ((dS_e _ _).trans (dgM_s2 _ _ _)) ?_
                                      refine lv_lstore_n (lv' := [(1, .long (dgM (t0 z) (dg3 (t0 z) (nI (Sv z))) (q + 1))), (0, .ref (a)), (3, .int (nI (q))), (4, .int (nI ((hgN (t0 z) q))))]) hx hb dX8_digest_271 rfl hl (by decide) rfl (fun ls hl => ?_)
                                      refine lv_iinc (v := nI (q + 1)) (lv' := [(3, .int (nI (q + 1))), (1, .long (dgM (t0 z) (dg3 (t0 z) (nI (Sv z))) (q + 1))), (0, .ref (a)), (4, .int (nI ((hgN (t0 z) q))))]) (k := 2) hx hb dX8_digest_272 hl rfl (nI_add _ _) (by decide) rfl (fun ls hl => ?_)
                                      refine lv_goto (tgt := 171) hx hb dX8_digest_275 (by decide) ?_
                                      exact ih171 (q + 1) (dzK y (q + 1)) _ _ _ (by omega) (by omega) (hdp.dz (by omega)) hM hS (lv_sub hl [2, 1, 0] rfl)
                                    · refine lv_ldc2 hx hb hown (hts (.constantLong RX8 216 (31)) (by decide +kernel)) dX8_digest_225 ?_
                                      refine lv_lload_n hx hb dX8_digest_228 rfl (lv_at hl 1 rfl) ?_
                                      refine lv_lmul hx hb dX8_digest_229 ?_
                                      refine lv_aload_n hx hb dX8_digest_230 rfl (lv_at hl 0 rfl) ?_
                                      refine lv_iload_n hx hb dX8_digest_231 rfl (lv_at hl 2 rfl) ?_
                                      refine lv_iload hx hb dX8_digest_232 (lv_at hl 3 rfl) ?_
                                      refine kx_retP (va_runV (As := [.int (nI (q)), .int (nI (k))]) (rest := [.long (31 * (dgMh (t0 z) q (dgMp (t0 z) q (dgM (t0 z) (dg3 (t0 z) (nI (Sv z))) q) 10) k))]) ⟨hx, hb, hml, hown, hts⟩ (k_X8_hostageOf l D cs a y q k hIy hqy (by rw [hmw]; omega)) (cwV 2 hts gX8_digest_X8_hostageOf rfl rfl rfl (by decide +kernel) ⟨Nat.le_of_ble_eq_true rfl, Nat.le_of_ble_eq_true rfl⟩) (kx_preV hK hN hM.1 rfl hM) rfl rfl hl.1 rfl (lv_room (Nat.le_of_ble_eq_true rfl)) dX8_digest_234 ⟨Nat.le_of_ble_eq_true rfl, Nat.le_of_ble_eq_true rfl⟩) ?_
                                      refine kx_ci (y := t0 z (320 + 16 * q + mW (t0 z) q + k)) (by rw [hmw]; exact hdp _ (Or.inl (by omega))) ?_
                                      refine lv_i2l hx hb dX8_digest_237 rfl ?_
                                      refine lv_ladd hx hb dX8_digest_238 ?_
                                      refine kx_cl (x := (31 * (dgMh (t0 z) q (dgMp (t0 z) q (dgM (t0 z) (dg3 (t0 z) (nI (Sv z))) q) 10) k)) + ((t0 z (320 + 16 * q + mW (t0 z) q + k)).toInt64)) (y := dgMh (t0 z) q (dgMp (t0 z) q (dgM (t0 z) (dg3 (t0 z) (nI (Sv z))) q) 10) (k + 1)) (dgMh_s _ _ _ _) ?_
                                      refine lv_lstore_n (lv' := [(1, .long (dgMh (t0 z) q (dgMp (t0 z) q (dgM (t0 z) (dg3 (t0 z) (nI (Sv z))) q) 10) (k + 1))), (0, .ref (a)), (3, .int (nI (q))), (4, .int (nI (k)))]) hx hb dX8_digest_239 rfl hl (by decide) rfl (fun ls hl => ?_)
                                      refine lv_iinc (v := nI (k + 1)) (lv' := [(4, .int (nI (k + 1))), (1, .long (dgMh (t0 z) q (dgMp (t0 z) q (dgM (t0 z) (dg3 (t0 z) (nI (Sv z))) q) 10) (k + 1))), (0, .ref (a)), (3, .int (nI (q)))]) (k := 3) hx hb dX8_digest_240 hl rfl (nI_add _ _) (by decide) rfl (fun ls hl => ?_)
                                      refine lv_goto (tgt := 215) hx hb dX8_digest_243 (by decide) ?_
                                      exact ih215 (k + 1) _ _ _ (by omega) (by omega) hM hS (lv_sub hl [2, 1, 3, 0] rfl)
                                exact J215 _ 0 _ _ _ (Nat.lt_succ_self _) (by omega) hM hS (by rw [dgMh_0]; exact lv_sub hl [1, 2, 3, 0] rfl)
                              · refine lv_ldc2 hx hb hown (hts (.constantLong RX8 216 (31)) (by decide +kernel)) dX8_digest_191 ?_
                                refine lv_lload_n hx hb dX8_digest_194 rfl (lv_at hl 1 rfl) ?_
                                refine lv_lmul hx hb dX8_digest_195 ?_
                                refine lv_aload_n hx hb dX8_digest_196 rfl (lv_at hl 0 rfl) ?_
                                refine lv_iload_n hx hb dX8_digest_197 rfl (lv_at hl 2 rfl) ?_
                                refine lv_iload hx hb dX8_digest_198 (lv_at hl 3 rfl) ?_
                                refine kx_retP (va_runV (As := [.int (nI (q)), .int (nI (k))]) (rest := [.long (31 * (dgMp (t0 z) q (dgM (t0 z) (dg3 (t0 z) (nI (Sv z))) q) k))]) ⟨hx, hb, hml, hown, hts⟩ (k_X8_movePart l D cs a y q k (by omega) (by omega)) (cwV 2 hts gX8_digest_X8_movePart rfl rfl rfl (by decide +kernel) ⟨Nat.le_of_ble_eq_true rfl, Nat.le_of_ble_eq_true rfl⟩) (kx_preV hK hN hM.1 rfl hM) rfl rfl hl.1 rfl (lv_room (Nat.le_of_ble_eq_true rfl)) dX8_digest_200 ⟨Nat.le_of_ble_eq_true rfl, Nat.le_of_ble_eq_true rfl⟩) ?_
                                refine kx_ci (y := t0 z (80 + 10 * q + k)) (hdp _ (Or.inl (by omega))) ?_
                                refine lv_i2l hx hb dX8_digest_203 rfl ?_
                                refine lv_ladd hx hb dX8_digest_204 ?_
                                refine kx_cl (x := (31 * (dgMp (t0 z) q (dgM (t0 z) (dg3 (t0 z) (nI (Sv z))) q) k)) + ((t0 z (80 + 10 * q + k)).toInt64)) (y := dgMp (t0 z) q (dgM (t0 z) (dg3 (t0 z) (nI (Sv z))) q) (k + 1)) (dgMp_s _ _ _ _) ?_
                                refine lv_lstore_n (lv' := [(1, .long (dgMp (t0 z) q (dgM (t0 z) (dg3 (t0 z) (nI (Sv z))) q) (k + 1))), (0, .ref (a)), (3, .int (nI (q))), (4, .int (nI (k)))]) hx hb dX8_digest_205 rfl hl (by decide) rfl (fun ls hl => ?_)
                                refine lv_iinc (v := nI (k + 1)) (lv' := [(4, .int (nI (k + 1))), (1, .long (dgMp (t0 z) q (dgM (t0 z) (dg3 (t0 z) (nI (Sv z))) q) (k + 1))), (0, .ref (a)), (3, .int (nI (q)))]) (k := 3) hx hb dX8_digest_206 hl rfl (nI_add _ _) (by decide) rfl (fun ls hl => ?_)
                                refine lv_goto (tgt := 184) hx hb dX8_digest_209 (by decide) ?_
                                exact ih184 (k + 1) _ _ _ (by omega) (by omega) hM hS (lv_sub hl [2, 1, 3, 0] rfl)
                          exact J184 _ 0 _ _ _ (Nat.lt_succ_self _) (by omega) hM hS (by rw [dgMp_0]; exact lv_sub hl [1, 2, 3, 0] rfl)
                    exact J171 _ 0 y _ _ _ (Nat.lt_succ_self _) (by omega) hdp hM hS (by rw [dgM_0]; exact lv_sub hl [1, 2, 0] rfl)
                  · refine lv_iconst (v := nI 0) hx hb dX8_digest_132 (by decide) ?_
                    refine lv_istore (lv' := [(4, .int (nI (0))), (0, .ref (a)), (1, .long (dgR (t0 z) (dg2 (t0 z) (nI (Sv z))) r)), (3, .int (nI (r)))]) hx hb dX8_digest_133 hl (by decide) rfl (fun ls hl => ?_)
                    have J135 : ∀ (fu135 : Nat) (k : Nat) (H : Heap) (locs : List Loc) (ls : Array Slot), (8 - k) < fu135 → (k ≤ 8) → (MdC D (cs 0) a y H) → va_S ((rgM a)) s.heap H locs → lv_has ls 5 [(0, .ref (a)), (1, .long (dgRw (t0 z) r (dgR (t0 z) (dg2 (t0 z) (nI (Sv z))) r) k)), (3, .int (nI (r))), (4, .int (nI (k)))] → W p l e ({ frames := 6, cells := 0, slots := 0, locals := 143 } : Room) s m args below meth c H locs 0 0 (MQ below (QcM (some (.long (dgF (t0 z) (nI (Sv z))))) (fun H => ∃ y, MdC D (cs 0) a y H ∧ DgP (t0 z) y) (rgM a)) args s 0 0 ((rgM a))) (F0 m 135 ls []) := by
                      intro fu135; induction fu135 with
                      | zero => intro k H locs ls hmu135 hk hM hS hl; exact absurd hmu135 (Nat.not_lt_zero _)
                      | succ fu135 ih135 =>
                        intro k H locs ls hmu135 hk hM hS hl
                        refine lv_iload hx hb dX8_digest_135 (lv_at hl 3 rfl) ?_
                        refine lv_bipush (v := nI 7) hx hb dX8_digest_137 (by decide) ?_
                        refine kn_icmp_gt (tgt := 163) hx hb dX8_digest_139 (by decide) (by omega) (by decide) (fun c_7 => ?_) (fun c_7 => ?_)
                        · have hk8 : k = 8 := by omega
                          subst hk8
                          have hl : lv_has ls 5 [(0, .ref (a)), (1, .long (dgR (t0 z) (dg2 (t0 z) (nI (Sv z))) (r + 1))), (3, .int (nI (r))), (4, .int (nI (8)))] := by rw [← dgR_s]; exact hl
                          refine lv_iinc (v := nI (r + 1)) (lv' := [(3, .int (nI (r + 1))), (0, .ref (a)), (1, .long (dgR (t0 z) (dg2 (t0 z) (nI (Sv z))) (r + 1))), (4, .int (nI (8)))]) (k := 2) hx hb dX8_digest_163 hl rfl (nI_add _ _) (by decide) rfl (fun ls hl => ?_)
                          refine lv_goto (tgt := 122) hx hb dX8_digest_166 (by decide) ?_
                          exact ih122 (r + 1) _ _ _ (by omega) (by omega) hM hS (lv_sub hl [1, 2, 0] rfl)
                        · refine lv_ldc2 hx hb hown (hts (.constantLong RX8 216 (31)) (by decide +kernel)) dX8_digest_142 ?_
                          refine lv_lload_n hx hb dX8_digest_145 rfl (lv_at hl 1 rfl) ?_
                          refine lv_lmul hx hb dX8_digest_146 ?_
                          refine lv_aload_n hx hb dX8_digest_147 rfl (lv_at hl 0 rfl) ?_
                          refine lv_iload_n hx hb dX8_digest_148 rfl (lv_at hl 2 rfl) ?_
                          refine lv_iload hx hb dX8_digest_149 (lv_at hl 3 rfl) ?_
                          refine kx_retP (va_runV (As := [.int (nI (r)), .int (nI (k))]) (rest := [.long (31 * (dgRw (t0 z) r (dgR (t0 z) (dg2 (t0 z) (nI (Sv z))) r) k))]) ⟨hx, hb, hml, hown, hts⟩ (k_X8_ringValue l D cs a y r k hIy (by rw [hey.R]; omega) (by omega)) (cwV 2 hts gX8_digest_X8_ringValue rfl rfl rfl (by decide +kernel) ⟨Nat.le_of_ble_eq_true rfl, Nat.le_of_ble_eq_true rfl⟩) (kx_preV hK hN hM.1 rfl hM) rfl rfl hl.1 rfl (lv_room (Nat.le_of_ble_eq_true rfl)) dX8_digest_151 ⟨Nat.le_of_ble_eq_true rfl, Nat.le_of_ble_eq_true rfl⟩) ?_
                          refine kx_ci (y := rvI (t0 z) r k) (ev_rv hey (by omega) (by omega)) ?_
                          refine lv_i2l hx hb dX8_digest_154 rfl ?_
                          refine lv_ladd hx hb dX8_digest_155 ?_
                          refine kx_cl (x := (31 * (dgRw (t0 z) r (dgR (t0 z) (dg2 (t0 z) (nI (Sv z))) r) k)) + ((rvI (t0 z) r k).toInt64)) (y := dgRw (t0 z) r (dgR (t0 z) (dg2 (t0 z) (nI (Sv z))) r) (k + 1)) (dgRw_s _ _ _ _) ?_
                          refine lv_lstore_n (lv' := [(1, .long (dgRw (t0 z) r (dgR (t0 z) (dg2 (t0 z) (nI (Sv z))) r) (k + 1))), (0, .ref (a)), (3, .int (nI (r))), (4, .int (nI (k)))]) hx hb dX8_digest_156 rfl hl (by decide) rfl (fun ls hl => ?_)
                          refine lv_iinc (v := nI (k + 1)) (lv' := [(4, .int (nI (k + 1))), (1, .long (dgRw (t0 z) r (dgR (t0 z) (dg2 (t0 z) (nI (Sv z))) r) (k + 1))), (0, .ref (a)), (3, .int (nI (r)))]) (k := 3) hx hb dX8_digest_157 hl rfl (nI_add _ _) (by decide) rfl (fun ls hl => ?_)
                          refine lv_goto (tgt := 135) hx hb dX8_digest_160 (by decide) ?_
                          exact ih135 (k + 1) _ _ _ (by omega) (by omega) hM hS (lv_sub hl [2, 1, 3, 0] rfl)
                    exact J135 _ 0 _ _ _ (Nat.lt_succ_self _) (by omega) hM hS (by rw [dgRw_0]; exact lv_sub hl [1, 2, 3, 0] rfl)
              exact J122 _ 0 _ _ _ (Nat.lt_succ_self _) (by omega) hM hS (by rw [dgR_0]; exact lv_sub hl [1, 2, 0] rfl)
            · refine lv_ldc2 hx hb hown (hts (.constantLong RX8 216 (31)) (by decide +kernel)) dX8_digest_67 ?_
              refine lv_lload_n hx hb dX8_digest_70 rfl (lv_at hl 1 rfl) ?_
              refine lv_lmul hx hb dX8_digest_71 ?_
              refine lv_aload_n hx hb dX8_digest_72 rfl (lv_at hl 0 rfl) ?_
              refine kx_get (v := .ref (a + 2)) hx hb hts hinX8 hown hK hM.1 rfl 2 (by decide) (by decide +kernel) rfl dX8_digest_73 ?_
              refine lv_bipush (v := nI 8) hx hb dX8_digest_76 (by decide) ?_
              refine lv_iload_n hx hb dX8_digest_78 rfl (lv_at hl 2 rfl) ?_
              refine kn_add hx hb dX8_digest_79 ?_
              refine kx_iald (i := 8 + k) hx hb hK hM.kept 0 rfl (by omega) (by decide) dX8_digest_80 ?_
              refine kx_ci (y := t0 z (8 + k)) (dg_kept hI (by omega)) ?_
              refine lv_i2l hx hb dX8_digest_81 rfl ?_
              refine lv_ladd hx hb dX8_digest_82 ?_
              refine kx_cl (x := (31 * (dgC (t0 z) (finF (t0 z)) (dg1 (t0 z) (nI (Sv z))) k)) + ((t0 z (8 + k)).toInt64)) (y := dS (dgC (t0 z) (finF (t0 z)) (dg1 (t0 z) (nI (Sv z))) k) (t0 z (8 + k)).toInt64) (dS_e _ _) ?_
              refine lv_lstore_n (lv' := [(1, .long (dS (dgC (t0 z) (finF (t0 z)) (dg1 (t0 z) (nI (Sv z))) k) (t0 z (8 + k)).toInt64)), (0, .ref (a)), (3, .int (nI (k)))]) hx hb dX8_digest_83 rfl hl (by decide) rfl (fun ls hl => ?_)
              refine lv_ldc2 hx hb hown (hts (.constantLong RX8 216 (31)) (by decide +kernel)) dX8_digest_84 ?_
              refine lv_lload_n hx hb dX8_digest_87 rfl (lv_at hl 0 rfl) ?_
              refine lv_lmul hx hb dX8_digest_88 ?_
              refine lv_aload_n hx hb dX8_digest_89 rfl (lv_at hl 1 rfl) ?_
              refine kx_get (v := .ref (a + 1)) hx hb hts hinX8 hown hK hM.1 rfl 1 (by decide) (by decide +kernel) rfl dX8_digest_90 ?_
              refine lv_bipush (v := nI 8) hx hb dX8_digest_93 (by decide) ?_
              refine lv_iload_n hx hb dX8_digest_95 rfl (lv_at hl 2 rfl) ?_
              refine kn_add hx hb dX8_digest_96 ?_
              refine kx_iald (i := 8 + k) hx hb hK hM.state 0 rfl (by omega) (by decide) dX8_digest_97 ?_
              refine kx_ci (y := finF (t0 z) (8 + k)) (dg_fin hI (by omega)) ?_
              refine lv_i2l hx hb dX8_digest_98 rfl ?_
              refine lv_ladd hx hb dX8_digest_99 ?_
              refine kx_cl (x := (31 * (dS (dgC (t0 z) (finF (t0 z)) (dg1 (t0 z) (nI (Sv z))) k) (t0 z (8 + k)).toInt64)) + ((finF (t0 z) (8 + k)).toInt64)) (y := dgC (t0 z) (finF (t0 z)) (dg1 (t0 z) (nI (Sv z))) (k + 1)) (dgC_s _ _ _ _) ?_
              refine lv_lstore_n (lv' := [(1, .long (dgC (t0 z) (finF (t0 z)) (dg1 (t0 z) (nI (Sv z))) (k + 1))), (0, .ref (a)), (3, .int (nI (k)))]) hx hb dX8_digest_100 rfl hl (by decide) rfl (fun ls hl => ?_)
              refine lv_iinc (v := nI (k + 1)) (lv' := [(3, .int (nI (k + 1))), (1, .long (dgC (t0 z) (finF (t0 z)) (dg1 (t0 z) (nI (Sv z))) (k + 1))), (0, .ref (a))]) (k := 2) hx hb dX8_digest_101 hl rfl (nI_add _ _) (by decide) rfl (fun ls hl => ?_)
              refine lv_goto (tgt := 61) hx hb dX8_digest_104 (by decide) ?_
              exact ih61 (k + 1) _ _ _ (by omega) (by omega) hM hS (lv_sub hl [2, 1, 0] rfl)
        exact J61 _ 0 _ _ _ (Nat.lt_succ_self _) (by omega) hM hS (by rw [dgC_0]; exact lv_sub hl [1, 2, 0] rfl)
      · refine lv_ldc2 hx hb hown (hts (.constantLong RX8 216 (31)) (by decide +kernel)) dX8_digest_23 ?_
        refine lv_lload_n hx hb dX8_digest_26 rfl (lv_at hl 1 rfl) ?_
        refine lv_lmul hx hb dX8_digest_27 ?_
        refine lv_aload_n hx hb dX8_digest_28 rfl (lv_at hl 0 rfl) ?_
        refine lv_iload_n hx hb dX8_digest_29 rfl (lv_at hl 2 rfl) ?_
        refine kx_retP (va_runV (As := [.int (nI (k))]) (rest := [.long (31 * (dgW (t0 z) (dg0 (nI (Sv z))) k))]) ⟨hx, hb, hml, hown, hts⟩ (k_X8_wholeValue l D cs a (t0 z) k hit (by omega)) (cwV 1 hts gX8_digest_X8_wholeValue rfl rfl rfl (by decide +kernel) ⟨Nat.le_of_ble_eq_true rfl, Nat.le_of_ble_eq_true rfl⟩) (kx_preV hK hN hM.1 rfl hM) rfl rfl hl.1 rfl (lv_room (Nat.le_of_ble_eq_true rfl)) dX8_digest_30 ⟨Nat.le_of_ble_eq_true rfl, Nat.le_of_ble_eq_true rfl⟩) ?_
        refine lv_i2l hx hb dX8_digest_33 rfl ?_
        refine lv_ladd hx hb dX8_digest_34 ?_
        refine kx_cl (x := (31 * (dgW (t0 z) (dg0 (nI (Sv z))) k)) + ((wvI (t0 z) k).toInt64)) (y := dgW (t0 z) (dg0 (nI (Sv z))) (k + 1)) (dgW_s _ _ _) ?_
        refine lv_lstore_n (lv' := [(1, .long (dgW (t0 z) (dg0 (nI (Sv z))) (k + 1))), (0, .ref (a)), (3, .int (nI (k)))]) hx hb dX8_digest_35 rfl hl (by decide) rfl (fun ls hl => ?_)
        refine lv_iinc (v := nI (k + 1)) (lv' := [(3, .int (nI (k + 1))), (1, .long (dgW (t0 z) (dg0 (nI (Sv z))) (k + 1))), (0, .ref (a))]) (k := 2) hx hb dX8_digest_36 hl rfl (nI_add _ _) (by decide) rfl (fun ls hl => ?_)
        refine lv_goto (tgt := 17) hx hb dX8_digest_39 (by decide) ?_
        exact ih17 (k + 1) _ _ _ (by omega) (by omega) hM hS (lv_sub hl [2, 1, 0] rfl)
  exact J17 _ 0 _ _ _ (Nat.lt_succ_self _) (by omega) hM hS (by rw [dgW_0]; exact lv_sub hl [2, 1, 0] rfl)
