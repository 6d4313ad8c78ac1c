/-! the law's tick -/
set_option maxHeartbeats 2500000 in
set_option maxRecDepth 100000 in
theorem k_L_tick (l : Launch) (D : va_G) (cs : Nat → ClassId) (a : Nat) (z : Nat → Int32) (g : Nat → Int64) (T : Nat) (hI : Inv z) (hG : Msk z g) (hB : LB z) (hT : z 0 = nI T) (hT9 : T < 2 ^ 20) : Met l yL_tick wsL_tick ({ frames := 2, cells := 0, slots := 0, locals := 50 } : Room) (PcK D cs [.ref (a), .ref (a + 1), .ref (a + 2), .ref (a + 3), .ref (a + 4), .ref (a + 5)] (fun H => LwC D cs a z g H)) (QcM (some (.int (nI (tickN z)))) (fun H => LwC D cs a (tickF z) g H) (rgL a)) 0 0 ((rgL a)) := by
  refine kx_met (cc := cL_tick) (maxL := 11) (ret := (some .int)) (by decide) rfl (Nat.le_of_ble_eq_true rfl) ?_
  intro p en s m args below meth c hx hb hml hrt hts hown hlk hK hN hP ls hl
  have hl : lv_has ls 11 [(0, .ref (a)), (1, .ref (a + 1)), (2, .ref (a + 2)), (3, .ref (a + 3)), (4, .ref (a + 4)), (5, .ref (a + 5))] := hl
  obtain ⟨H, hHe⟩ : ∃ H : Heap, H = s.heap := ⟨_, rfl⟩
  rw [← hHe] at hP ⊢
  have hS : va_S ((rgL a)) s.heap H [] := by rw [← hHe]; exact va_S.rf
  have hL := hP
  have h24 := hI.M24
  have h6 := hI.R6
  have h8 := hB.M8
  have hR3 := hB.R
  have hsg := sgF_si hI
  have hBs := lb_sg hI hB
  have hGs := hG.stay hI hsg.1
  have hMs := hsg.1.M
  have hA := tkA_si hI
  have hBA := lb_tkA hI hB
  have hMA := hA.1.M
  refine lv_iconst (v := nI 0) hx hb dL_tick_0 (by decide) ?_
  refine lv_istore (lv' := [(6, .int (nI (0))), (0, .ref (a)), (1, .ref (a + 1)), (2, .ref (a + 2)), (3, .ref (a + 3)), (4, .ref (a + 4)), (5, .ref (a + 5))]) hx hb dL_tick_1 hl (by decide) rfl (fun ls hl => ?_)
  have J3 : ∀ (fu3 : Nat) (k : Nat) (H : Heap) (locs : List Loc) (ls : Array Slot), (Mn z - k) < fu3 → (k ≤ Mn z) → (LwC D cs a (lgK z k) g H) → va_S ((rgL a)) s.heap H locs → lv_has ls 11 [(0, .ref (a)), (1, .ref (a + 1)), (2, .ref (a + 2)), (3, .ref (a + 3)), (4, .ref (a + 4)), (5, .ref (a + 5)), (6, .int (nI (k)))] → W p l en ({ frames := 2, cells := 0, slots := 0, locals := 50 } : Room) s m args below meth c H locs 0 0 (MQ below (QcM (some (.int (nI (tickN z)))) (fun H => LwC D cs a (tickF z) g H) (rgL a)) args s 0 0 ((rgL a))) (F0 m 3 ls []) := by
    intro fu3; induction fu3 with
    | zero => intro k H locs ls hmu3 hk hL hS hl; exact absurd hmu3 (Nat.not_lt_zero _)
    | succ fu3 ih3 =>
      intro k H locs ls hmu3 hk hL hS hl
      obtain ⟨y, hyd⟩ : ∃ y, lgK z k = y := ⟨_, rfl⟩
      have hy : SI z y := hyd ▸ lgK_si hI k
      have hye : k < Mn z → mS y k = 2 → y (80 + 10 * k + 8) ≠ -1000 := fun q q2 => by rw [← hyd] at q2 ⊢; exact lg_ye hB q q2
      rw [hyd] at hL
      have hRy := hy.1.R
      have hMy := hy.1.M
      have hL : LwC D cs a y g H := hL
      refine lv_iload hx hb dL_tick_3 (lv_at hl 6 rfl) ?_
      refine lv_aload_n hx hb dL_tick_5 rfl (lv_at hl 0 rfl) ?_
      refine lv_iconst (v := nI 0) hx hb dL_tick_6 (by decide) ?_
      refine kx_iald (i := 0) hx hb hK hL.q 0 rfl (by omega) (by decide) dL_tick_7 ?_
      refine kx_ci (x := qF y 0) (y := nI (Mn y)) (Inv.z4 hy.2) ?_
      refine kn_icmp_ge (tgt := 98) hx hb dL_tick_8 (by decide) (by omega) (by omega) (fun c_1 => ?_) (fun c_1 => ?_)
      · have hkk : k = Mn z := by omega
        rw [← hyd, hkk] at hL
        have hL : LwC D cs a (sgF z) g H := hL.alike (lg_tr hI)
        refine lv_iconst (v := nI 0) hx hb dL_tick_98 (by decide) ?_
        refine lv_istore (lv' := [(6, .int (nI (0))), (0, .ref (a)), (1, .ref (a + 1)), (2, .ref (a + 2)), (3, .ref (a + 3)), (4, .ref (a + 4)), (5, .ref (a + 5))]) hx hb dL_tick_99 hl (by decide) rfl (fun ls hl => ?_)
        refine lv_iconst (v := nI 0) hx hb dL_tick_101 (by decide) ?_
        refine lv_istore (lv' := [(7, .int (nI (0))), (6, .int (nI (0))), (0, .ref (a)), (1, .ref (a + 1)), (2, .ref (a + 2)), (3, .ref (a + 3)), (4, .ref (a + 4)), (5, .ref (a + 5))]) hx hb dL_tick_102 hl (by decide) rfl (fun ls hl => ?_)
        have J104 : ∀ (fu104 : Nat) (k : Nat) (H : Heap) (locs : List Loc) (ls : Array Slot), (Mn z - k) < fu104 → (k ≤ Mn z) → (LwC D cs a (sgF z) g H) → va_S ((rgL a)) s.heap H locs → lv_has ls 11 [(0, .ref (a)), (1, .ref (a + 1)), (2, .ref (a + 2)), (3, .ref (a + 3)), (4, .ref (a + 4)), (5, .ref (a + 5)), (6, .int (nI (msK (sgF z) 1 k))), (7, .int (nI (k)))] → W p l en ({ frames := 2, cells := 0, slots := 0, locals := 50 } : Room) s m args below meth c H locs 0 0 (MQ below (QcM (some (.int (nI (tickN z)))) (fun H => LwC D cs a (tickF z) g H) (rgL a)) args s 0 0 ((rgL a))) (F0 m 104 ls []) := by
          intro fu104; induction fu104 with
          | zero => intro k H locs ls hmu104 hk hL hS hl; exact absurd hmu104 (Nat.not_lt_zero _)
          | succ fu104 ih104 =>
            intro k H locs ls hmu104 hk hL hS hl
            refine lv_iload hx hb dL_tick_104 (lv_at hl 7 rfl) ?_
            refine lv_aload_n hx hb dL_tick_106 rfl (lv_at hl 0 rfl) ?_
            refine lv_iconst (v := nI 0) hx hb dL_tick_107 (by decide) ?_
            refine kx_iald (i := 0) hx hb hK hL.q 0 rfl (by omega) (by decide) dL_tick_108 ?_
            refine kx_ci (x := qF (sgF z) 0) (y := nI (Mn (sgF z))) (Inv.z4 hsg.2) ?_
            refine kn_icmp_ge (tgt := 141) hx hb dL_tick_109 (by decide) (by omega) (by omega) (fun c_2 => ?_) (fun c_2 => ?_)
            · refine lv_iconst (v := nI 0) hx hb dL_tick_141 (by decide) ?_
              refine lv_istore (lv' := [(7, .int (nI (0))), (0, .ref (a)), (1, .ref (a + 1)), (2, .ref (a + 2)), (3, .ref (a + 3)), (4, .ref (a + 4)), (5, .ref (a + 5)), (6, .int (nI (msK (sgF z) 1 k)))]) hx hb dL_tick_142 hl (by decide) rfl (fun ls hl => ?_)
              have J144 : ∀ (fu144 : Nat) (k : Nat) (H : Heap) (locs : List Loc) (ls : Array Slot), (Mn z - k) < fu144 → (k ≤ Mn z) → (LwC D cs a (stK (sgF z) k) g H) → va_S ((rgL a)) s.heap H locs → lv_has ls 11 [(0, .ref (a)), (1, .ref (a + 1)), (2, .ref (a + 2)), (3, .ref (a + 3)), (4, .ref (a + 4)), (5, .ref (a + 5)), (6, .int (nI (msN (stK (sgF z) k) 1))), (7, .int (nI (k)))] → W p l en ({ frames := 2, cells := 0, slots := 0, locals := 50 } : Room) s m args below meth c H locs 0 0 (MQ below (QcM (some (.int (nI (tickN z)))) (fun H => LwC D cs a (tickF z) g H) (rgL a)) args s 0 0 ((rgL a))) (F0 m 144 ls []) := by
                intro fu144; induction fu144 with
                | zero => intro k H locs ls hmu144 hk hL hS hl; exact absurd hmu144 (Nat.not_lt_zero _)
                | succ fu144 ih144 =>
                  intro k H locs ls hmu144 hk hL hS hl
                  obtain ⟨y, hyd⟩ : ∃ y, stK (sgF z) k = y := ⟨_, rfl⟩
                  have hy : SI z y := hyd ▸ hsg.tr (stK_si hsg.2 k)
                  have hBy : LB y := hyd ▸ lb_stK hsg.2 hBs (by omega)
                  have hGy := hG.stay hI hy.1
                  rw [hyd] at hL hl
                  have hl : lv_has ls 11 [(0, .ref (a)), (1, .ref (a + 1)), (2, .ref (a + 2)), (3, .ref (a + 3)), (4, .ref (a + 4)), (5, .ref (a + 5)), (6, .int (nI (msN y 1))), (7, .int (nI (k)))] := hl
                  have hRy := hy.1.R
                  have hMy := hy.1.M
                  have hL : LwC D cs a y g H := hL
                  refine lv_iload hx hb dL_tick_144 (lv_at hl 7 rfl) ?_
                  refine lv_aload_n hx hb dL_tick_146 rfl (lv_at hl 0 rfl) ?_
                  refine lv_iconst (v := nI 0) hx hb dL_tick_147 (by decide) ?_
                  refine kx_iald (i := 0) hx hb hK hL.q 0 rfl (by omega) (by decide) dL_tick_148 ?_
                  refine kx_ci (x := qF y 0) (y := nI (Mn y)) (Inv.z4 hy.2) ?_
                  refine kn_icmp_ge (tgt := 264) hx hb dL_tick_149 (by decide) (by omega) (by omega) (fun c_3 => ?_) (fun c_3 => ?_)
                  · have hkk : k = Mn z := by omega
                    rw [← hyd, hkk] at hL
                    have hL : LwC D cs a (tkA z) g H := hL
                    refine lv_iconst (v := nI 0) hx hb dL_tick_264 (by decide) ?_
                    refine lv_istore (lv' := [(7, .int (nI (0))), (0, .ref (a)), (1, .ref (a + 1)), (2, .ref (a + 2)), (3, .ref (a + 3)), (4, .ref (a + 4)), (5, .ref (a + 5)), (6, .int (nI (msN y 1)))]) hx hb dL_tick_265 hl (by decide) rfl (fun ls hl => ?_)
                    refine lv_iconst (v := nI 0) hx hb dL_tick_267 (by decide) ?_
                    refine lv_istore (lv' := [(8, .int (nI (0))), (7, .int (nI (0))), (0, .ref (a)), (1, .ref (a + 1)), (2, .ref (a + 2)), (3, .ref (a + 3)), (4, .ref (a + 4)), (5, .ref (a + 5)), (6, .int (nI (msN y 1)))]) hx hb dL_tick_268 hl (by decide) rfl (fun ls hl => ?_)
                    have J270 : ∀ (fu270 : Nat) (k : Nat) (H : Heap) (locs : List Loc) (ls : Array Slot), (Mn z - k) < fu270 → (k ≤ Mn z) → (LwC D cs a (cyK (tkA z) k) g H) → va_S ((rgL a)) s.heap H locs → lv_has ls 11 [(0, .ref (a)), (1, .ref (a + 1)), (2, .ref (a + 2)), (3, .ref (a + 3)), (4, .ref (a + 4)), (5, .ref (a + 5)), (7, .int (nI (cyN (tkA z) k))), (8, .int (nI (k)))] → W p l en ({ frames := 2, cells := 0, slots := 0, locals := 50 } : Room) s m args below meth c H locs 0 0 (MQ below (QcM (some (.int (nI (tickN z)))) (fun H => LwC D cs a (tickF z) g H) (rgL a)) args s 0 0 ((rgL a))) (F0 m 270 ls []) := by
                      intro fu270; induction fu270 with
                      | zero => intro k H locs ls hmu270 hk hL hS hl; exact absurd hmu270 (Nat.not_lt_zero _)
                      | succ fu270 ih270 =>
                        intro k H locs ls hmu270 hk hL hS hl
                        obtain ⟨y, hyd⟩ : ∃ y, cyK (tkA z) k = y := ⟨_, rfl⟩
                        have hyA : SI (tkA z) y := hyd ▸ cyK_si hA.2 k (by omega)
                        have hy : SI z y := hA.tr hyA
                        have hy0 : y 0 = nI T := by rw [← hyd, cyK_lo hA.2 (by omega) k (by omega), tkA_lo hI (by omega) (by omega)]; exact hT
                        have hBy : LB y := hyd ▸ lb_cyK hA.2 hBA ((tkA_lo hI (by omega) (by omega)).trans hT) (by omega) k (by omega)
                        rw [hyd] at hL
                        have hRy := hy.1.R
                        have hMy := hy.1.M
                        have hS8 := hy.2.S8
                        have hL : LwC D cs a y g H := hL
                        refine lv_iload hx hb dL_tick_270 (lv_at hl 7 rfl) ?_
                        refine lv_aload_n hx hb dL_tick_272 rfl (lv_at hl 0 rfl) ?_
                        refine lv_iconst (v := nI 0) hx hb dL_tick_273 (by decide) ?_
                        refine kx_iald (i := 0) hx hb hK hL.q 0 rfl (by omega) (by decide) dL_tick_274 ?_
                        refine kx_ci (x := qF y 0) (y := nI (Mn y)) (Inv.z4 hy.2) ?_
                        refine kn_icmp_ge (tgt := 411) hx hb dL_tick_275 (by decide) (by omega) (by omega) (fun c_4 => ?_) (fun c_4 => ?_)
                        · have hkk : k = Mn z := by omega
                          subst hkk
                          have hl : lv_has ls 11 [(0, .ref (a)), (1, .ref (a + 1)), (2, .ref (a + 2)), (3, .ref (a + 3)), (4, .ref (a + 4)), (5, .ref (a + 5)), (7, .int (nI (tickN z))), (8, .int (nI (Mn z)))] := hl
                          rw [← hyd] at hL
                          have hL : LwC D cs a (tkB z) g H := hL
                          refine lv_aload_n hx hb dL_tick_411 rfl (lv_at hl 0 rfl) ?_
                          refine lv_iconst (v := nI 1) hx hb dL_tick_412 (by decide) ?_
                          refine lv_dup2_11 hx hb dL_tick_413 rfl rfl ?_
                          refine kx_iald (i := 1) hx hb hK hL.q 0 rfl (by omega) (by decide) dL_tick_414 ?_
                          refine kx_ci (x := qF (tkB z) 1) (y := (tkB z) 0) rfl ?_
                          refine lv_iconst (v := nI 1) hx hb dL_tick_415 (by decide) ?_
                          refine lv_iadd hx hb dL_tick_416 ?_
                          refine kx_iast (i := 1) hx hb hK hL.q hS ⟨by omega, by omega⟩ 0 rfl (by omega) (by decide) dL_tick_417 (fun H locs hc hU hS => ?_)
                          have hL := hL.put_q (k := 0) (by decide) hc hU
                          clear hc hU
                          have hL : LwC D cs a (upd (tkB z) 0 (((tkB z) 0) + (nI (1)))) g H := hL
                          have hL : LwC D cs a (tickF z) g H := hL.alike (tk_tr z)
                          refine lv_iload hx hb dL_tick_418 (lv_at hl 6 rfl) ?_
                          exact kx_iretM hx hb hrt hlk rfl hL hS dL_tick_420
                        · have hkM : k < Mn y := by omega
                          have hs3 := hy.2.s3 hkM
                          have hc8 := hBy.c8 hkM
                          obtain ⟨ec0, ed0⟩ := cpP_0 hy.2 hBy hkM
                          refine lv_iconst (v := nI 0) hx hb dL_tick_278 (by decide) ?_
                          refine lv_istore (lv' := [(9, .int (nI (0))), (0, .ref (a)), (1, .ref (a + 1)), (2, .ref (a + 2)), (3, .ref (a + 3)), (4, .ref (a + 4)), (5, .ref (a + 5)), (7, .int (nI (cyN (tkA z) k))), (8, .int (nI (k)))]) hx hb dL_tick_279 hl (by decide) rfl (fun ls hl => ?_)
                          have J281 : ∀ (fu281 : Nat) (i : Nat) (H : Heap) (locs : List Loc) (ls : Array Slot), (Sp y - i) < fu281 → (i ≤ Sp y) → (LwC D cs a (cpP y k i) g H) → va_S ((rgL a)) s.heap H locs → lv_has ls 11 [(0, .ref (a)), (1, .ref (a + 1)), (2, .ref (a + 2)), (3, .ref (a + 3)), (4, .ref (a + 4)), (5, .ref (a + 5)), (7, .int (nI (cyN (tkA z) k + cdN y k i))), (8, .int (nI (k))), (9, .int (nI (i)))] → W p l en ({ frames := 2, cells := 0, slots := 0, locals := 50 } : Room) s m args below meth c H locs 0 0 (MQ below (QcM (some (.int (nI (tickN z)))) (fun H => LwC D cs a (tickF z) g H) (rgL a)) args s 0 0 ((rgL a))) (F0 m 281 ls []) := by
                            intro fu281; induction fu281 with
                            | zero => intro i H locs ls hmu281 hi hL hS hl; exact absurd hmu281 (Nat.not_lt_zero _)
                            | succ fu281 ih281 =>
                              intro i H locs ls hmu281 hi hL hS hl
                              have hX := cpP_si hy.2 hkM i
                              have hMX := hX.1.M
                              have hkX : k < Mn (cpP y k i) := by omega
                              have hsX := hX.2.s3 hkX
                              refine lv_iload hx hb dL_tick_281 (lv_at hl 8 rfl) ?_
                              refine lv_aload_n hx hb dL_tick_283 rfl (lv_at hl 0 rfl) ?_
                              refine lv_iconst (v := nI 2) hx hb dL_tick_284 (by decide) ?_
                              refine kx_iald (i := 2) hx hb hK hL.q 0 rfl (by omega) (by decide) dL_tick_285 ?_
                              refine kx_ci (x := qF (cpP y k i) 2) (y := nI (Sp (cpP y k i))) (Inv.z1 hX.2) ?_
                              refine kx_ci (x := nI (Sp (cpP y k i))) (y := nI (Sp y)) (congrArg nI hX.1.S) ?_
                              refine kn_icmp_ge (tgt := 405) hx hb dL_tick_286 (by decide) (by omega) (by omega) (fun c286 => ?_) (fun c286 => ?_)
                              · have hfin : cpP y k (Sp y) = cpP y k i ∧ cdN y k (Sp y) = cdN y k i := by rw [show i = Sp y by omega]; exact ⟨rfl, rfl⟩
                                have e9 : cyK (tkA z) (k + 1) = cpP y k i := by
                                  show cyS k (cyK (tkA z) k) = _
                                  rw [hyd, ← cpP_end]; exact hfin.1
                                rw [← e9] at hL
                                have hL : LwC D cs a (cyK (tkA z) (k + 1)) g H := hL
                                have e8 : cyN (tkA z) (k + 1) = cyN (tkA z) k + cdN y k i := by rw [cyN_s, hyd, ← cdN_end]; exact congrArg (cyN (tkA z) k + ·) hfin.2
                                rw [← e8] at hl
                                have hl : lv_has ls 11 [(0, .ref (a)), (1, .ref (a + 1)), (2, .ref (a + 2)), (3, .ref (a + 3)), (4, .ref (a + 4)), (5, .ref (a + 5)), (7, .int (nI (cyN (tkA z) (k + 1)))), (8, .int (nI (k))), (9, .int (nI (i)))] := hl
                                refine lv_iinc (v := nI (k + 1)) (lv' := [(8, .int (nI (k + 1))), (0, .ref (a)), (1, .ref (a + 1)), (2, .ref (a + 2)), (3, .ref (a + 3)), (4, .ref (a + 4)), (5, .ref (a + 5)), (7, .int (nI (cyN (tkA z) (k + 1)))), (9, .int (nI (i)))]) (k := 7) hx hb dL_tick_405 hl rfl (nI_add _ _) (by decide) rfl (fun ls hl => ?_)
                                refine lv_goto (tgt := 270) hx hb dL_tick_408 (by decide) ?_
                                exact ih270 (k + 1) _ _ _ (by omega) (by omega) hL hS (lv_sub hl [1, 2, 3, 4, 5, 6, 7, 0] rfl)
                              · refine lv_aload_n hx hb dL_tick_289 rfl (lv_at hl 3 rfl) ?_
                                refine lv_bipush (v := nI 8) hx hb dL_tick_290 (by decide) ?_
                                refine lv_iload hx hb dL_tick_292 (lv_at hl 7 rfl) ?_
                                refine kn_mul hx hb dL_tick_294 ?_
                                refine lv_iconst (v := nI 5) hx hb dL_tick_295 (by decide) ?_
                                refine kn_add hx hb dL_tick_296 ?_
                                refine kx_iald (i := 8 * k + 5) hx hb hK hL.mv 0 rfl (by omega) (by decide) dL_tick_297 ?_
                                refine kx_ci (x := mvF (cpP y k i) (8 * k + 5)) (y := nI (mS (cpP y k i) k)) (Eq.trans (mvF_lo (cpP y k i) k (p := 5) (by omega)) (Inv.m5 hX.2 hkX)) ?_
                                refine lv_iconst (v := nI 1) hx hb dL_tick_298 (by decide) ?_
                                refine kn_icmp_ne (tgt := 405) hx hb dL_tick_299 (by decide) (by omega) (by decide) (fun c299 => ?_) (fun c299 => ?_)
                                · have hfin : cpP y k (Sp y) = cpP y k i ∧ cdN y k (Sp y) = cdN y k i := cpP_stop (fun q => c299 ((cpP_one hy.2 hkM i).mpr q)) hi
                                  have e9 : cyK (tkA z) (k + 1) = cpP y k i := by
                                    show cyS k (cyK (tkA z) k) = _
                                    rw [hyd, ← cpP_end]; exact hfin.1
                                  rw [← e9] at hL
                                  have hL : LwC D cs a (cyK (tkA z) (k + 1)) g H := hL
                                  have e8 : cyN (tkA z) (k + 1) = cyN (tkA z) k + cdN y k i := by rw [cyN_s, hyd, ← cdN_end]; exact congrArg (cyN (tkA z) k + ·) hfin.2
                                  rw [← e8] at hl
                                  have hl : lv_has ls 11 [(0, .ref (a)), (1, .ref (a + 1)), (2, .ref (a + 2)), (3, .ref (a + 3)), (4, .ref (a + 4)), (5, .ref (a + 5)), (7, .int (nI (cyN (tkA z) (k + 1)))), (8, .int (nI (k))), (9, .int (nI (i)))] := hl
                                  refine lv_iinc (v := nI (k + 1)) (lv' := [(8, .int (nI (k + 1))), (0, .ref (a)), (1, .ref (a + 1)), (2, .ref (a + 2)), (3, .ref (a + 3)), (4, .ref (a + 4)), (5, .ref (a + 5)), (7, .int (nI (cyN (tkA z) (k + 1)))), (9, .int (nI (i)))]) (k := 7) hx hb dL_tick_405 hl rfl (nI_add _ _) (by decide) rfl (fun ls hl => ?_)
                                  refine lv_goto (tgt := 270) hx hb dL_tick_408 (by decide) ?_
                                  exact ih270 (k + 1) _ _ _ (by omega) (by omega) hL hS (lv_sub hl [1, 2, 3, 4, 5, 6, 7, 0] rfl)
                                · obtain ⟨h1, hnf⟩ := (cpP_one hy.2 hkM i).mp c299
                                  obtain ⟨er, hcd, hmt, hlt⟩ := cpP_run h1 hnf
                                  rw [er] at hL
                                  have hL : LwC D cs a (writesF y k i) g H := hL
                                  have hmw : mW (writesF y k i) k = mW y k + i := (wr_mw hy.2 hkM i).trans hmt
                                  refine lv_aload_n hx hb dL_tick_302 rfl (lv_at hl 3 rfl) ?_
                                  refine lv_bipush (v := nI 8) hx hb dL_tick_303 (by decide) ?_
                                  refine lv_iload hx hb dL_tick_305 (lv_at hl 7 rfl) ?_
                                  refine kn_mul hx hb dL_tick_307 ?_
                                  refine lv_bipush (v := nI 6) hx hb dL_tick_308 (by decide) ?_
                                  refine kn_add hx hb dL_tick_310 ?_
                                  refine lv_dup2_11 hx hb dL_tick_311 rfl rfl ?_
                                  refine kx_iald (i := 8 * k + 6) hx hb hK hL.mv 0 rfl (by omega) (by decide) dL_tick_312 ?_
                                  refine kx_ci (x := mvF (writesF y k i) (8 * k + 6)) (y := nI (mW (writesF y k i) k)) (Eq.trans (mvF_lo (writesF y k i) k (p := 6) (by omega)) (Inv.m6 (writesF_inv hy.2 hkM i) (by rw [(writesF_stay hy.2 hkM i).M]; exact hkM))) ?_
                                  refine kx_ci (x := nI (mW (writesF y k i) k)) (y := nI (mW y k + i)) (congrArg nI hmw) ?_
                                  refine lv_dup_x2 hx hb dL_tick_313 rfl rfl rfl ?_
                                  refine lv_iconst (v := nI 1) hx hb dL_tick_314 (by decide) ?_
                                  refine kn_add hx hb dL_tick_315 ?_
                                  refine kx_iast (i := 8 * k + 6) hx hb hK hL.mv hS ⟨by omega, by omega⟩ 0 rfl (by omega) (by decide) dL_tick_316 (fun H locs hc hU hS => ?_)
                                  have hL := hL.put_mv (k := k) (p := 6) (by omega) (by decide) hc hU
                                  clear hc hU
                                  have hL : LwC D cs a (upd (writesF y k i) (80 + 10 * k + 6) (nI (mW y k + i + 1))) g H := hL
                                  refine lv_istore (lv' := [(10, .int (nI (mW y k + i))), (0, .ref (a)), (1, .ref (a + 1)), (2, .ref (a + 2)), (3, .ref (a + 3)), (4, .ref (a + 4)), (5, .ref (a + 5)), (7, .int (nI (cyN (tkA z) k + cdN y k i))), (8, .int (nI (k))), (9, .int (nI (i)))]) hx hb dL_tick_317 hl (by decide) rfl (fun ls hl => ?_)
                                  obtain ⟨x1, hx1⟩ : ∃ x1, upd (writesF y k i) (80 + 10 * k + 6) (nI (mW y k + i + 1)) = x1 := ⟨_, rfl⟩
                                  rw [hx1] at hL
                                  have hL : LwC D cs a x1 g H := hL
                                  have hX1 : SI y x1 := hx1 ▸ wr_6si hy.2 hkM hlt
                                  have hM1 := hX1.1.M
                                  have hR1 := hX1.1.R
                                  have hmt1 := hX1.2.mt (m := k) (by omega)
                                  have htg := hX1.1.tgt hy.2 hkM (mW y k + i)
                                  have ht48 := hy.2.tgt48 hkM (mW y k + i)
                                  refine lv_aload_n hx hb dL_tick_319 rfl (lv_at hl 2 rfl) ?_
                                  refine lv_aload_n hx hb dL_tick_320 rfl (lv_at hl 4 rfl) ?_
                                  refine lv_bipush (v := nI 8) hx hb dL_tick_321 (by decide) ?_
                                  refine lv_iload hx hb dL_tick_323 (lv_at hl 8 rfl) ?_
                                  refine kn_mul hx hb dL_tick_325 ?_
                                  refine lv_iconst (v := nI 2) hx hb dL_tick_326 (by decide) ?_
                                  refine kn_add hx hb dL_tick_327 ?_
                                  refine kx_iald (i := 8 * k + 2) hx hb hK hL.mv 0 rfl (by omega) (by decide) dL_tick_328 ?_
                                  refine kx_ci (x := mvF x1 (8 * k + 2)) (y := nI (mT x1 k)) (Eq.trans (mvF_lo x1 k (p := 2) (by omega)) (Inv.m2 hX1.2 (by omega))) ?_
                                  refine lv_aload_n hx hb dL_tick_329 rfl (lv_at hl 4 rfl) ?_
                                  refine lv_bipush (v := nI 8) hx hb dL_tick_330 (by decide) ?_
                                  refine lv_iload hx hb dL_tick_332 (lv_at hl 8 rfl) ?_
                                  refine kn_mul hx hb dL_tick_334 ?_
                                  refine lv_iconst (v := nI 3) hx hb dL_tick_335 (by decide) ?_
                                  refine kn_add hx hb dL_tick_336 ?_
                                  refine kx_iald (i := 8 * k + 3) hx hb hK hL.mv 0 rfl (by omega) (by decide) dL_tick_337 ?_
                                  refine kx_ci (x := mvF x1 (8 * k + 3)) (y := nI (mB x1 k)) (Eq.trans (mvF_lo x1 k (p := 3) (by omega)) (Inv.m3 hX1.2 (by omega))) ?_
                                  refine lv_iload hx hb dL_tick_338 (lv_at hl 0 rfl) ?_
                                  refine kn_add hx hb dL_tick_340 ?_
                                  refine lv_aload_n hx hb dL_tick_341 rfl (lv_at hl 3 rfl) ?_
                                  have hbX := hX1.2.mb (m := k) (by omega)
                                  refine kx_retP (va_runS (As := [.int (nI (mT x1 k)), .int (nI (mB x1 k + (mW y k + i))), .ref (a + 2)]) (rest := [.ref (a + 1)]) ⟨hx, hb, hml, hown, hts⟩ (k_L_place l D cs a x1 g (mT x1 k) (mB x1 k + (mW y k + i)) hX1.2 hmt1 (by omega) (by omega)) (cwS 3 hts gL_tick_L_place rfl rfl rfl (by decide +kernel) ⟨Nat.le_of_ble_eq_true rfl, Nat.le_of_ble_eq_true rfl⟩) (kx_preS hK hN hL) rfl rfl hl.1 rfl (lv_room (Nat.le_of_ble_eq_true rfl)) dL_tick_342 ⟨Nat.le_of_ble_eq_true rfl, Nat.le_of_ble_eq_true rfl⟩) ?_
                                  refine kx_ci (x := nI (rF x1 (mT x1 k) + (mB x1 k + (mW y k + i)) % rL x1 (mT x1 k))) (y := nI (tgtC y k (mW y k + i))) (congrArg nI htg) ?_
                                  refine lv_aload hx hb dL_tick_345 (lv_at hl 5 rfl) ?_
                                  refine lv_bipush (v := nI 8) hx hb dL_tick_347 (by decide) ?_
                                  refine lv_iload hx hb dL_tick_349 (lv_at hl 8 rfl) ?_
                                  refine kn_mul hx hb dL_tick_351 ?_
                                  refine lv_iload hx hb dL_tick_352 (lv_at hl 0 rfl) ?_
                                  refine kn_add hx hb dL_tick_354 ?_
                                  refine kx_iald (i := 8 * k + (mW y k + i)) hx hb hK hL.tk 0 rfl (by omega) (by decide) dL_tick_355 ?_
                                  refine kx_ci (x := tkF x1 (8 * k + (mW y k + i))) (y := x1 (320 + 16 * k + ((mW y k + i)))) (Eq.trans (congrArg (tkF x1) (by omega)) (tkF_at x1 k (i := (mW y k + i)) (by omega))) ?_
                                  refine kx_ci (x := x1 (320 + 16 * k + ((mW y k + i)))) (y := y (320 + 16 * k + (mW y k + i))) (by rw [← hx1, upd_ne (by omega)]; exact writesF_out hy.2 hkM i (Or.inr (by omega)) (by omega)) ?_
                                  refine kx_iast (i := tgtC y k (mW y k + i)) hx hb hK hL.me hS ⟨by omega, by omega⟩ 0 rfl (by omega) (by decide) dL_tick_356 (fun H locs hc hU hS => ?_)
                                  have hL := hL.put_me (i := tgtC y k (mW y k + i)) (by omega) hc hU
                                  clear hc hU
                                  have hL : LwC D cs a (upd x1 (8 + (tgtC y k (mW y k + i))) (y (320 + 16 * k + (mW y k + i)))) g H := hL
                                  have hL : LwC D cs a (writesF y k (i + 1)) g H := (by rw [← hx1] at hL; rw [← wr_step hy.2 hkM hlt]; exact hL)
                                  refine lv_iload hx hb dL_tick_357 (lv_at hl 0 rfl) ?_
                                  refine lv_iconst (v := nI 1) hx hb dL_tick_359 (by decide) ?_
                                  refine kn_add hx hb dL_tick_360 ?_
                                  refine lv_aload_n hx hb dL_tick_361 rfl (lv_at hl 4 rfl) ?_
                                  refine lv_bipush (v := nI 8) hx hb dL_tick_362 (by decide) ?_
                                  refine lv_iload hx hb dL_tick_364 (lv_at hl 8 rfl) ?_
                                  refine kn_mul hx hb dL_tick_366 ?_
                                  refine lv_iconst (v := nI 4) hx hb dL_tick_367 (by decide) ?_
                                  refine kn_add hx hb dL_tick_368 ?_
                                  refine kx_iald (i := 8 * k + 4) hx hb hK hL.mv 0 rfl (by omega) (by decide) dL_tick_369 ?_
                                  refine kx_ci (x := mvF (writesF y k (i + 1)) (8 * k + 4)) (y := nI (mC (writesF y k (i + 1)) k)) (Eq.trans (mvF_lo (writesF y k (i + 1)) k (p := 4) (by omega)) (Inv.m4 (writesF_inv hy.2 hkM (i + 1)) (by rw [(writesF_stay hy.2 hkM (i + 1)).M]; exact hkM))) ?_
                                  refine kx_ci (x := nI (mC (writesF y k (i + 1)) k)) (y := nI (mC y k)) (congrArg nI ((writesF_stay hy.2 hkM (i + 1)).c (by omega))) ?_
                                  refine kn_icmp_ne (tgt := 399) hx hb dL_tick_370 (by decide) (by omega) (by omega) (fun c370 => ?_) (fun c370 => ?_)
                                  · obtain ⟨en, hcd2⟩ := (cpP_next h1 hlt).2 c370
                                    rw [← en] at hL
                                    have hL : LwC D cs a (cpP y k (i + 1)) g H := hL
                                    refine lv_iinc (v := nI (i + 1)) (lv' := [(9, .int (nI (i + 1))), (10, .int (nI (mW y k + i))), (0, .ref (a)), (1, .ref (a + 1)), (2, .ref (a + 2)), (3, .ref (a + 3)), (4, .ref (a + 4)), (5, .ref (a + 5)), (7, .int (nI (cyN (tkA z) k + cdN y k i))), (8, .int (nI (k)))]) (k := 9) hx hb dL_tick_399 hl rfl (nI_add _ _) (by decide) rfl (fun ls hl => ?_)
                                    refine lv_goto (tgt := 281) hx hb dL_tick_402 (by decide) ?_
                                    have hl : lv_has ls 11 [(9, .int (nI (i + 1))), (10, .int (nI (mW y k + i))), (0, .ref (a)), (1, .ref (a + 1)), (2, .ref (a + 2)), (3, .ref (a + 3)), (4, .ref (a + 4)), (5, .ref (a + 5)), (7, .int (nI (cyN (tkA z) k + cdN y k (i + 1)))), (8, .int (nI (k)))] := by rw [show (cyN (tkA z) k + cdN y k (i + 1)) = (cyN (tkA z) k + cdN y k i) from (by omega)]; exact hl
                                    exact ih281 (i + 1) _ _ _ (by omega) (by omega) hL hS (lv_sub hl [2, 3, 4, 5, 6, 7, 8, 9, 0] rfl)
                                  · obtain ⟨en, hcd2⟩ := (cpP_next h1 hlt).1 c370
                                    refine lv_aload_n hx hb dL_tick_373 rfl (lv_at hl 4 rfl) ?_
                                    refine lv_bipush (v := nI 8) hx hb dL_tick_374 (by decide) ?_
                                    refine lv_iload hx hb dL_tick_376 (lv_at hl 8 rfl) ?_
                                    refine kn_mul hx hb dL_tick_378 ?_
                                    refine lv_iconst (v := nI 5) hx hb dL_tick_379 (by decide) ?_
                                    refine kn_add hx hb dL_tick_380 ?_
                                    refine lv_iconst (v := nI 2) hx hb dL_tick_381 (by decide) ?_
                                    refine kx_iast (i := 8 * k + 5) hx hb hK hL.mv hS ⟨by omega, by omega⟩ 0 rfl (by omega) (by decide) dL_tick_382 (fun H locs hc hU hS => ?_)
                                    have hL := hL.put_mv (k := k) (p := 5) (by omega) (by decide) hc hU
                                    clear hc hU
                                    have hL : LwC D cs a (upd (writesF y k (i + 1)) (80 + 10 * k + 5) (nI (2))) g H := hL
                                    refine lv_aload_n hx hb dL_tick_383 rfl (lv_at hl 4 rfl) ?_
                                    refine lv_bipush (v := nI 8) hx hb dL_tick_384 (by decide) ?_
                                    refine lv_iload hx hb dL_tick_386 (lv_at hl 8 rfl) ?_
                                    refine kn_mul hx hb dL_tick_388 ?_
                                    refine lv_bipush (v := nI 7) hx hb dL_tick_389 (by decide) ?_
                                    refine kn_add hx hb dL_tick_391 ?_
                                    refine lv_aload_n hx hb dL_tick_392 rfl (lv_at hl 1 rfl) ?_
                                    refine lv_iconst (v := nI 1) hx hb dL_tick_393 (by decide) ?_
                                    refine kx_iald (i := 1) hx hb hK hL.q 0 rfl (by omega) (by decide) dL_tick_394 ?_
                                    refine kx_ci (x := qF (upd (writesF y k (i + 1)) (80 + 10 * k + 5) (nI (2))) 1) (y := y 0) (Eq.trans (upd_ne (f := writesF y k (i + 1)) (k := 80 + 10 * k + 5) (j := 0) (x := nI 2) (by omega)) (writesF_out hy.2 hkM (i + 1) (Or.inl (by omega)) (by omega))) ?_
                                    refine kx_iast (i := 8 * k + 7) hx hb hK hL.mv hS ⟨by omega, by omega⟩ 0 rfl (by omega) (by decide) dL_tick_395 (fun H locs hc hU hS => ?_)
                                    have hL := hL.put_mv7 (k := k) (by omega) (by rw [hy0]; exact nI_no (by omega)) hc hU
                                    clear hc hU
                                    have hL : LwC D cs a (upd (upd (writesF y k (i + 1)) (80 + 10 * k + 5) (nI (2))) (80 + 10 * k + 8) (y 0)) g H := hL
                                    have hL : LwC D cs a (cpP y k (i + 1)) g H := (by rw [en]; exact hL)
                                    refine lv_iinc (v := nI (cyN (tkA z) k + cdN y k i + 1)) (lv' := [(7, .int (nI (cyN (tkA z) k + cdN y k i + 1))), (10, .int (nI (mW y k + i))), (0, .ref (a)), (1, .ref (a + 1)), (2, .ref (a + 2)), (3, .ref (a + 3)), (4, .ref (a + 4)), (5, .ref (a + 5)), (8, .int (nI (k))), (9, .int (nI (i)))]) (k := 7) hx hb dL_tick_396 hl rfl (nI_add _ _) (by decide) rfl (fun ls hl => ?_)
                                    refine lv_iinc (v := nI (i + 1)) (lv' := [(9, .int (nI (i + 1))), (7, .int (nI (cyN (tkA z) k + cdN y k i + 1))), (10, .int (nI (mW y k + i))), (0, .ref (a)), (1, .ref (a + 1)), (2, .ref (a + 2)), (3, .ref (a + 3)), (4, .ref (a + 4)), (5, .ref (a + 5)), (8, .int (nI (k)))]) (k := 9) hx hb dL_tick_399 hl rfl (nI_add _ _) (by decide) rfl (fun ls hl => ?_)
                                    refine lv_goto (tgt := 281) hx hb dL_tick_402 (by decide) ?_
                                    have hl : lv_has ls 11 [(9, .int (nI (i + 1))), (7, .int (nI (cyN (tkA z) k + cdN y k (i + 1)))), (10, .int (nI (mW y k + i))), (0, .ref (a)), (1, .ref (a + 1)), (2, .ref (a + 2)), (3, .ref (a + 3)), (4, .ref (a + 4)), (5, .ref (a + 5)), (8, .int (nI (k)))] := by rw [show (cyN (tkA z) k + cdN y k (i + 1)) = (cyN (tkA z) k + cdN y k i + 1) from (by omega)]; exact hl
                                    exact ih281 (i + 1) _ _ _ (by omega) (by omega) hL hS (lv_sub hl [3, 4, 5, 6, 7, 8, 1, 9, 0] rfl)
                          have hl : lv_has ls 11 [(9, .int (nI (0))), (0, .ref (a)), (1, .ref (a + 1)), (2, .ref (a + 2)), (3, .ref (a + 3)), (4, .ref (a + 4)), (5, .ref (a + 5)), (7, .int (nI (cyN (tkA z) k + cdN y k 0))), (8, .int (nI (k)))] := by rw [show (cyN (tkA z) k + cdN y k 0) = (cyN (tkA z) k) from (by omega)]; exact hl
                          exact J281 _ 0 _ _ _ (Nat.lt_succ_self _) (by omega) (by rw [ec0]; exact hL) hS (lv_sub hl [1, 2, 3, 4, 5, 6, 7, 8, 0] rfl)
                    have hl : lv_has ls 11 [(8, .int (nI (0))), (7, .int (nI (cyN (tkA z) 0))), (0, .ref (a)), (1, .ref (a + 1)), (2, .ref (a + 2)), (3, .ref (a + 3)), (4, .ref (a + 4)), (5, .ref (a + 5)), (6, .int (nI (msN y 1)))] := by rw [show (cyN (tkA z) 0) = (0) from (cyN_0 _)]; exact hl
                    exact J270 _ 0 _ _ _ (Nat.lt_succ_self _) (by omega) (by rw [cyK_0]; exact hL) hS (lv_sub hl [2, 3, 4, 5, 6, 7, 1, 0] rfl)
                  · have hkM : k < Mn y := by omega
                    have hs3 := hy.2.s3 hkM
                    have hc8 := hBy.c8 hkM
                    have hm1 : msN y 1 ≤ Mn y := msK_le y 1 _
                    refine lv_aload_n hx hb dL_tick_152 rfl (lv_at hl 3 rfl) ?_
                    refine lv_bipush (v := nI 8) hx hb dL_tick_153 (by decide) ?_
                    refine lv_iload hx hb dL_tick_155 (lv_at hl 7 rfl) ?_
                    refine kn_mul hx hb dL_tick_157 ?_
                    refine lv_iconst (v := nI 5) hx hb dL_tick_158 (by decide) ?_
                    refine kn_add hx hb dL_tick_159 ?_
                    refine kx_iald (i := 8 * k + 5) hx hb hK hL.mv 0 rfl (by omega) (by decide) dL_tick_160 ?_
                    refine kx_ci (x := mvF y (8 * k + 5)) (y := nI (mS y k)) (Eq.trans (mvF_lo y k (p := 5) (by omega)) (Inv.m5 hy.2 hkM)) ?_
                    refine kn_if_ne (tgt := 258) hx hb dL_tick_161 (by decide) (by omega) (fun hst => ?_) (fun hst => ?_)
                    · have e9 : stK (sgF z) (k + 1) = y := by
                        show stS k (stK (sgF z) k) = _
                        rw [hyd]; simp [stS, *]
                      rw [← e9] at hL hl
                      have hL : LwC D cs a (stK (sgF z) (k + 1)) g H := hL
                      have hl : lv_has ls 11 [(0, .ref (a)), (1, .ref (a + 1)), (2, .ref (a + 2)), (3, .ref (a + 3)), (4, .ref (a + 4)), (5, .ref (a + 5)), (6, .int (nI (msN (stK (sgF z) (k + 1)) 1))), (7, .int (nI (k)))] := hl
                      refine lv_iinc (v := nI (k + 1)) (lv' := [(7, .int (nI (k + 1))), (0, .ref (a)), (1, .ref (a + 1)), (2, .ref (a + 2)), (3, .ref (a + 3)), (4, .ref (a + 4)), (5, .ref (a + 5)), (6, .int (nI (msN (stK (sgF z) (k + 1)) 1)))]) (k := 7) hx hb dL_tick_258 hl rfl (nI_add _ _) (by decide) rfl (fun ls hl => ?_)
                      refine lv_goto (tgt := 144) hx hb dL_tick_261 (by decide) ?_
                      exact ih144 (k + 1) _ _ _ (by omega) (by omega) hL hS (lv_sub hl [1, 2, 3, 4, 5, 6, 7, 0] rfl)
                    · refine lv_iload hx hb dL_tick_164 (lv_at hl 6 rfl) ?_
                      refine lv_aload_n hx hb dL_tick_166 rfl (lv_at hl 0 rfl) ?_
                      refine lv_iconst (v := nI 3) hx hb dL_tick_167 (by decide) ?_
                      refine kx_iald (i := 3) hx hb hK hL.q 0 rfl (by omega) (by decide) dL_tick_168 ?_
                      refine kx_ci (x := qF y 3) (y := y 2) rfl ?_
                      refine lv_icmp_ge (tgt := 258) hx hb dL_tick_169 (by decide) (fun hla => ?_) (fun hla => ?_)
                      · have e9 : stK (sgF z) (k + 1) = y := by
                          show stS k (stK (sgF z) k) = _
                          rw [hyd]; simp [stS, *]
                        rw [← e9] at hL hl
                        have hL : LwC D cs a (stK (sgF z) (k + 1)) g H := hL
                        have hl : lv_has ls 11 [(0, .ref (a)), (1, .ref (a + 1)), (2, .ref (a + 2)), (3, .ref (a + 3)), (4, .ref (a + 4)), (5, .ref (a + 5)), (6, .int (nI (msN (stK (sgF z) (k + 1)) 1))), (7, .int (nI (k)))] := hl
                        refine lv_iinc (v := nI (k + 1)) (lv' := [(7, .int (nI (k + 1))), (0, .ref (a)), (1, .ref (a + 1)), (2, .ref (a + 2)), (3, .ref (a + 3)), (4, .ref (a + 4)), (5, .ref (a + 5)), (6, .int (nI (msN (stK (sgF z) (k + 1)) 1)))]) (k := 7) hx hb dL_tick_258 hl rfl (nI_add _ _) (by decide) rfl (fun ls hl => ?_)
                        refine lv_goto (tgt := 144) hx hb dL_tick_261 (by decide) ?_
                        exact ih144 (k + 1) _ _ _ (by omega) (by omega) hL hS (lv_sub hl [1, 2, 3, 4, 5, 6, 7, 0] rfl)
                      · refine lv_iload hx hb dL_tick_172 (lv_at hl 7 rfl) ?_
                        refine lv_aload_n hx hb dL_tick_174 rfl (lv_at hl 3 rfl) ?_
                        refine lv_aload hx hb dL_tick_175 (lv_at hl 5 rfl) ?_
                        refine kx_retP (va_runS (As := [.int (nI (k)), .ref (a + 3), .ref (a + 5)]) (rest := []) ⟨hx, hb, hml, hown, hts⟩ (k_L_waitsFor l D cs a y g k hy.2 hGy hBy hkM) (cwS 3 hts gL_tick_L_waitsFor rfl rfl rfl (by decide +kernel) ⟨Nat.le_of_ble_eq_true rfl, Nat.le_of_ble_eq_true rfl⟩) (kx_preS hK hN hL) rfl rfl hl.1 rfl (lv_room (Nat.le_of_ble_eq_true rfl)) dL_tick_177 ⟨Nat.le_of_ble_eq_true rfl, Nat.le_of_ble_eq_true rfl⟩) ?_
                        refine kn_if_eq (tgt := 186) hx hb dL_tick_180 (by decide) (Nat.lt_trans (woN_lt y (by omega)) (by decide)) (fun hwo => ?_) (fun hwo => ?_)
                        · refine lv_iinc (v := nI (msN y 1 + 1)) (lv' := [(6, .int (nI (msN y 1 + 1))), (0, .ref (a)), (1, .ref (a + 1)), (2, .ref (a + 2)), (3, .ref (a + 3)), (4, .ref (a + 4)), (5, .ref (a + 5)), (7, .int (nI (k)))]) (k := 6) hx hb dL_tick_186 hl rfl (nI_add _ _) (by decide) rfl (fun ls hl => ?_)
                          refine lv_aload_n hx hb dL_tick_189 rfl (lv_at hl 4 rfl) ?_
                          refine lv_bipush (v := nI 8) hx hb dL_tick_190 (by decide) ?_
                          refine lv_iload hx hb dL_tick_192 (lv_at hl 7 rfl) ?_
                          refine kn_mul hx hb dL_tick_194 ?_
                          refine lv_iconst (v := nI 5) hx hb dL_tick_195 (by decide) ?_
                          refine kn_add hx hb dL_tick_196 ?_
                          refine lv_iconst (v := nI 1) hx hb dL_tick_197 (by decide) ?_
                          refine kx_iast (i := 8 * k + 5) hx hb hK hL.mv hS ⟨by omega, by omega⟩ 0 rfl (by omega) (by decide) dL_tick_198 (fun H locs hc hU hS => ?_)
                          have hL := hL.put_mv (k := k) (p := 5) (by omega) (by decide) hc hU
                          clear hc hU
                          have hL : LwC D cs a (upd y (80 + 10 * k + 5) (nI (1))) g H := hL
                          have hL : LwC D cs a (startK y k 0) g H := hL.alike (st_tr y (by omega))
                          refine lv_iconst (v := nI 0) hx hb dL_tick_199 (by decide) ?_
                          refine lv_istore (lv' := [(8, .int (nI (0))), (6, .int (nI (msN y 1 + 1))), (0, .ref (a)), (1, .ref (a + 1)), (2, .ref (a + 2)), (3, .ref (a + 3)), (4, .ref (a + 4)), (5, .ref (a + 5)), (7, .int (nI (k)))]) hx hb dL_tick_200 hl (by decide) rfl (fun ls hl => ?_)
                          have J202 : ∀ (fu202 : Nat) (i : Nat) (H : Heap) (locs : List Loc) (ls : Array Slot), (mC y k - i) < fu202 → (i ≤ mC y k) → (LwC D cs a (startK y k i) g H) → va_S ((rgL a)) s.heap H locs → lv_has ls 11 [(0, .ref (a)), (1, .ref (a + 1)), (2, .ref (a + 2)), (3, .ref (a + 3)), (4, .ref (a + 4)), (5, .ref (a + 5)), (6, .int (nI (msN y 1 + 1))), (7, .int (nI (k))), (8, .int (nI (i)))] → W p l en ({ frames := 2, cells := 0, slots := 0, locals := 50 } : Room) s m args below meth c H locs 0 0 (MQ below (QcM (some (.int (nI (tickN z)))) (fun H => LwC D cs a (tickF z) g H) (rgL a)) args s 0 0 ((rgL a))) (F0 m 202 ls []) := by
                            intro fu202; induction fu202 with
                            | zero => intro i H locs ls hmu202 hi hL hS hl; exact absurd hmu202 (Nat.not_lt_zero _)
                            | succ fu202 ih202 =>
                              intro i H locs ls hmu202 hi hL hS hl
                              have hX := startK_inv hy.2 k i
                              have hXS := startK_stay y (m := k) i
                              have hMX := hXS.M
                              have hRX := hXS.R
                              have hkX : k < Mn (startK y k i) := by omega
                              have hfX := hX.mf hkX
                              have hsr := hXS.src hy.2 hkM i
                              have hs48 := hy.2.src48 hkM i
                              refine lv_iload hx hb dL_tick_202 (lv_at hl 8 rfl) ?_
                              refine lv_aload_n hx hb dL_tick_204 rfl (lv_at hl 3 rfl) ?_
                              refine lv_bipush (v := nI 8) hx hb dL_tick_205 (by decide) ?_
                              refine lv_iload hx hb dL_tick_207 (lv_at hl 7 rfl) ?_
                              refine kn_mul hx hb dL_tick_209 ?_
                              refine lv_iconst (v := nI 4) hx hb dL_tick_210 (by decide) ?_
                              refine kn_add hx hb dL_tick_211 ?_
                              refine kx_iald (i := 8 * k + 4) hx hb hK hL.mv 0 rfl (by omega) (by decide) dL_tick_212 ?_
                              refine kx_ci (x := mvF (startK y k i) (8 * k + 4)) (y := nI (mC (startK y k i) k)) (Eq.trans (mvF_lo (startK y k i) k (p := 4) (by omega)) (Inv.m4 hX hkX)) ?_
                              refine kx_ci (x := nI (mC (startK y k i) k)) (y := nI (mC y k)) (congrArg nI (hXS.c (by omega))) ?_
                              refine kn_icmp_ge (tgt := 258) hx hb dL_tick_213 (by decide) (by omega) (by omega) (fun c_5 => ?_) (fun c_5 => ?_)
                              · have hii : i = mC y k := by omega
                                rw [hii] at hL
                                have hL : LwC D cs a (startF y k) g H := hL
                                have e8 : msN (startF y k) 1 = msN y 1 + 1 := start_ms hy.2 hkM hst
                                rw [← e8] at hl
                                have e9 : stK (sgF z) (k + 1) = startF y k := by
                                  show stS k (stK (sgF z) k) = _
                                  rw [hyd]; simp [stS, *]
                                rw [← e9] at hL hl
                                have hL : LwC D cs a (stK (sgF z) (k + 1)) g H := hL
                                have hl : lv_has ls 11 [(0, .ref (a)), (1, .ref (a + 1)), (2, .ref (a + 2)), (3, .ref (a + 3)), (4, .ref (a + 4)), (5, .ref (a + 5)), (6, .int (nI (msN (stK (sgF z) (k + 1)) 1))), (7, .int (nI (k))), (8, .int (nI (i)))] := hl
                                refine lv_iinc (v := nI (k + 1)) (lv' := [(7, .int (nI (k + 1))), (0, .ref (a)), (1, .ref (a + 1)), (2, .ref (a + 2)), (3, .ref (a + 3)), (4, .ref (a + 4)), (5, .ref (a + 5)), (6, .int (nI (msN (stK (sgF z) (k + 1)) 1))), (8, .int (nI (i)))]) (k := 7) hx hb dL_tick_258 hl rfl (nI_add _ _) (by decide) rfl (fun ls hl => ?_)
                                refine lv_goto (tgt := 144) hx hb dL_tick_261 (by decide) ?_
                                exact ih144 (k + 1) _ _ _ (by omega) (by omega) hL hS (lv_sub hl [1, 2, 3, 4, 5, 6, 7, 0] rfl)
                              · refine lv_aload hx hb dL_tick_216 (lv_at hl 4 rfl) ?_
                                refine lv_bipush (v := nI 8) hx hb dL_tick_218 (by decide) ?_
                                refine lv_iload hx hb dL_tick_220 (lv_at hl 7 rfl) ?_
                                refine kn_mul hx hb dL_tick_222 ?_
                                refine lv_iload hx hb dL_tick_223 (lv_at hl 8 rfl) ?_
                                refine kn_add hx hb dL_tick_225 ?_
                                refine lv_aload_n hx hb dL_tick_226 rfl (lv_at hl 1 rfl) ?_
                                refine lv_aload_n hx hb dL_tick_227 rfl (lv_at hl 3 rfl) ?_
                                refine lv_bipush (v := nI 8) hx hb dL_tick_228 (by decide) ?_
                                refine lv_iload hx hb dL_tick_230 (lv_at hl 7 rfl) ?_
                                refine kn_mul hx hb dL_tick_232 ?_
                                refine kx_iald (i := 8 * k) hx hb hK hL.mv 0 rfl (by omega) (by decide) dL_tick_233 ?_
                                refine kx_ci (x := mvF (startK y k i) (8 * k)) (y := nI (mF (startK y k i) k)) (Eq.trans (mvF_lo (startK y k i) k (p := 0) (by omega)) (Inv.m0 hX hkX)) ?_
                                refine lv_aload_n hx hb dL_tick_234 rfl (lv_at hl 3 rfl) ?_
                                refine lv_bipush (v := nI 8) hx hb dL_tick_235 (by decide) ?_
                                refine lv_iload hx hb dL_tick_237 (lv_at hl 7 rfl) ?_
                                refine kn_mul hx hb dL_tick_239 ?_
                                refine lv_iconst (v := nI 1) hx hb dL_tick_240 (by decide) ?_
                                refine kn_add hx hb dL_tick_241 ?_
                                refine kx_iald (i := 8 * k + 1) hx hb hK hL.mv 0 rfl (by omega) (by decide) dL_tick_242 ?_
                                refine kx_ci (x := mvF (startK y k i) (8 * k + 1)) (y := nI (mA (startK y k i) k)) (Eq.trans (mvF_lo (startK y k i) k (p := 1) (by omega)) (Inv.m1 hX hkX)) ?_
                                refine lv_iload hx hb dL_tick_243 (lv_at hl 8 rfl) ?_
                                refine kn_add hx hb dL_tick_245 ?_
                                refine lv_aload_n hx hb dL_tick_246 rfl (lv_at hl 2 rfl) ?_
                                have haX := hX.ma hkX
                                refine kx_retP (va_runS (As := [.int (nI (mF (startK y k i) k)), .int (nI (mA (startK y k i) k + i)), .ref (a + 2)]) (rest := [.ref (a + 1), .int (nI (8 * k + i)), .ref (a + 4)]) ⟨hx, hb, hml, hown, hts⟩ (k_L_place l D cs a (startK y k i) g (mF (startK y k i) k) (mA (startK y k i) k + i) hX hfX (by omega) (by omega)) (cwS 3 hts gL_tick_L_place rfl rfl rfl (by decide +kernel) ⟨Nat.le_of_ble_eq_true rfl, Nat.le_of_ble_eq_true rfl⟩) (kx_preS hK hN hL) rfl rfl hl.1 rfl (lv_room (Nat.le_of_ble_eq_true rfl)) dL_tick_247 ⟨Nat.le_of_ble_eq_true rfl, Nat.le_of_ble_eq_true rfl⟩) ?_
                                refine kx_ci (x := nI (rF (startK y k i) (mF (startK y k i) k) + (mA (startK y k i) k + i) % rL (startK y k i) (mF (startK y k i) k))) (y := nI (srcC y k i)) (congrArg nI hsr) ?_
                                refine kx_iald (i := srcC y k i) hx hb hK hL.me 0 rfl (by omega) (by decide) dL_tick_250 ?_
                                refine kx_ci (x := (startK y k i) (8 + (srcC y k i))) (y := y (8 + srcC y k i)) (startK_lo y (by omega) (by omega) (by omega)) ?_
                                refine kx_iast (i := 8 * k + i) hx hb hK hL.tk hS ⟨by omega, by omega⟩ 0 rfl (by omega) (by decide) dL_tick_251 (fun H locs hc hU hS => ?_)
                                have hL := hL.put_tk (k := k) (p := i) (by omega) (by omega) hc hU
                                clear hc hU
                                have hL : LwC D cs a (upd (startK y k i) (320 + 16 * k + i) (y (8 + srcC y k i))) g H := hL
                                have hL : LwC D cs a (startK y k (i + 1)) g H := (by have := startK_s y (m := k) (by omega) i; rw [← this]; exact hL)
                                refine lv_iinc (v := nI (i + 1)) (lv' := [(8, .int (nI (i + 1))), (0, .ref (a)), (1, .ref (a + 1)), (2, .ref (a + 2)), (3, .ref (a + 3)), (4, .ref (a + 4)), (5, .ref (a + 5)), (6, .int (nI (msN y 1 + 1))), (7, .int (nI (k)))]) (k := 8) hx hb dL_tick_252 hl rfl (nI_add _ _) (by decide) rfl (fun ls hl => ?_)
                                refine lv_goto (tgt := 202) hx hb dL_tick_255 (by decide) ?_
                                exact ih202 (i + 1) _ _ _ (by omega) (by omega) hL hS (lv_sub hl [1, 2, 3, 4, 5, 6, 7, 8, 0] rfl)
                          exact J202 _ 0 _ _ _ (Nat.lt_succ_self _) (by omega) hL hS (lv_sub hl [2, 3, 4, 5, 6, 7, 1, 8, 0] rfl)
                        · refine lv_goto (tgt := 258) hx hb dL_tick_183 (by decide) ?_
                          have e9 : stK (sgF z) (k + 1) = y := by
                            show stS k (stK (sgF z) k) = _
                            rw [hyd]; simp [stS, *]
                          rw [← e9] at hL hl
                          have hL : LwC D cs a (stK (sgF z) (k + 1)) g H := hL
                          have hl : lv_has ls 11 [(0, .ref (a)), (1, .ref (a + 1)), (2, .ref (a + 2)), (3, .ref (a + 3)), (4, .ref (a + 4)), (5, .ref (a + 5)), (6, .int (nI (msN (stK (sgF z) (k + 1)) 1))), (7, .int (nI (k)))] := hl
                          refine lv_iinc (v := nI (k + 1)) (lv' := [(7, .int (nI (k + 1))), (0, .ref (a)), (1, .ref (a + 1)), (2, .ref (a + 2)), (3, .ref (a + 3)), (4, .ref (a + 4)), (5, .ref (a + 5)), (6, .int (nI (msN (stK (sgF z) (k + 1)) 1)))]) (k := 7) hx hb dL_tick_258 hl rfl (nI_add _ _) (by decide) rfl (fun ls hl => ?_)
                          refine lv_goto (tgt := 144) hx hb dL_tick_261 (by decide) ?_
                          exact ih144 (k + 1) _ _ _ (by omega) (by omega) hL hS (lv_sub hl [1, 2, 3, 4, 5, 6, 7, 0] rfl)
              have hkk : k = Mn z := by omega
              have e0 : msK (sgF z) 1 k = msN (stK (sgF z) 0) 1 := by rw [hkk, ← hMs, stK_0]; rfl
              rw [e0] at hl
              have hl : lv_has ls 11 [(7, .int (nI (0))), (0, .ref (a)), (1, .ref (a + 1)), (2, .ref (a + 2)), (3, .ref (a + 3)), (4, .ref (a + 4)), (5, .ref (a + 5)), (6, .int (nI (msN (stK (sgF z) 0) 1)))] := hl
              exact J144 _ 0 _ _ _ (Nat.lt_succ_self _) (by omega) (by rw [stK_0]; exact hL) hS (lv_sub hl [1, 2, 3, 4, 5, 6, 7, 0] rfl)
            · have hkM : k < Mn (sgF z) := by omega
              have hs3 := hsg.2.s3 hkM
              refine lv_iload hx hb dL_tick_112 (lv_at hl 6 rfl) ?_
              refine lv_aload_n hx hb dL_tick_114 rfl (lv_at hl 3 rfl) ?_
              refine lv_bipush (v := nI 8) hx hb dL_tick_115 (by decide) ?_
              refine lv_iload hx hb dL_tick_117 (lv_at hl 7 rfl) ?_
              refine kn_mul hx hb dL_tick_119 ?_
              refine lv_iconst (v := nI 5) hx hb dL_tick_120 (by decide) ?_
              refine kn_add hx hb dL_tick_121 ?_
              refine kx_iald (i := 8 * k + 5) hx hb hK hL.mv 0 rfl (by omega) (by decide) dL_tick_122 ?_
              refine kx_ci (x := mvF (sgF z) (8 * k + 5)) (y := nI (mS (sgF z) k)) (Eq.trans (mvF_lo (sgF z) k (p := 5) (by omega)) (Inv.m5 hsg.2 hkM)) ?_
              refine lv_iconst (v := nI 1) hx hb dL_tick_123 (by decide) ?_
              refine kn_icmp_ne (tgt := 131) hx hb dL_tick_124 (by decide) (by omega) (by decide) (fun c_6 => ?_) (fun c_6 => ?_)
              · refine lv_iconst (v := nI 0) hx hb dL_tick_131 (by decide) ?_
                refine kn_add hx hb dL_tick_132 ?_
                refine kx_ci (x := nI (msK (sgF z) 1 k + 0)) (y := nI (msK (sgF z) 1 (k + 1))) (congrArg nI (by rw [msK_s]; simp [*])) ?_
                refine lv_istore (lv' := [(6, .int (nI (msK (sgF z) 1 (k + 1)))), (0, .ref (a)), (1, .ref (a + 1)), (2, .ref (a + 2)), (3, .ref (a + 3)), (4, .ref (a + 4)), (5, .ref (a + 5)), (7, .int (nI (k)))]) hx hb dL_tick_133 hl (by decide) rfl (fun ls hl => ?_)
                refine lv_iinc (v := nI (k + 1)) (lv' := [(7, .int (nI (k + 1))), (6, .int (nI (msK (sgF z) 1 (k + 1)))), (0, .ref (a)), (1, .ref (a + 1)), (2, .ref (a + 2)), (3, .ref (a + 3)), (4, .ref (a + 4)), (5, .ref (a + 5))]) (k := 7) hx hb dL_tick_135 hl rfl (nI_add _ _) (by decide) rfl (fun ls hl => ?_)
                refine lv_goto (tgt := 104) hx hb dL_tick_138 (by decide) ?_
                exact ih104 (k + 1) _ _ _ (by omega) (by omega) hL hS (lv_sub hl [2, 3, 4, 5, 6, 7, 1, 0] rfl)
              · refine lv_iconst (v := nI 1) hx hb dL_tick_127 (by decide) ?_
                refine lv_goto (tgt := 132) hx hb dL_tick_128 (by decide) ?_
                refine kn_add hx hb dL_tick_132 ?_
                refine kx_ci (x := nI (msK (sgF z) 1 k + 1)) (y := nI (msK (sgF z) 1 (k + 1))) (congrArg nI (by rw [msK_s]; simp [*])) ?_
                refine lv_istore (lv' := [(6, .int (nI (msK (sgF z) 1 (k + 1)))), (0, .ref (a)), (1, .ref (a + 1)), (2, .ref (a + 2)), (3, .ref (a + 3)), (4, .ref (a + 4)), (5, .ref (a + 5)), (7, .int (nI (k)))]) hx hb dL_tick_133 hl (by decide) rfl (fun ls hl => ?_)
                refine lv_iinc (v := nI (k + 1)) (lv' := [(7, .int (nI (k + 1))), (6, .int (nI (msK (sgF z) 1 (k + 1)))), (0, .ref (a)), (1, .ref (a + 1)), (2, .ref (a + 2)), (3, .ref (a + 3)), (4, .ref (a + 4)), (5, .ref (a + 5))]) (k := 7) hx hb dL_tick_135 hl rfl (nI_add _ _) (by decide) rfl (fun ls hl => ?_)
                refine lv_goto (tgt := 104) hx hb dL_tick_138 (by decide) ?_
                exact ih104 (k + 1) _ _ _ (by omega) (by omega) hL hS (lv_sub hl [2, 3, 4, 5, 6, 7, 1, 0] rfl)
        have hl : lv_has ls 11 [(7, .int (nI (0))), (6, .int (nI (msK (sgF z) 1 0))), (0, .ref (a)), (1, .ref (a + 1)), (2, .ref (a + 2)), (3, .ref (a + 3)), (4, .ref (a + 4)), (5, .ref (a + 5))] := by rw [show (msK (sgF z) 1 0) = (0) from (msK_0 _ _)]; exact hl
        exact J104 _ 0 _ _ _ (Nat.lt_succ_self _) (by omega) hL hS (lv_sub hl [2, 3, 4, 5, 6, 7, 1, 0] rfl)
      · have hkM : k < Mn y := by omega
        have hs3 := hy.2.s3 hkM
        have hmt := hy.2.mt hkM
        refine lv_aload_n hx hb dL_tick_11 rfl (lv_at hl 3 rfl) ?_
        refine lv_bipush (v := nI 8) hx hb dL_tick_12 (by decide) ?_
        refine lv_iload hx hb dL_tick_14 (lv_at hl 6 rfl) ?_
        refine kn_mul hx hb dL_tick_16 ?_
        refine lv_iconst (v := nI 2) hx hb dL_tick_17 (by decide) ?_
        refine kn_add hx hb dL_tick_18 ?_
        refine kx_iald (i := 8 * k + 2) hx hb hK hL.mv 0 rfl (by omega) (by decide) dL_tick_19 ?_
        refine kx_ci (x := mvF y (8 * k + 2)) (y := nI (mT y k)) (Eq.trans (mvF_lo y k (p := 2) (by omega)) (Inv.m2 hy.2 hkM)) ?_
        refine lv_istore (lv' := [(7, .int (nI (mT y k))), (0, .ref (a)), (1, .ref (a + 1)), (2, .ref (a + 2)), (3, .ref (a + 3)), (4, .ref (a + 4)), (5, .ref (a + 5)), (6, .int (nI (k)))]) hx hb dL_tick_20 hl (by decide) rfl (fun ls hl => ?_)
        refine lv_aload_n hx hb dL_tick_22 rfl (lv_at hl 4 rfl) ?_
        refine lv_bipush (v := nI 8) hx hb dL_tick_23 (by decide) ?_
        refine lv_iload hx hb dL_tick_25 (lv_at hl 7 rfl) ?_
        refine kn_mul hx hb dL_tick_27 ?_
        refine lv_iconst (v := nI 5) hx hb dL_tick_28 (by decide) ?_
        refine kn_add hx hb dL_tick_29 ?_
        refine kx_iald (i := 8 * k + 5) hx hb hK hL.mv 0 rfl (by omega) (by decide) dL_tick_30 ?_
        refine kx_ci (x := mvF y (8 * k + 5)) (y := nI (mS y k)) (Eq.trans (mvF_lo y k (p := 5) (by omega)) (Inv.m5 hy.2 hkM)) ?_
        refine lv_iconst (v := nI 2) hx hb dL_tick_31 (by decide) ?_
        refine kn_icmp_ne (tgt := 92) hx hb dL_tick_32 (by decide) (by omega) (by decide) (fun c_7 => ?_) (fun c_7 => ?_)
        · have e9 : lgK z (k + 1) = y := by
            show lgS k (lgK z k) = _
            rw [hyd]; simp [lgS, lgB, *]
          have hL : LwC D cs a (lgK z (k + 1)) g H := by rw [e9]; exact hL
          refine lv_iinc (v := nI (k + 1)) (lv' := [(6, .int (nI (k + 1))), (7, .int (nI (mT y k))), (0, .ref (a)), (1, .ref (a + 1)), (2, .ref (a + 2)), (3, .ref (a + 3)), (4, .ref (a + 4)), (5, .ref (a + 5))]) (k := 7) hx hb dL_tick_92 hl rfl (nI_add _ _) (by decide) rfl (fun ls hl => ?_)
          refine lv_goto (tgt := 3) hx hb dL_tick_95 (by decide) ?_
          exact ih3 (k + 1) _ _ _ (by omega) (by omega) hL hS (lv_sub hl [2, 3, 4, 5, 6, 7, 0] rfl)
        · refine lv_aload_n hx hb dL_tick_35 rfl (lv_at hl 3 rfl) ?_
          refine lv_iconst (v := nI 4) hx hb dL_tick_36 (by decide) ?_
          refine lv_iload hx hb dL_tick_37 (lv_at hl 0 rfl) ?_
          refine kn_mul hx hb dL_tick_39 ?_
          refine lv_iconst (v := nI 3) hx hb dL_tick_40 (by decide) ?_
          refine kn_add hx hb dL_tick_41 ?_
          refine kx_iald (i := 4 * (mT y k) + 3) hx hb hK hL.rg 0 rfl (by omega) (by decide) dL_tick_42 ?_
          refine kx_ci (x := y (56 + (4 * (mT y k) + 3))) (y := y (56 + 4 * (mT y k) + 3)) (congrArg y (by omega)) ?_
          refine lv_if_ne (tgt := 92) hx hb dL_tick_43 (by decide) (fun c_8 => ?_) (fun c_8 => ?_)
          · have e9 : lgK z (k + 1) = y := by
              show lgS k (lgK z k) = _
              rw [hyd]; simp [lgS, lgB, *]
            have hL : LwC D cs a (lgK z (k + 1)) g H := by rw [e9]; exact hL
            refine lv_iinc (v := nI (k + 1)) (lv' := [(6, .int (nI (k + 1))), (7, .int (nI (mT y k))), (0, .ref (a)), (1, .ref (a + 1)), (2, .ref (a + 2)), (3, .ref (a + 3)), (4, .ref (a + 4)), (5, .ref (a + 5))]) (k := 7) hx hb dL_tick_92 hl rfl (nI_add _ _) (by decide) rfl (fun ls hl => ?_)
            refine lv_goto (tgt := 3) hx hb dL_tick_95 (by decide) ?_
            exact ih3 (k + 1) _ _ _ (by omega) (by omega) hL hS (lv_sub hl [2, 3, 4, 5, 6, 7, 0] rfl)
          · refine lv_aload_n hx hb dL_tick_46 rfl (lv_at hl 3 rfl) ?_
            refine lv_iconst (v := nI 4) hx hb dL_tick_47 (by decide) ?_
            refine lv_iload hx hb dL_tick_48 (lv_at hl 0 rfl) ?_
            refine kn_mul hx hb dL_tick_50 ?_
            refine lv_iconst (v := nI 2) hx hb dL_tick_51 (by decide) ?_
            refine kn_add hx hb dL_tick_52 ?_
            refine kx_iald (i := 4 * (mT y k) + 2) hx hb hK hL.rg 0 rfl (by omega) (by decide) dL_tick_53 ?_
            refine kx_ci (x := y (56 + (4 * (mT y k) + 2))) (y := y (56 + 4 * (mT y k) + 2)) (congrArg y (by omega)) ?_
            refine lv_if_le (tgt := 92) hx hb dL_tick_54 (by decide) (fun c_9 => ?_) (fun c_9 => ?_)
            · have e9 : lgK z (k + 1) = y := by
                show lgS k (lgK z k) = _
                rw [hyd]; simp [lgS, lgB, *]
              have hL : LwC D cs a (lgK z (k + 1)) g H := by rw [e9]; exact hL
              refine lv_iinc (v := nI (k + 1)) (lv' := [(6, .int (nI (k + 1))), (7, .int (nI (mT y k))), (0, .ref (a)), (1, .ref (a + 1)), (2, .ref (a + 2)), (3, .ref (a + 3)), (4, .ref (a + 4)), (5, .ref (a + 5))]) (k := 7) hx hb dL_tick_92 hl rfl (nI_add _ _) (by decide) rfl (fun ls hl => ?_)
              refine lv_goto (tgt := 3) hx hb dL_tick_95 (by decide) ?_
              exact ih3 (k + 1) _ _ _ (by omega) (by omega) hL hS (lv_sub hl [2, 3, 4, 5, 6, 7, 0] rfl)
            · refine lv_aload_n hx hb dL_tick_57 rfl (lv_at hl 1 rfl) ?_
              refine lv_iconst (v := nI 1) hx hb dL_tick_58 (by decide) ?_
              refine kx_iald (i := 1) hx hb hK hL.q 0 rfl (by omega) (by decide) dL_tick_59 ?_
              refine kx_ci (x := qF y 1) (y := y 0) rfl ?_
              refine lv_aload_n hx hb dL_tick_60 rfl (lv_at hl 4 rfl) ?_
              refine lv_bipush (v := nI 8) hx hb dL_tick_61 (by decide) ?_
              refine lv_iload hx hb dL_tick_63 (lv_at hl 7 rfl) ?_
              refine kn_mul hx hb dL_tick_65 ?_
              refine lv_bipush (v := nI 7) hx hb dL_tick_66 (by decide) ?_
              refine kn_add hx hb dL_tick_68 ?_
              refine kx_iald (i := 8 * k + 7) hx hb hK hL.mv 0 rfl (by omega) (by decide) dL_tick_69 ?_
              refine kx_ci (x := mvF y (8 * k + 7)) (y := y (80 + 10 * k + 8)) (mvF_t y k (hye (by omega) (by assumption))) ?_
              refine lv_isub hx hb dL_tick_70 ?_
              refine lv_aload_n hx hb dL_tick_71 rfl (lv_at hl 3 rfl) ?_
              refine lv_iconst (v := nI 4) hx hb dL_tick_72 (by decide) ?_
              refine lv_iload hx hb dL_tick_73 (lv_at hl 0 rfl) ?_
              refine kn_mul hx hb dL_tick_75 ?_
              refine lv_iconst (v := nI 2) hx hb dL_tick_76 (by decide) ?_
              refine kn_add hx hb dL_tick_77 ?_
              refine kx_iald (i := 4 * (mT y k) + 2) hx hb hK hL.rg 0 rfl (by omega) (by decide) dL_tick_78 ?_
              refine kx_ci (x := y (56 + (4 * (mT y k) + 2))) (y := y (56 + 4 * (mT y k) + 2)) (congrArg y (by omega)) ?_
              refine lv_icmp_lt (tgt := 92) hx hb dL_tick_79 (by decide) (fun c_10 => ?_) (fun c_10 => ?_)
              · have e9 : lgK z (k + 1) = y := by
                  show lgS k (lgK z k) = _
                  rw [hyd]; simp [lgS, lgB, *]
                have hL : LwC D cs a (lgK z (k + 1)) g H := by rw [e9]; exact hL
                refine lv_iinc (v := nI (k + 1)) (lv' := [(6, .int (nI (k + 1))), (7, .int (nI (mT y k))), (0, .ref (a)), (1, .ref (a + 1)), (2, .ref (a + 2)), (3, .ref (a + 3)), (4, .ref (a + 4)), (5, .ref (a + 5))]) (k := 7) hx hb dL_tick_92 hl rfl (nI_add _ _) (by decide) rfl (fun ls hl => ?_)
                refine lv_goto (tgt := 3) hx hb dL_tick_95 (by decide) ?_
                exact ih3 (k + 1) _ _ _ (by omega) (by omega) hL hS (lv_sub hl [2, 3, 4, 5, 6, 7, 0] rfl)
              · refine lv_aload_n hx hb dL_tick_82 rfl (lv_at hl 4 rfl) ?_
                refine lv_bipush (v := nI 8) hx hb dL_tick_83 (by decide) ?_
                refine lv_iload hx hb dL_tick_85 (lv_at hl 7 rfl) ?_
                refine kn_mul hx hb dL_tick_87 ?_
                refine lv_iconst (v := nI 5) hx hb dL_tick_88 (by decide) ?_
                refine kn_add hx hb dL_tick_89 ?_
                refine lv_iconst (v := nI 3) hx hb dL_tick_90 (by decide) ?_
                refine kx_iast (i := 8 * k + 5) hx hb hK hL.mv hS ⟨by omega, by omega⟩ 0 rfl (by omega) (by decide) dL_tick_91 (fun H locs hc hU hS => ?_)
                have hL := hL.put_mv (k := k) (p := 5) (by omega) (by decide) hc hU
                clear hc hU
                have hL : LwC D cs a (upd y (80 + 10 * k + 5) (nI (3))) g H := hL
                have e9 : lgK z (k + 1) = upd y (80 + 10 * k + 5) (nI (3)) := by
                  show lgS k (lgK z k) = _
                  rw [hyd]; simp [lgS, lgB, *]
                have hL : LwC D cs a (lgK z (k + 1)) g H := by rw [e9]; exact hL
                refine lv_iinc (v := nI (k + 1)) (lv' := [(6, .int (nI (k + 1))), (7, .int (nI (mT y k))), (0, .ref (a)), (1, .ref (a + 1)), (2, .ref (a + 2)), (3, .ref (a + 3)), (4, .ref (a + 4)), (5, .ref (a + 5))]) (k := 7) hx hb dL_tick_92 hl rfl (nI_add _ _) (by decide) rfl (fun ls hl => ?_)
                refine lv_goto (tgt := 3) hx hb dL_tick_95 (by decide) ?_
                exact ih3 (k + 1) _ _ _ (by omega) (by omega) hL hS (lv_sub hl [2, 3, 4, 5, 6, 7, 0] rfl)
  exact J3 _ 0 _ _ _ (Nat.lt_succ_self _) (by omega) (by rw [lgK_0]; exact hL) hS (lv_sub hl [1, 2, 3, 4, 5, 6, 0] rfl)
