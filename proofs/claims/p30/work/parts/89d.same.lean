/-! the law's comparisons, from their label to the next turn -/
theorem dc_lb {e : Nat → Int32} (hB : LB e) (k : Nat) : LB (dcK e k) := hB.alike ⟨dcK_lo e k (by omega), dcK_lo e k (by omega), dcK_lo e k (by omega), fun r pt _ _ => dcK_lo e k (by omega), fun m pt _ _ => dcK_lo e k (by omega)⟩ (fun m p hm h4 h9 h7 => dcK_lo e k (by omega))
set_option maxHeartbeats 2500000 in
set_option maxRecDepth 100000 in
theorem cs_same {p : Program} {l : Launch} {en : Env} {s : State} {m : MethodId} {below : List Frame} {meth : Method} {c : Code} {D : va_G} {cs : Nat → ClassId} {x bs N : Nat} {xs : Nat → Int32} {Q : State → Prop} (G : LwG p l s m c D cs x bs N xs) {T t : Nat} {H : Heap} {locs : List Loc} {cells slots : Nat} (hr1 : cells + 20 ≤ 600086) (hr2 : slots + 200 ≤ 7301441) (W0 : LwD D cs x T H) (hS : va_S (fun y9 : Nat => x ≤ y9) s.heap H locs) {ls : Array Slot} (hl : lv_has ls 16 [(0, .ref (bs)), (1, .ref (x)), (2, .ref (x + 360)), (3, .ref (x + 360 + 1)), (4, .ref (x + 360 + 2)), (5, .ref (x + 360 + 3)), (6, .ref (x + 360 + 4)), (7, .ref (x + 360 + 5)), (8, .int (nI (t)))])
  (K : ∀ (H : Heap) (locs : List Loc) (c1 s1 : Nat) (ls : Array Slot), LwD D cs x T H → va_S (fun y9 : Nat => x ≤ y9) s.heap H locs → c1 ≤ cells + 9 → s1 ≤ slots + 68 → lv_has ls 16 [(0, .ref (bs)), (1, .ref (x)), (2, .ref (x + 360)), (3, .ref (x + 360 + 1)), (4, .ref (x + 360 + 2)), (5, .ref (x + 360 + 3)), (6, .ref (x + 360 + 4)), (7, .ref (x + 360 + 5)), (8, .int (nI (t + 1)))] → W p l en room_1 s m #[Value.ref bs] below meth c H locs c1 s1 Q (F0 m 292 ls [])) :
  W p l en room_1 s m #[Value.ref bs] below meth c H locs cells slots Q (F0 m 769 ls []) := by
  obtain ⟨hx, hb, hml, hown, hts, hK, hN, hXK0, hXN, hXs, hbl, hxs, hN9, hfl⟩ := id G
  obtain ⟨e, g, e1, g1, nx, cn, se, sg, b, nn, wd, ln, pa, ft, hHr, hL, hI, hG, hB, hT, hnx, hcn⟩ := W0
  obtain ⟨hWro, hM, hM2, hWhi, hWto, hWtb, hWtn⟩ := hHr
  have h8 := hB.M8
  have hsz : x ≤ H.size := by have := hL.lt (x + 360) (by omega) (by omega); omega
  have hE := dc_ei hI (Mn e)
  refine lv_aload_n hx hb dL_law_769 rfl (lv_at hl 1 rfl) ?_
  refine lv_aload_n hx hb dL_law_770 rfl (lv_at hl 2 rfl) ?_
  refine lv_aload_n hx hb dL_law_771 rfl (lv_at hl 3 rfl) ?_
  refine lv_aload hx hb dL_law_772 (lv_at hl 4 rfl) ?_
  refine lv_aload hx hb dL_law_774 (lv_at hl 5 rfl) ?_
  refine lv_aload hx hb dL_law_776 (lv_at hl 6 rfl) ?_
  refine lv_aload hx hb dL_law_778 (lv_at hl 7 rfl) ?_
  refine kx_retN (va_runS (As := [.ref (x), .ref (x + 360), .ref (x + 360 + 1), .ref (x + 360 + 2), .ref (x + 360 + 3), .ref (x + 360 + 4), .ref (x + 360 + 5)]) (rest := []) ⟨hx, hb, hml, hown, hts⟩ (k_L_same l D cs x e g e1 g1 nx cn se sg b nn wd ln pa ft hI hG hB (x + 360) (Nat.le_refl _) H.size) (cwS 7 hts gL_law_L_same rfl rfl rfl (by decide +kernel) ⟨Nat.le_of_ble_eq_true rfl, Nat.le_of_ble_eq_true rfl⟩) (kx_preS hK hN ⟨⟨⟨hWro, hM, hM2, hWhi, hWto, hWtb, hWtn⟩, hL⟩, rfl⟩) rfl rfl hl.1 rfl (lv_room (Nat.le_of_ble_eq_true rfl)) dL_law_780 ⟨by show cells + 9 ≤ 600086; omega, by show slots + 68 ≤ 7301441; omega⟩) hS (fun y9 _ h => by rcases h with h | h; exact h.1; exact Nat.le_trans hsz h) (fun y9 h => by rcases h with h | h; exact h.1; exact Nat.le_trans hsz h) (fun H locs hMN hk hS => ?_)
  obtain ⟨⟨hWro, hM, hM2, hWhi, hWto, hWtb, hWtn⟩, hL⟩ := hMN
  clear hk
  have hL : LwC D cs (x + 360) (dcK e (Mn e)) g H := hL.alike (Tr.low (fun j hj => dcK_lo e (Mn e) hj))
  refine kb_if_ne (tgt := 788) hx hb dL_law_783 (by decide) (fun c783 => ?_) (fun c783 => ?_)
  · refine lv_iinc (v := nI (t + 1)) (lv' := [(8, .int (nI (t + 1))), (0, .ref (bs)), (1, .ref (x)), (2, .ref (x + 360)), (3, .ref (x + 360 + 1)), (4, .ref (x + 360 + 2)), (5, .ref (x + 360 + 3)), (6, .ref (x + 360 + 4)), (7, .ref (x + 360 + 5))]) (k := 8) hx hb dL_law_788 hl rfl (nI_add _ _) (by decide) rfl (fun ls hl => ?_)
    refine lv_goto (tgt := 292) hx hb dL_law_791 (by decide) ?_
    exact K _ _ _ _ _ ⟨_, _, _, _, _, _, _, _, _, _, _, _, _, _, ⟨hWro, hM, hM2, hWhi, hWto, hWtb, hWtn⟩, hL, ev_R hE, hG.eqv hI hE.1, dc_lb hB _, (dcK_lo e (Mn e) (by omega)).trans hT, hnx, hcn⟩ hS (Nat.le_refl _) (Nat.le_refl _) (lv_sub hl [1, 2, 3, 4, 5, 6, 7, 8, 0] rfl)
  · exact absurd c783 (by decide)
