/-! from the law's entry to its loop -/
set_option maxHeartbeats 4000000 in
set_option maxRecDepth 100000 in
/-- the whole law, from its entry -/
theorem whole_start {p : Program} {e : Env} {s : State} {m : MethodId} {below : List Frame} {meth : Method} {c : Code} (l : Launch) (hflags : l.flags = flags0) {b L : Nat} {xs : Nat → Int32} (hL : L ≤ 3072) (C0 : lw_At p s m meth c b L xs) : W p l e room_1 s m #[Value.ref b] below meth c s.heap [] 0 0 (lw_Z below #[Value.ref b] s) (entryFrame m ([Value.ref b] : List Value).toArray 8) := by
  obtain ⟨hx, hb, hr9, hml, hown, hts0, hX, hbl, hlocks, hgv⟩ := id C0
  have hts : ∀ w ∈ wsL_law, w.before #[Value.ref b] s = true := fun w hw => hts0 w (wsL_law_in w hw)
  have hgw : ∀ w ∈ lw_gv, w.before #[Value.ref b] s = true := flat_of_before _ hgv
  have hfl : l.stackTraces = false := by unfold Launch.stackTraces; rw [hflags]; decide +kernel
  obtain ⟨q, hq⟩ : ∃ q : Nat, q = s.heap.size := ⟨_, rfl⟩
  have hA : ∀ a : Nat, a < s.heap.size → ¬ (fun y : Nat => q ≤ y) a := fun a h h2 => by have h3 : q ≤ a := h2; omega
  obtain ⟨D, cs, hK⟩ := st_K hts0
  have hN : NK s := st_NK hts0
  have hAK : AK s := st_AK hts0
  obtain ⟨aW, aS, aV, tW, tM, hKW⟩ := st_KW hts0 hgw hA
  have hXK := st_XK hts0 hgw hA
  have hXN : XN s := st_XN hgw
  have hz : s.heap.size = q := hq.symm
  have hS : va_S (fun y : Nat => q ≤ y) s.heap s.heap [] := va_S.rf
  have hl := lv_entry ([.ref b]) (n := 8) (Nat.le_of_ble_eq_true rfl)
  rw [lg_entry_eq]
  generalize (lg_sl ([.ref b]) ++ List.replicate (8 - (lg_sl ([.ref b])).length) Slot.unset).toArray = ls at hl ⊢
  have hl : lv_has ls 8 [(0, .ref b)] := hl
  have hown : s.vm.findClass RL = some m.cls := hown
  refine kx_new (index := 8) (ci := 5) (fs := HrZ) (T := TX7) (N := 4) hx hb hts inlX7 tyX7 tyX7_ok hown (by decide +kernel) (by decide +kernel) (by decide +kernel) hK hS hz rfl (fun j hj => by rcases (show j = 0 ∨ j = 1 ∨ j = 2 ∨ j = 3 by omega) with rfl | rfl | rfl | rfl <;> rfl) (Nat.le_of_ble_eq_true rfl) (Nat.le_of_ble_eq_true rfl) dL_law_0 (fun H1 hN1 z1 o1 hS => ?_)
  refine lv_dup hx hb dL_law_3 rfl ?_
  have hKW1 := hKW.kept (H1 := H1) (fun a h1 h2 => hS.2.1 a h1 h2)
  refine kx_retN (va_runI (As := []) (rest := [.ref q]) ⟨hx, hb, hml, hown, hts⟩ (k_X7_init l D cs q q aW aS aV tW tM (Nat.le_refl q)) (cwI 0 hts gL_law_X7_init rfl rfl rfl (hts (.initialized RX7) (by decide +kernel)) (hts (.methodLink RL 85 yX7_init) (by decide +kernel)) (hts (.instanceMethod yX7_init) (by decide +kernel)) rfl (by decide +kernel) ⟨Nat.le_of_ble_eq_true rfl, Nat.le_of_ble_eq_true rfl⟩) (kx_preB hK hN hAK hKW1 ⟨hN1, z1⟩) rfl rfl hl.1 rfl (lv_room (Nat.le_of_ble_eq_true rfl)) dL_law_4 ⟨Nat.le_of_ble_eq_true rfl, Nat.le_of_ble_eq_true rfl⟩) hS (fun y _ h => h) (fun y h => h) (fun H2 locs hP hk hS => ?_)
  obtain ⟨hHr, z2⟩ := hP
  refine lv_astore_n (lv' := [(1, .ref q), (0, .ref b)]) hx hb dL_law_7 rfl hl (by decide) rfl (fun ls hl => ?_)
  refine kx_new (index := 86) (ci := 6) (fs := mdZ) (T := TX8) (N := 11) hx hb hts inlX8 tyX8 tyX8_ok hown (by decide +kernel) (by decide +kernel) (by decide +kernel) hK hS z2 rfl (fun j hj => by rcases (show j = 0 ∨ j = 1 ∨ j = 2 ∨ j = 3 ∨ j = 4 ∨ j = 5 ∨ j = 6 ∨ j = 7 ∨ j = 8 ∨ j = 9 ∨ j = 10 by omega) with rfl | rfl | rfl | rfl | rfl | rfl | rfl | rfl | rfl | rfl | rfl <;> rfl) (Nat.le_of_ble_eq_true rfl) (Nat.le_of_ble_eq_true rfl) dL_law_8 (fun H3 hN3 z3 o3 hS => ?_)
  have hHr := hHr.keepR (H1 := H3) (fun y h1 h2 => o3 y h2)
  refine lv_dup hx hb dL_law_11 rfl ?_
  refine kx_retN (va_runI (As := []) (rest := [.ref (q + 360)]) ⟨hx, hb, hml, hown, hts⟩ (k_X8_init l D cs (q + 360)) (cwI 0 hts gL_law_X8_init rfl rfl rfl (hts (.initialized RX8) (by decide +kernel)) (hts (.methodLink RL 88 yX8_init) (by decide +kernel)) (hts (.instanceMethod yX8_init) (by decide +kernel)) rfl (by decide +kernel) ⟨Nat.le_of_ble_eq_true rfl, Nat.le_of_ble_eq_true rfl⟩) (kx_preA hK hN hAK ⟨hN3, z3⟩) rfl rfl hl.1 rfl (lv_room (Nat.le_of_ble_eq_true rfl)) dL_law_12 ⟨Nat.le_of_ble_eq_true rfl, Nat.le_of_ble_eq_true rfl⟩) hS (fun y _ h => by have h3 : q + 360 ≤ y := h; show q ≤ y; omega) (fun y h => by have h3 : q + 360 ≤ y := h; show q ≤ y; omega) (fun H4 locs2 hP hk hS => ?_)
  obtain ⟨hMd, z4⟩ := hP
  have hHr := hHr.keepR (H1 := H4) (fun y h1 h2 => hk.2 y (by omega) (by show ¬ q + 360 ≤ y; omega))
  have z4 : H4.size = q + 367 := z4
  refine lv_astore_n (lv' := [(2, .ref (q + 360)), (1, .ref q), (0, .ref b)]) hx hb dL_law_15 rfl hl (by decide) rfl (fun ls hl => ?_)
  refine lv_iconst (v := nI 1) hx hb dL_law_16 (by decide) ?_
  refine kx_newl hx hb hts (by decide +kernel) hK hS z4 5 rfl (n := 1) (by decide) (Nat.le_of_ble_eq_true rfl) (Nat.le_of_ble_eq_true rfl) dL_law_17 (fun H5 hOu z5 o5 hS => ?_)
  have hHr := hHr.keepR (H1 := H5) (fun y h1 h2 => o5 y (by omega))
  have hMd := hMd.keep (H1 := H5) (fun y h1 h2 => o5 y (by omega))
  refine lv_astore_n (lv' := [(3, .ref (q + 367)), (2, .ref (q + 360)), (1, .ref q), (0, .ref b)]) hx hb dL_law_19 rfl hl (by decide) rfl (fun ls hl => ?_)
  refine lv_iconst (v := nI 0) hx hb dL_law_20 (by decide) ?_
  refine lv_istore (lv' := [(4, .int (nI 0)), (3, .ref (q + 367)), (2, .ref (q + 360)), (1, .ref q), (0, .ref b)]) hx hb dL_law_21 hl (by decide) rfl (fun ls hl => ?_)
  exact law_loop (D := D) (cs := cs) (L := q) (aW := aW) (aS := aS) (aV := aV) (tW := tW) (tM := tM) ⟨hx, hb, hml, hown, hts, hK, hN, hKW, hXK, hXN, hX, hbl, hq, hL, hfl⟩ hr9 hlocks (L + 1) 0 (by omega) (Nat.zero_le _) H5 _ _ _ ls ⟨e0F, e0F, g0F, e0F, g0F, 0, 0, fun _ => e0F, fun _ => g0F, fun _ => 0, fun _ => 0, 0, 0, 0, -1, fun _ => 0, hHr, hOu, hMd, relA_new _ _, by decide, by omega⟩ hS (Nat.le_of_ble_eq_true rfl) (Nat.le_of_ble_eq_true rfl) (lv_sub hl [0, 4, 3, 2, 1] rfl)
