/-! from the law's entry to its rings -/
theorem lw_new {D : va_G} {cs : Nat → ClassId} {a : Nat} {H : Heap} (h0 : va_at D vwCl (a, .inl (cs 0, 4, .inl (fun _ => 0))) H) (h1 : va_at D vwCl (a + 1, .inl (cs 0, 48, .inl (fun _ => 0))) H) (h2 : va_at D vwCl (a + 1 + 1, .inl (cs 0, 12, .inl (fun _ => 0))) H) (h3 : va_at D vwCl (a + 1 + 1 + 1, .inl (cs 0, 64, .inl (fun _ => 0))) H) (h4 : va_at D vwCl (a + 1 + 1 + 1 + 1, .inl (cs 0, 64, .inl (fun _ => 0))) H) (h5 : va_at D vwCl (a + 1 + 1 + 1 + 1 + 1, .inl (cs 5, 16, .inr (.inl (fun _ => 0)))) H) : LwC D cs a zr g0F H :=
  ⟨at_congr h0 (fun j hj => by unfold qF zr; repeat (first | rfl | split)), h1, h2, at_congr h3 (fun j hj => by unfold mvF zr; repeat (first | rfl | split)), h4, h5⟩
theorem HrC.keepR {D : va_G} {cs : Nat → ClassId} {x : Nat} {e : Nat → Int32} {g : Nat → Int64} {e1 : Nat → Int32} {g1 : Nat → Int64} {nx cn : Nat} {se : Nat → Nat → Int32} {sg : Nat → Nat → Int64} {b nn : Nat → Int32} {wd ln pa : Nat} {ft : Int32} {H H1 : Heap} (h : HrC D cs x e g e1 g1 nx cn se sg b nn wd ln pa ft H) (hk : ∀ y : Nat, x ≤ y → y < x + 360 → H1[y]? = H[y]?) : HrC D cs x e g e1 g1 nx cn se sg b nn wd ln pa ft H1 :=
  ⟨h.1.kept (hk _ (by omega) (by omega)), h.2.1.keep (fun y h1 h2 => hk y (by omega) (by omega)), h.2.2.1.keep (fun y h1 h2 => hk y (by omega) (by omega)), h.2.2.2.1.keep (fun y h1 h2 => hk y (by omega) (by omega)),
    h.2.2.2.2.1.kept (hk _ (by omega) (by omega)), h.2.2.2.2.2.1.kept (hk _ (by omega) (by omega)), h.2.2.2.2.2.2.kept (hk _ (by omega) (by omega))⟩
set_option maxHeartbeats 4000000 in
set_option maxRecDepth 100000 in
/-- the whole law, from its entry -/
theorem whole_start {p : Program} {e : Env} {s : State} {m : MethodId} {below : List Frame} {meth : Method} {c : Code} (l : Launch) (hflags : l.flags = flags0) {b L : Nat} {xs : Nat → Int32} (hL : L ≤ 260) (C0 : lw_At p s m meth c b L xs) : W p l e room_1 s m #[Value.ref b] below meth c s.heap [] 0 0 (lw_Z below #[Value.ref b] s) (entryFrame m ([Value.ref b] : List Value).toArray 16) := by
  obtain ⟨hx, hb, hr9, hml, hown, hts0, hX, hbl, hlocks, hgv⟩ := id C0
  have hts : ∀ w ∈ wsL_law, w.before #[Value.ref b] s = true := fun w hw => hts0 w (wsL_law_in w hw)
  have hgw : ∀ w ∈ lw_gv, w.before #[Value.ref b] s = true := flat_of_before _ hgv
  have hfl : l.stackTraces = false := by unfold Launch.stackTraces; rw [hflags]; decide +kernel
  obtain ⟨q, hq⟩ : ∃ q : Nat, q = s.heap.size := ⟨_, rfl⟩
  have hA : ∀ a : Nat, a < s.heap.size → ¬ (fun y : Nat => q ≤ y) a := fun a h h2 => by have h3 : q ≤ a := h2; omega
  obtain ⟨D, cs, hK⟩ := st_K hts0
  have hN : NK s := st_NK hts0
  have hAK : AK s := st_AK hts0
  obtain ⟨aW, aS, aV, tW, tM, hKW⟩ := st_KW hts0 hgw hA
  have hXK := st_XK hts0 hgw hA
  have hXN : XN s := st_XN hgw
  have hz : s.heap.size = q := hq.symm
  have hS : va_S (fun y : Nat => q ≤ y) s.heap s.heap [] := va_S.rf
  have hl := lv_entry ([.ref b]) (n := 16) (Nat.le_of_ble_eq_true rfl)
  rw [lg_entry_eq]
  generalize (lg_sl ([.ref b]) ++ List.replicate (16 - (lg_sl ([.ref b])).length) Slot.unset).toArray = ls at hl ⊢
  have hl : lv_has ls 16 [(0, .ref b)] := hl
  have hown : s.vm.findClass RL = some m.cls := hown
  refine kx_new (index := 11) (ci := 5) (fs := HrZ) (T := TX7) (N := 4) hx hb hts inlX7 tyX7 tyX7_ok hown (by decide +kernel) (by decide +kernel) (by decide +kernel) hK hS hz rfl (fun j hj => by rcases (show j = 0 ∨ j = 1 ∨ j = 2 ∨ j = 3 by omega) with rfl | rfl | rfl | rfl <;> rfl) (Nat.le_of_ble_eq_true rfl) (Nat.le_of_ble_eq_true rfl) dL_law_0 (fun H1 hN1 z1 o1 hS => ?_)
  refine lv_dup hx hb dL_law_3 rfl ?_
  have hKW1 := hKW.kept (H1 := H1) (fun a h1 h2 => hS.2.1 a h1 h2)
  refine kx_retN (va_runI (As := []) (rest := [.ref q]) ⟨hx, hb, hml, hown, hts⟩ (k_X7_init l D cs q q aW aS aV tW tM (Nat.le_refl q)) (cwI 0 hts gL_law_X7_init rfl rfl rfl (hts (.initialized RX7) (by decide +kernel)) (hts (.methodLink RL 84 yX7_init) (by decide +kernel)) (hts (.instanceMethod yX7_init) (by decide +kernel)) rfl (by decide +kernel) ⟨Nat.le_of_ble_eq_true rfl, Nat.le_of_ble_eq_true rfl⟩) (kx_preB hK hN hAK hKW1 ⟨hN1, z1⟩) rfl rfl hl.1 rfl (lv_room (Nat.le_of_ble_eq_true rfl)) dL_law_4 ⟨Nat.le_of_ble_eq_true rfl, Nat.le_of_ble_eq_true rfl⟩) hS (fun y _ h => h) (fun y h => h) (fun H2 locs hP hk hS => ?_)
  obtain ⟨hHr, z2⟩ := hP
  refine lv_astore_n (lv' := [(1, .ref q), (0, .ref b)]) hx hb dL_law_7 rfl hl (by decide) rfl (fun ls hl => ?_)
  refine lv_iconst (v := nI 4) hx hb dL_law_8 (by decide) ?_
  refine kx_newi hx hb hts (by decide +kernel) hK hS z2 0 rfl (n := 4) (by decide) (Nat.le_of_ble_eq_true rfl) (Nat.le_of_ble_eq_true rfl) dL_law_9 (fun H3 hA0 z3 o3 hS => ?_)
  have hHr := hHr.keepR (H1 := H3) (fun y h1 h2 => o3 y (by omega))
  refine lv_astore_n (lv' := [(2, .ref (q + 360)), (1, .ref q), (0, .ref b)]) hx hb dL_law_11 rfl hl (by decide) rfl (fun ls hl => ?_)
  refine lv_bipush (v := nI 48) hx hb dL_law_12 (by decide) ?_
  refine kx_newi hx hb hts (by decide +kernel) hK hS z3 0 rfl (n := 48) (by decide) (Nat.le_of_ble_eq_true rfl) (Nat.le_of_ble_eq_true rfl) dL_law_14 (fun H4 hA1 z4 o4 hS => ?_)
  have hHr := hHr.keepR (H1 := H4) (fun y h1 h2 => o4 y (by omega))
  have hA0 := hA0.kept (o4 _ (by omega))
  refine lv_astore_n (lv' := [(3, .ref (q + 360 + 1)), (2, .ref (q + 360)), (1, .ref q), (0, .ref b)]) hx hb dL_law_16 rfl hl (by decide) rfl (fun ls hl => ?_)
  refine lv_bipush (v := nI 12) hx hb dL_law_17 (by decide) ?_
  refine kx_newi hx hb hts (by decide +kernel) hK hS z4 0 rfl (n := 12) (by decide) (Nat.le_of_ble_eq_true rfl) (Nat.le_of_ble_eq_true rfl) dL_law_19 (fun H5 hA2 z5 o5 hS => ?_)
  have hHr := hHr.keepR (H1 := H5) (fun y h1 h2 => o5 y (by omega))
  have hA0 := hA0.kept (o5 _ (by omega))
  have hA1 := hA1.kept (o5 _ (by omega))
  refine lv_astore (lv' := [(4, .ref (q + 360 + 1 + 1)), (3, .ref (q + 360 + 1)), (2, .ref (q + 360)), (1, .ref q), (0, .ref b)]) hx hb dL_law_21 hl (by decide) rfl (fun ls hl => ?_)
  refine lv_bipush (v := nI 64) hx hb dL_law_23 (by decide) ?_
  refine kx_newi hx hb hts (by decide +kernel) hK hS z5 0 rfl (n := 64) (by decide) (Nat.le_of_ble_eq_true rfl) (Nat.le_of_ble_eq_true rfl) dL_law_25 (fun H6 hA3 z6 o6 hS => ?_)
  have hHr := hHr.keepR (H1 := H6) (fun y h1 h2 => o6 y (by omega))
  have hA0 := hA0.kept (o6 _ (by omega))
  have hA1 := hA1.kept (o6 _ (by omega))
  have hA2 := hA2.kept (o6 _ (by omega))
  refine lv_astore (lv' := [(5, .ref (q + 360 + 1 + 1 + 1)), (4, .ref (q + 360 + 1 + 1)), (3, .ref (q + 360 + 1)), (2, .ref (q + 360)), (1, .ref q), (0, .ref b)]) hx hb dL_law_27 hl (by decide) rfl (fun ls hl => ?_)
  refine lv_bipush (v := nI 64) hx hb dL_law_29 (by decide) ?_
  refine kx_newi hx hb hts (by decide +kernel) hK hS z6 0 rfl (n := 64) (by decide) (Nat.le_of_ble_eq_true rfl) (Nat.le_of_ble_eq_true rfl) dL_law_31 (fun H7 hA4 z7 o7 hS => ?_)
  have hHr := hHr.keepR (H1 := H7) (fun y h1 h2 => o7 y (by omega))
  have hA0 := hA0.kept (o7 _ (by omega))
  have hA1 := hA1.kept (o7 _ (by omega))
  have hA2 := hA2.kept (o7 _ (by omega))
  have hA3 := hA3.kept (o7 _ (by omega))
  refine lv_astore (lv' := [(6, .ref (q + 360 + 1 + 1 + 1 + 1)), (5, .ref (q + 360 + 1 + 1 + 1)), (4, .ref (q + 360 + 1 + 1)), (3, .ref (q + 360 + 1)), (2, .ref (q + 360)), (1, .ref q), (0, .ref b)]) hx hb dL_law_33 hl (by decide) rfl (fun ls hl => ?_)
  refine lv_bipush (v := nI 16) hx hb dL_law_35 (by decide) ?_
  refine kx_newl hx hb hts (by decide +kernel) hK hS z7 5 rfl (n := 16) (by decide) (Nat.le_of_ble_eq_true rfl) (Nat.le_of_ble_eq_true rfl) dL_law_37 (fun H8 hA5 z8 o8 hS => ?_)
  have hHr := hHr.keepR (H1 := H8) (fun y h1 h2 => o8 y (by omega))
  have hA0 := hA0.kept (o8 _ (by omega))
  have hA1 := hA1.kept (o8 _ (by omega))
  have hA2 := hA2.kept (o8 _ (by omega))
  have hA3 := hA3.kept (o8 _ (by omega))
  have hA4 := hA4.kept (o8 _ (by omega))
  refine lv_astore (lv' := [(7, .ref (q + 360 + 1 + 1 + 1 + 1 + 1)), (6, .ref (q + 360 + 1 + 1 + 1 + 1)), (5, .ref (q + 360 + 1 + 1 + 1)), (4, .ref (q + 360 + 1 + 1)), (3, .ref (q + 360 + 1)), (2, .ref (q + 360)), (1, .ref q), (0, .ref b)]) hx hb dL_law_39 hl (by decide) rfl (fun ls hl => ?_)
  have G : LwG p l s m c D cs q b L xs := ⟨hx, hb, hml, hown, hts, hK, hN, hXK, hXN, hX, hbl, hq, hL, hfl⟩
  exact cs_rings G (Nat.le_of_ble_eq_true rfl) (Nat.le_of_ble_eq_true rfl) hHr (lw_new hA0 hA1 hA2 hA3 hA4 hA5) hS (lv_sub hl [7, 6, 5, 4, 3, 2, 1, 0] rfl) (fun H locs ls W0 hS hl => law_loop G hr9 hlocks 17 0 0 (by omega) (by omega) (by omega) H locs _ _ ls W0 hS (Nat.le_of_ble_eq_true rfl) (Nat.le_of_ble_eq_true rfl) hl)
