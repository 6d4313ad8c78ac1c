set_option maxHeartbeats 2500000 in
set_option maxRecDepth 100000 in
theorem k_X2_save (l : Launch) (D : va_G) (cs : Nat → ClassId) (hq nx cn : Nat) (se : Nat → Nat → Int32) (sg : Nat → Nat → Int64) (q : Nat) (e : Nat → Int32) (g : Nat → Int64) (hI2 : Inv e) (hd : hq + 238 ≤ q ∨ q + 59 ≤ hq) (hnx : nx < 4) (hcn : cn ≤ 4) : Met l yX2_save wsX2_save ({ frames := 3, cells := 0, slots := 0, locals := 91 } : Room) (PcK D cs [.ref (hq), .ref (q)] (fun H => HiC D cs hq nx cn se sg H ∧ StC D cs q e g H)) (QcM none (fun H => HiC D cs hq (((nx + 1) % 4)) ((min (cn + 1) 4)) ((hsE se nx (cfF (se nx) e))) ((hsG sg nx (cgM (sg nx) g (Mn e)))) H) (rgH hq)) 0 0 ((rgH hq)) := by
  refine kx_met (cc := cX2_save) (maxL := 2) (ret := none) (by decide) rfl (Nat.le_of_ble_eq_true rfl) ?_
  intro p en s m args below meth c hx hb hml hrt hts hown hlk hK hN hP ls hl
  have hl : lv_has ls 2 [(0, .ref (hq)), (1, .ref (q))] := hl
  obtain ⟨H, hHe⟩ : ∃ H : Heap, H = s.heap := ⟨_, rfl⟩
  rw [← hHe] at hP ⊢
  have hS : va_S ((rgH hq)) s.heap H [] := by rw [← hHe]; exact va_S.rf
  have hinX2 : ∀ w ∈ wsX20, w ∈ wsX2_save := by decide +kernel
  have hWho := hP.1.1
  have hWha := hP.1.2.1
  have hWfam : ∀ i, i < 4 → i ≠ nx → StC D cs (hq + 2 + 59 * i) (se i) (sg i) H := fun i h1 _ => hP.1.2.2 i h1
  have hM := hP.1.2.2 nx hnx
  have hM2 := hP.2
  refine lv_aload_n hx hb dX2_save_0 rfl (lv_at hl 0 rfl) ?_
  refine kx_get (v := .ref (hq + 1)) hx hb hts hinX2 hown hK hWho rfl 0 (by decide) (by decide +kernel) rfl dX2_save_1 ?_
  refine lv_aload_n hx hb dX2_save_4 rfl (lv_at hl 0 rfl) ?_
  refine kx_get (v := .int (nI (nx))) hx hb hts hinX2 hown hK hWho rfl 1 (by decide) (by decide +kernel) rfl dX2_save_5 ?_
  refine kx_aald (i := nx) hx hb hK hWha 4 rfl (by omega) (by decide) rfl dX2_save_8 ?_
  refine lv_aload_n hx hb dX2_save_9 rfl (lv_at hl 1 rfl) ?_
  refine kx_retM (va_runV (As := [.ref (q)]) (rest := []) ⟨hx, hb, hml, hown, hts⟩ (k_X5_copyFrom l D cs (hq + 2 + 59 * nx) ((se nx)) ((sg nx)) q e g hI2 (by omega)) (cwV 1 hts gX2_save_X5_copyFrom rfl rfl rfl (by decide +kernel) ⟨Nat.le_of_ble_eq_true rfl, Nat.le_of_ble_eq_true rfl⟩) (kx_preV hK hN hM.obj rfl ⟨hM, hM2⟩) rfl rfl hl.1 rfl (lv_room (Nat.le_of_ble_eq_true rfl)) dX2_save_10 ⟨Nat.le_of_ble_eq_true rfl, Nat.le_of_ble_eq_true rfl⟩) hS (fun x _ h => (by first | exact h | exact ⟨by have h1 := h.1; have h2 := h.2; omega, by have h1 := h.1; have h2 := h.2; omega⟩ | (rcases h with h | h <;> exact ⟨by have h1 := h.1; have h2 := h.2; omega, by have h1 := h.1; have h2 := h.2; omega⟩) | exact Or.inl ⟨by have h1 := h.1; have h2 := h.2; omega, by have h1 := h.1; have h2 := h.2; omega⟩ | exact Or.inr ⟨by have h1 := h.1; have h2 := h.2; omega, by have h1 := h.1; have h2 := h.2; omega⟩)) (fun x h => (by first | exact h | exact ⟨by have h1 := h.1; have h2 := h.2; omega, by have h1 := h.1; have h2 := h.2; omega⟩ | (rcases h with h | h <;> exact ⟨by have h1 := h.1; have h2 := h.2; omega, by have h1 := h.1; have h2 := h.2; omega⟩) | exact Or.inl ⟨by have h1 := h.1; have h2 := h.2; omega, by have h1 := h.1; have h2 := h.2; omega⟩ | exact Or.inr ⟨by have h1 := h.1; have h2 := h.2; omega, by have h1 := h.1; have h2 := h.2; omega⟩)) (fun H locs hMN hk hS => ?_)
  have hWfam := (fun i h1 h2 => (hWfam i h1 h2).frame hk (fun x h5 h6 h => by have h3 := h.1; have h4 := h.2; omega))
  have hWha := hWha.kept (hk.2 _ hWha.lt (fun h => by first | (have h3 := h.1; have h4 := h.2; omega) | (rcases h with h | h <;> (have h3 := h.1; have h4 := h.2; omega))))
  have hWho := hWho.kept (hk.2 _ hWho.lt (fun h => by first | (have h3 := h.1; have h4 := h.2; omega) | (rcases h with h | h <;> (have h3 := h.1; have h4 := h.2; omega))))
  have hM2 := hM2.frame hk (fun x h1 h2 h => by first | (have h3 := h.1; have h4 := h.2; omega) | (rcases h with h | h <;> (have h3 := h.1; have h4 := h.2; omega)))
  have hM := hMN
  clear hk hMN
  refine lv_aload_n hx hb dX2_save_13 rfl (lv_at hl 0 rfl) ?_
  refine lv_aload_n hx hb dX2_save_14 rfl (lv_at hl 0 rfl) ?_
  refine kx_get (v := .int (nI (nx))) hx hb hts hinX2 hown hK hWho rfl 1 (by decide) (by decide +kernel) rfl dX2_save_15 ?_
  refine lv_iconst (v := nI 1) hx hb dX2_save_18 (by decide) ?_
  refine kn_add hx hb dX2_save_19 ?_
  refine lv_iconst (v := nI 4) hx hb dX2_save_20 (by decide) ?_
  refine kn_rem hx hb (by omega) (by omega) (by omega) dX2_save_21 ?_
  refine kx_put hx hb hts hinX2 tyX2_ok nmX2 hown hK hWho rfl hS ⟨by omega, by omega⟩ 1 (by decide) (by decide +kernel) rfl rfl rfl (Nat.le_of_ble_eq_true rfl) dX2_save_22 (fun H locs hc hU hS => ?_)
  have hWho : va_at D vwCl (hq, .inr (1, [.ref (hq + 1), .int (nI ((nx + 1) % 4)), .int (nI (cn))])) H := hc
  have hWfam := (fun i h1 h2 => (hWfam i h1 h2).off hU (by omega))
  have hWha := hWha.kept (hU.2 _ (by omega))
  have hM := hM.off hU (by omega)
  have hM2 := hM2.off hU (by omega)
  clear hc hU
  refine lv_aload_n hx hb dX2_save_25 rfl (lv_at hl 0 rfl) ?_
  refine lv_aload_n hx hb dX2_save_26 rfl (lv_at hl 0 rfl) ?_
  refine kx_get (v := .int (nI (cn))) hx hb hts hinX2 hown hK hWho rfl 2 (by decide) (by decide +kernel) rfl dX2_save_27 ?_
  refine lv_iconst (v := nI 1) hx hb dX2_save_30 (by decide) ?_
  refine kn_add hx hb dX2_save_31 ?_
  refine lv_iconst (v := nI 4) hx hb dX2_save_32 (by decide) ?_
  refine kn_min hx hb (hml.trans hl.1.symm) hown (hts (.methodLink RX2 29 Lib.Math.min.name) (by decide +kernel)) (hts (.static Lib.Math.min.name) (by decide +kernel)) (hts (.initialized "java/lang/Math") (by decide +kernel)) (hts (.code Lib.Math.min.name Lib.Math.min.code 2 (some .int)) (by decide +kernel)) (Nat.le_of_ble_eq_true rfl) (Nat.le_of_ble_eq_true rfl) (Nat.le_of_ble_eq_true rfl) (Nat.le_of_ble_eq_true rfl) (by omega) (by omega) dX2_save_33 ?_
  refine kx_put hx hb hts hinX2 tyX2_ok nmX2 hown hK hWho rfl hS ⟨by omega, by omega⟩ 2 (by decide) (by decide +kernel) rfl rfl rfl (Nat.le_of_ble_eq_true rfl) dX2_save_36 (fun H locs hc hU hS => ?_)
  have hWho : va_at D vwCl (hq, .inr (1, [.ref (hq + 1), .int (nI ((nx + 1) % 4)), .int (nI (min (cn + 1) 4))])) H := hc
  have hWfam := (fun i h1 h2 => (hWfam i h1 h2).off hU (by omega))
  have hWha := hWha.kept (hU.2 _ (by omega))
  have hM := hM.off hU (by omega)
  have hM2 := hM2.off hU (by omega)
  clear hc hU
  exact kx_vretM hx hb hrt hlk (HiC.mk hWho hWha hWfam hM) hS dX2_save_39
set_option maxHeartbeats 2500000 in
set_option maxRecDepth 100000 in
theorem k_X2_restore (l : Launch) (D : va_G) (cs : Nat → ClassId) (hq nx cn : Nat) (se : Nat → Nat → Int32) (sg : Nat → Nat → Int64) (q : Nat) (e : Nat → Int32) (g : Nat → Int64) (p9 : Nat) (hp9 : p9 = (nx + 3) % 4) (hI2 : Inv (se p9)) (hcn1 : 1 ≤ cn) (hd : hq + 238 ≤ q ∨ q + 59 ≤ hq) (hnx : nx < 4) (hcn : cn ≤ 4) : Met l yX2_restore wsX2_restore ({ frames := 3, cells := 0, slots := 0, locals := 91 } : Room) (PcK D cs [.ref (hq), .ref (q)] (fun H => HiC D cs hq nx cn se sg H ∧ StC D cs q e g H)) (QcM (some (.int (nI (cn - 1)))) (fun H => HiC D cs hq p9 ((cn - 1)) se sg H ∧ StC D cs q ((cfF e (se p9))) ((cgM g (sg p9) (Mn (se p9)))) H) (fun x : Nat => (hq ≤ x ∧ x < hq + 238) ∨ (q ≤ x ∧ x < q + 59))) 0 0 ((fun x : Nat => (hq ≤ x ∧ x < hq + 238) ∨ (q ≤ x ∧ x < q + 59))) := by
  refine kx_met (cc := cX2_restore) (maxL := 2) (ret := (some .int)) (by decide) rfl (Nat.le_of_ble_eq_true rfl) ?_
  intro p en s m args below meth c hx hb hml hrt hts hown hlk hK hN hP ls hl
  have hl : lv_has ls 2 [(0, .ref (hq)), (1, .ref (q))] := hl
  obtain ⟨H, hHe⟩ : ∃ H : Heap, H = s.heap := ⟨_, rfl⟩
  rw [← hHe] at hP ⊢
  have hS : va_S ((fun x : Nat => (hq ≤ x ∧ x < hq + 238) ∨ (q ≤ x ∧ x < q + 59))) s.heap H [] := by rw [← hHe]; exact va_S.rf
  have hinX2 : ∀ w ∈ wsX20, w ∈ wsX2_restore := by decide +kernel
  have hp4 : p9 < 4 := by omega
  have hWho := hP.1.1
  have hWha := hP.1.2.1
  have hWfam : ∀ i, i < 4 → i ≠ p9 → StC D cs (hq + 2 + 59 * i) (se i) (sg i) H := fun i h1 _ => hP.1.2.2 i h1
  have hM2 := hP.1.2.2 p9 hp4
  have hM := hP.2
  refine lv_aload_n hx hb dX2_restore_0 rfl (lv_at hl 0 rfl) ?_
  refine lv_aload_n hx hb dX2_restore_1 rfl (lv_at hl 0 rfl) ?_
  refine kx_get (v := .int (nI (nx))) hx hb hts hinX2 hown hK hWho rfl 1 (by decide) (by decide +kernel) rfl dX2_restore_2 ?_
  refine lv_iconst (v := nI 4) hx hb dX2_restore_5 (by decide) ?_
  refine kn_add hx hb dX2_restore_6 ?_
  refine lv_iconst (v := nI 1) hx hb dX2_restore_7 (by decide) ?_
  refine kn_sub hx hb (by omega) dX2_restore_8 ?_
  refine lv_iconst (v := nI 4) hx hb dX2_restore_9 (by decide) ?_
  refine kn_rem hx hb (by omega) (by omega) (by omega) dX2_restore_10 ?_
  refine kx_ci (x := nI ((nx + 4 - 1) % 4)) (y := nI (p9)) (congrArg nI (by omega)) ?_
  refine kx_put hx hb hts hinX2 tyX2_ok nmX2 hown hK hWho rfl hS (Or.inl ⟨by omega, by omega⟩) 1 (by decide) (by decide +kernel) rfl rfl rfl (Nat.le_of_ble_eq_true rfl) dX2_restore_11 (fun H locs hc hU hS => ?_)
  have hWho : va_at D vwCl (hq, .inr (1, [.ref (hq + 1), .int (nI (p9)), .int (nI (cn))])) H := hc
  have hWfam := (fun i h1 h2 => (hWfam i h1 h2).off hU (by omega))
  have hWha := hWha.kept (hU.2 _ (by omega))
  have hM := hM.off hU (by omega)
  have hM2 := hM2.off hU (by omega)
  clear hc hU
  refine lv_aload_n hx hb dX2_restore_14 rfl (lv_at hl 1 rfl) ?_
  refine lv_aload_n hx hb dX2_restore_15 rfl (lv_at hl 0 rfl) ?_
  refine kx_get (v := .ref (hq + 1)) hx hb hts hinX2 hown hK hWho rfl 0 (by decide) (by decide +kernel) rfl dX2_restore_16 ?_
  refine lv_aload_n hx hb dX2_restore_19 rfl (lv_at hl 0 rfl) ?_
  refine kx_get (v := .int (nI (p9))) hx hb hts hinX2 hown hK hWho rfl 1 (by decide) (by decide +kernel) rfl dX2_restore_20 ?_
  refine kx_aald (i := p9) hx hb hK hWha 4 rfl (by omega) (by decide) rfl dX2_restore_23 ?_
  refine kx_retM (va_runV (As := [.ref (hq + 2 + 59 * p9)]) (rest := []) ⟨hx, hb, hml, hown, hts⟩ (k_X5_copyFrom l D cs q e g (hq + 2 + 59 * p9) ((se p9)) ((sg p9)) hI2 (by omega)) (cwV 1 hts gX2_restore_X5_copyFrom rfl rfl rfl (by decide +kernel) ⟨Nat.le_of_ble_eq_true rfl, Nat.le_of_ble_eq_true rfl⟩) (kx_preV hK hN hM.obj rfl ⟨hM, hM2⟩) rfl rfl hl.1 rfl (lv_room (Nat.le_of_ble_eq_true rfl)) dX2_restore_24 ⟨Nat.le_of_ble_eq_true rfl, Nat.le_of_ble_eq_true rfl⟩) hS (fun x _ h => (by first | exact h | exact ⟨by have h1 := h.1; have h2 := h.2; omega, by have h1 := h.1; have h2 := h.2; omega⟩ | (rcases h with h | h <;> exact ⟨by have h1 := h.1; have h2 := h.2; omega, by have h1 := h.1; have h2 := h.2; omega⟩) | exact Or.inl ⟨by have h1 := h.1; have h2 := h.2; omega, by have h1 := h.1; have h2 := h.2; omega⟩ | exact Or.inr ⟨by have h1 := h.1; have h2 := h.2; omega, by have h1 := h.1; have h2 := h.2; omega⟩)) (fun x h => (by first | exact h | exact ⟨by have h1 := h.1; have h2 := h.2; omega, by have h1 := h.1; have h2 := h.2; omega⟩ | (rcases h with h | h <;> exact ⟨by have h1 := h.1; have h2 := h.2; omega, by have h1 := h.1; have h2 := h.2; omega⟩) | exact Or.inl ⟨by have h1 := h.1; have h2 := h.2; omega, by have h1 := h.1; have h2 := h.2; omega⟩ | exact Or.inr ⟨by have h1 := h.1; have h2 := h.2; omega, by have h1 := h.1; have h2 := h.2; omega⟩)) (fun H locs hMN hk hS => ?_)
  have hWfam := (fun i h1 h2 => (hWfam i h1 h2).frame hk (fun x h5 h6 h => by have h3 := h.1; have h4 := h.2; omega))
  have hWha := hWha.kept (hk.2 _ hWha.lt (fun h => by first | (have h3 := h.1; have h4 := h.2; omega) | (rcases h with h | h <;> (have h3 := h.1; have h4 := h.2; omega))))
  have hWho := hWho.kept (hk.2 _ hWho.lt (fun h => by first | (have h3 := h.1; have h4 := h.2; omega) | (rcases h with h | h <;> (have h3 := h.1; have h4 := h.2; omega))))
  have hM2 := hM2.frame hk (fun x h1 h2 h => by first | (have h3 := h.1; have h4 := h.2; omega) | (rcases h with h | h <;> (have h3 := h.1; have h4 := h.2; omega)))
  have hM := hMN
  clear hk hMN
  refine lv_aload_n hx hb dX2_restore_27 rfl (lv_at hl 0 rfl) ?_
  refine lv_dup hx hb dX2_restore_28 rfl ?_
  refine kx_get (v := .int (nI (cn))) hx hb hts hinX2 hown hK hWho rfl 2 (by decide) (by decide +kernel) rfl dX2_restore_29 ?_
  refine lv_iconst (v := nI 1) hx hb dX2_restore_32 (by decide) ?_
  refine kn_sub hx hb (by omega) dX2_restore_33 ?_
  refine kx_put hx hb hts hinX2 tyX2_ok nmX2 hown hK hWho rfl hS (Or.inl ⟨by omega, by omega⟩) 2 (by decide) (by decide +kernel) rfl rfl rfl (Nat.le_of_ble_eq_true rfl) dX2_restore_34 (fun H locs hc hU hS => ?_)
  have hWho : va_at D vwCl (hq, .inr (1, [.ref (hq + 1), .int (nI (p9)), .int (nI (cn - 1))])) H := hc
  have hWfam := (fun i h1 h2 => (hWfam i h1 h2).off hU (by omega))
  have hWha := hWha.kept (hU.2 _ (by omega))
  have hM := hM.off hU (by omega)
  have hM2 := hM2.off hU (by omega)
  clear hc hU
  refine lv_aload_n hx hb dX2_restore_37 rfl (lv_at hl 0 rfl) ?_
  refine kx_get (v := .int (nI (cn - 1))) hx hb hts hinX2 hown hK hWho rfl 2 (by decide) (by decide +kernel) rfl dX2_restore_38 ?_
  exact kx_iretM hx hb hrt hlk rfl ⟨HiC.mk2 hWho hWha hWfam hM2, hM⟩ hS dX2_restore_41
