set_option maxHeartbeats 2500000 in
set_option maxRecDepth 100000 in
theorem k_X2_save (l : Launch) (D : va_G) (cs : Nat → ClassId) (hq nx cn : Nat) (se : Nat → Nat → Int32) (sg : Nat → Nat → Int64) (q : Nat) (e : Nat → Int32) (g : Nat → Int64) (hI2 : Inv e) (hd : hq + 238 ≤ q ∨ q + 59 ≤ hq) (hnx : nx < 4) (hcn : cn ≤ 4) : Met l yX2_save wsX2_save ({ frames := 3, cells := 0, slots := 0, locals := 91 } : Room) (PcK D cs [.ref (hq), .ref (q)] (fun H => HiC D cs hq nx cn se sg H ∧ StC D cs q e g H)) (QcM none (fun H => HiC D cs hq (((nx + 1) % 4)) ((min (cn + 1) 4)) ((hsE se nx (cfF (se nx) e))) ((hsG sg nx (cgM (sg nx) g (Mn e)))) H) (rgH hq)) 0 0 ((rgH hq)) := by
  refine kx_met (cc := cX2_save) (maxL := 2) (ret := none) (by decide) rfl (Nat.le_of_ble_eq_true rfl) ?_
  intro p en s m args below meth c hx hb hml hrt hts hown hlk hK hN hP ls hl
  have hl : lv_has ls 2 [(0, .ref (hq)), (1, .ref (q))] := hl
  obtain ⟨H, hHe⟩ : ∃ H : Heap, H = s.heap := ⟨_, rfl⟩
  rw [← hHe] at hP ⊢
  have hS : va_S ((rgH hq)) s.heap H [] := by rw [← hHe]; exact va_S.rf
  have hinX2 : ∀ w ∈ wsX20, w ∈ wsX2_save := by decide +kernel
  have hWho := hP.1.1
  have hWha := hP.1.2.1
  have hWfam : ∀ i, i < 4 → i ≠ nx → StC D cs (hq + 2 + 59 * i) (se i) (sg i) H := fun i h1 _ => hP.1.2.2 i h1
  have hM := hP.1.2.2 nx hnx
  have hM2 := hP.2
  refine lv_aload_n hx hb dX2_save_0 rfl (lv_at hl 0 rfl) ?_
  refine kx_get (v := .ref (hq + 1)) hx hb hts hinX2 hown hK hWho rfl 0 (by decide) (by decide +kernel) rfl dX2_save_1 ?_
  refine lv_aload_n hx hb dX2_save_4 rfl (lv_at hl 0 rfl) ?_
  refine kx_get (v := .int (nI (nx))) hx hb hts hinX2 hown hK hWho rfl 1 (by decide) (by decide +kernel) rfl dX2_save_5 ?_
  refine kx_aald (i := nx) hx hb hK hWha 4 rfl (by omega) (by decide) rfl dX2_save_8 ?_
  refine lv_aload_n hx hb dX2_save_9 rfl (lv_at hl 1 rfl) ?_
  refine kx_retM (va_runV (As := [.ref (q)]) (rest := []) ⟨hx, hb, hml, hown, hts⟩ (k_X5_copyFrom l D cs (hq + 2 + 59 * nx) ((se nx)) ((sg nx)) q e g hI2 (by omega)) (cwV 1 hts gX2_save_X5_copyFrom rfl rfl rfl (by decide +kernel) ⟨Nat.le_of_ble_eq_true rfl, Nat.le_of_ble_eq_true rfl⟩) (kx_preV hK hN hM.obj rfl ⟨hM, hM2⟩) rfl rfl hl.1 rfl (lv_room (Nat.le_of_ble_eq_true rfl)) dX2_save_10 ⟨Nat.le_of_ble_eq_true rfl, Nat.le_of_ble_eq_true rfl⟩) hS (fun x _ h => (by first | exact h | exact ⟨by have h1 := h.1; have h2 := h.2; omega, by have h1 := h.1; have h2 := h.2; omega⟩ | (rcases h with h | h <;> exact ⟨by have h1 := h.1; have h2 := h.2; omega, by have h1 := h.1; have h2 := h.2; omega⟩) | exact Or.inl ⟨by have h1 := h.1; have h2 := h.2; omega, by have h1 := h.1; have h2 := h.2; omega⟩ | exact Or.inr ⟨by have h1 := h.1; have h2 := h.2; omega, by have h1 := h.1; have h2 := h.2; omega⟩)) (fun x h => (by first | exact h | exact ⟨by have h1 := h.1; have h2 := h.2; omega, by have h1 := h.1; have h2 := h.2; omega⟩ | (rcases h with h | h <;> exact ⟨by have h1 := h.1; have h2 := h.2; omega, by have h1 := h.1; have h2 := h.2; omega⟩) | exact Or.inl ⟨by have h1 := h.1; have h2 := h.2; omega, by have h1 := h.1; have h2 := h.2; omega⟩ | exact Or.inr ⟨by have h1 := h.1; have h2 := h.2; omega, by have h1 := h.1; have h2 := h.2; omega⟩)) (fun H locs hMN hk hS => ?_)
  have hWfam := (fun i h1 h2 => (hWfam i h1 h2).frame hk (fun x h5 h6 h => by have h3 := h.1; have h4 := h.2; omega))
  have hWha := hWha.kept (hk.2 _ hWha.lt (fun h => by first | (have h3 := h.1; have h4 := h.2; omega) | (rcases h with h | h <;> (have h3 := h.1; have h4 := h.2; omega))))
  have hWho := hWho.kept (hk.2 _ hWho.lt (fun h => by first | (have h3 := h.1; have h4 := h.2; omega) | (rcases h with h | h <;> (have h3 := h.1; have h4 := h.2; omega))))
  have hM2 := hM2.frame hk (fun x h1 h2 h => by first | (have h3 := h.1; have h4 := h.2; omega) | (rcases h with h | h <;> (have h3 := h.1; have h4 := h.2; omega)))
  have hM := hMN
  clear hk hMN
  refine lv_aload_n hx hb dX2_save_13 rfl (lv_at hl 0 rfl) ?_
  refine lv_aload_n hx hb dX2_save_14 rfl (lv_at hl 0 rfl) ?_
  refine kx_get (v := .int (nI (nx))) hx hb hts hinX2 hown hK hWho rfl 1 (by decide) (by decide +kernel) rfl dX2_save_15 ?_
  refine lv_iconst (v := nI 1) hx hb dX2_save_18 (by decide) ?_
  refine kn_add hx hb dX2_save_19 ?_
  refine lv_iconst (v := nI 4) hx hb dX2_save_20 (by decide) ?_
  refine kn_rem hx hb (by omega) (by omega) (by omega) dX2_save_21 ?_
  refine kx_put hx hb hts hinX2 tyX2_ok nmX2 hown hK hWho rfl hS ⟨by omega, by omega⟩ 1 (by decide) (by decide +kernel) rfl rfl rfl (Nat.le_of_ble_eq_true rfl) dX2_save_22 (fun H locs hc hU hS => ?_)
  have hWho : va_at D vwCl (hq, .inr (1, [.ref (hq + 1), .int (nI ((nx + 1) % 4)), .int (nI (cn))])) H := hc
  have hWfam := (fun i h1 h2 => (hWfam i h1 h2).off hU (by omega))
  have hWha := hWha.kept (hU.2 _ (by omega))
  have hM := hM.off hU (by omega)
  have hM2 := hM2.off hU (by omega)
  clear hc hU
  refine lv_aload_n hx hb dX2_save_25 rfl (lv_at hl 0 rfl) ?_
  refine lv_aload_n hx hb dX2_save_26 rfl (lv_at hl 0 rfl) ?_
  refine kx_get (v := .int (nI (cn))) hx hb hts hinX2 hown hK hWho rfl 2 (by decide) (by decide +kernel) rfl dX2_save_27 ?_
  refine lv_iconst (v := nI 1) hx hb dX2_save_30 (by decide) ?_
  refine kn_add hx hb dX2_save_31 ?_
  refine lv_iconst (v := nI 4) hx hb dX2_save_32 (by decide) ?_
  refine kn_min hx hb (hml.trans hl.1.symm) hown (hts (.methodLink RX2 29 Lib.Math.min.name) (by decide +kernel)) (hts (.static Lib.Math.min.name) (by decide +kernel)) (hts (.initialized "java/lang/Math") (by decide +kernel)) (hts (.code Lib.Math.min.name Lib.Math.min.code 2 (some .int)) (by decide +kernel)) (Nat.le_of_ble_eq_true rfl) (Nat.le_of_ble_eq_true rfl) (Nat.le_of_ble_eq_true rfl) (Nat.le_of_ble_eq_true rfl) (by omega) (by omega) dX2_save_33 ?_
  refine kx_put hx hb hts hinX2 tyX2_ok nmX2 hown hK hWho rfl hS ⟨by omega, by omega⟩ 2 (by decide) (by decide +kernel) rfl rfl rfl (Nat.le_of_ble_eq_true rfl) dX2_save_36 (fun H locs hc hU hS => ?_)
  have hWho : va_at D vwCl (hq, .inr (1, [.ref (hq + 1), .int (nI ((nx + 1) % 4)), .int (nI (min (cn + 1) 4))])) H := hc
  have hWfam := (fun i h1 h2 => (hWfam i h1 h2).off hU (by omega))
  have hWha := hWha.kept (hU.2 _ (by omega))
  have hM := hM.off hU (by omega)
  have hM2 := hM2.off hU (by omega)
  clear hc hU
  exact kx_vretM hx hb hrt hlk (HiC.mk hWho hWha hWfam hM) hS dX2_save_39
