set_option maxHeartbeats 2500000 in
set_option maxRecDepth 100000 in
theorem k_X7_runCommands (l : Launch) (D : va_G) (cs : Nat → ClassId) (x : Nat) (e : Nat → Int32) (g : Nat → Int64) (e1 : Nat → Int32) (g1 : Nat → Int64) (nx cn : Nat) (se : Nat → Nat → Int32) (sg : Nat → Nat → Int64) (b nn : Nat → Int32) (wd ln pa : Nat) (ft : Int32) (L : Nat) (aW aS aV : Nat → Nat) (tW tM : Nat) (k0 : Nat) (hk8 : k0 < 8) (hwd : wd = aW k0) (hI : Inv e) (hG : Msk e g) (hnx : nx < 4) (hcn : cn ≤ 4) (hl150 : ln ≤ 150) (hL : L ≤ x) : Met l yX7_runCommands wsX7_runCommands ({ frames := 9, cells := 0, slots := 0, locals := 199 } : Room) (PcW D cs L aW aS aV tW tM [.ref (x)] (fun H => HrC D cs x e g e1 g1 nx cn se sg b nn wd ln pa ft H)) (QcM (some (.int (rcC e b ln))) (fun H => ∃ e' : Nat → Int32, ∃ g' : Nat → Int64, ∃ nx' : Nat, ∃ cn' : Nat, ∃ se' : Nat → Nat → Int32, ∃ sg' : Nat → Nat → Int64, ∃ nn' : Nat → Int32, ∃ k' : Nat, ∃ pa' : Nat, ∃ ft' : Int32, RcC e g nx cn se sg b ln e' g' nx' cn' se' sg' ∧ k' < 8 ∧ pa' ≤ ln ∧ HrC D cs x e' g' e1 g1 nx' cn' se' sg' b nn' ((aW k')) ln pa' ft' H) (rgR x)) 0 0 ((rgR x)) := by
  refine kx_metW (cc := cX7_runCommands) (maxL := 3) (ret := (some .int)) (by decide) rfl (Nat.le_of_ble_eq_true rfl) ?_
  intro p en s m args below meth c hx hb hml hrt hts hown hlk hK hN hW hP ls hl
  have hl : lv_has ls 3 [(0, .ref (x))] := hl
  obtain ⟨H, hHe⟩ : ∃ H : Heap, H = s.heap := ⟨_, rfl⟩
  rw [← hHe] at hP ⊢
  have hS : va_S ((rgR x)) s.heap H [] := by rw [← hHe]; exact va_S.rf
  have hinX1 : ∀ w ∈ wsX10, w ∈ wsX7_runCommands := by decide +kernel
  have hinX7 : ∀ w ∈ wsX70, w ∈ wsX7_runCommands := by decide +kernel
  have hAL : ∀ y9, (rgR x) y9 → L ≤ y9 := (fun x h => Nat.le_trans hL h.1)
  have hWn := hW.narrow hAL
  obtain ⟨hWro, hM, hM2, hWhi, hWto, hWtb, hWtn⟩ := hP
  have h24 := hI.M24
  have h6 := hI.R6
  refine lv_aload_n hx hb dX7_runCommands_0 rfl (lv_at hl 0 rfl) ?_
  refine kx_get (v := .ref (x + 357)) hx hb hts hinX7 hown hK hWro rfl 3 (by decide) (by decide +kernel) rfl dX7_runCommands_1 ?_
  refine kx_retM (va_runV (As := []) (rest := []) ⟨hx, hb, hml, hown, hts⟩ (k_X1_findFaultU l D cs (x + 357) b nn wd ln pa ft L aW aS aV tW tM k0 hk8 hwd (Nat.le_trans hL (by omega)) hl150) (cwV 0 hts gX7_runCommands_X1_findFault rfl rfl rfl (by decide +kernel) ⟨Nat.le_of_ble_eq_true rfl, Nat.le_of_ble_eq_true rfl⟩) (kx_preWV hK hN (hW.keptS hS hAL) hWto rfl ⟨hWto, hWtb, hWtn⟩) rfl rfl hl.1 rfl (lv_room (Nat.le_of_ble_eq_true rfl)) dX7_runCommands_4 ⟨Nat.le_of_ble_eq_true rfl, Nat.le_of_ble_eq_true rfl⟩) hS (fun x _ h => (by first | exact h | (have h1 := h.1; have h2 := h.2; exact ⟨by omega, by omega⟩) | (rcases h with h | h <;> (have h1 := h.1; have h2 := h.2; exact ⟨by omega, by omega⟩)))) (fun x h => (by first | exact h | (have h1 := h.1; have h2 := h.2; exact ⟨by omega, by omega⟩) | (rcases h with h | h <;> (have h1 := h.1; have h2 := h.2; exact ⟨by omega, by omega⟩)))) (fun H locs hMN hk hS => ?_)
  have hWhi := hWhi.frame hk (fun x h1 h2 h => by first | (have h3 := h.1; have h4 := h.2; omega) | (rcases h with h | h <;> (have h3 := h.1; have h4 := h.2; omega)))
  have hWro := hWro.kept (hk.2 _ hWro.lt (fun h => by first | (have h3 := h.1; have h4 := h.2; omega) | (rcases h with h | h <;> (have h3 := h.1; have h4 := h.2; omega))))
  have hM := hM.frame hk (fun x h1 h2 h => by first | (have h3 := h.1; have h4 := h.2; omega) | (rcases h with h | h <;> (have h3 := h.1; have h4 := h.2; omega)))
  have hM2 := hM2.frame hk (fun x h1 h2 h => by first | (have h3 := h.1; have h4 := h.2; omega) | (rcases h with h | h <;> (have h3 := h.1; have h4 := h.2; omega)))
  obtain ⟨nn1, k1, pa1, ft1, hk1, hp1, hWto, hWtb, hWtn⟩ := hMN
  clear hk
  refine lv_istore_n (lv' := [(1, .int (ftI b ln)), (0, .ref (x))]) hx hb dX7_runCommands_7 rfl hl (by decide) rfl (fun ls hl => ?_)
  refine lv_iload_n hx hb dX7_runCommands_8 rfl (lv_at hl 0 rfl) ?_
  refine lv_iconst (v := -1) hx hb dX7_runCommands_9 (by decide) ?_
  refine lv_icmp_eq (tgt := 18) hx hb dX7_runCommands_10 (by decide) (fun hft => ?_) (fun hft => ?_)
  · have hno := (ftI_m1 hl150).mp hft
    refine lv_aload_n hx hb dX7_runCommands_18 rfl (lv_at hl 1 rfl) ?_
    refine kx_get (v := .ref (x + 119)) hx hb hts hinX7 hown hK hWro rfl 2 (by decide) (by decide +kernel) rfl dX7_runCommands_19 ?_
    refine lv_aload_n hx hb dX7_runCommands_22 rfl (lv_at hl 1 rfl) ?_
    refine kx_get (v := .ref (x + 1)) hx hb hts hinX7 hown hK hWro rfl 0 (by decide) (by decide +kernel) rfl dX7_runCommands_23 ?_
    refine kx_retM (va_runV (As := [.ref (x + 1)]) (rest := []) ⟨hx, hb, hml, hown, hts⟩ (k_X2_save l D cs (x + 119) nx cn se sg (x + 1) e g hI (Or.inr (by omega)) hnx hcn) (cwV 1 hts gX7_runCommands_X2_save rfl rfl rfl (by decide +kernel) ⟨Nat.le_of_ble_eq_true rfl, Nat.le_of_ble_eq_true rfl⟩) (kx_preV hK hN hWhi.obj rfl ⟨hWhi, hM⟩) rfl rfl hl.1 rfl (lv_room (Nat.le_of_ble_eq_true rfl)) dX7_runCommands_26 ⟨Nat.le_of_ble_eq_true rfl, Nat.le_of_ble_eq_true rfl⟩) hS (fun x _ h => (by first | exact h | (have h1 := h.1; have h2 := h.2; exact ⟨by omega, by omega⟩) | (rcases h with h | h <;> (have h1 := h.1; have h2 := h.2; exact ⟨by omega, by omega⟩)))) (fun x h => (by first | exact h | (have h1 := h.1; have h2 := h.2; exact ⟨by omega, by omega⟩) | (rcases h with h | h <;> (have h1 := h.1; have h2 := h.2; exact ⟨by omega, by omega⟩)))) (fun H locs hMN hk hS => ?_)
    have hWro := hWro.kept (hk.2 _ hWro.lt (fun h => by first | (have h3 := h.1; have h4 := h.2; omega) | (rcases h with h | h <;> (have h3 := h.1; have h4 := h.2; omega))))
    have hM := hM.frame hk (fun x h1 h2 h => by first | (have h3 := h.1; have h4 := h.2; omega) | (rcases h with h | h <;> (have h3 := h.1; have h4 := h.2; omega)))
    have hM2 := hM2.frame hk (fun x h1 h2 h => by first | (have h3 := h.1; have h4 := h.2; omega) | (rcases h with h | h <;> (have h3 := h.1; have h4 := h.2; omega)))
    have hWtb := hWtb.kept (hk.2 _ hWtb.lt (fun h => by first | (have h3 := h.1; have h4 := h.2; omega) | (rcases h with h | h <;> (have h3 := h.1; have h4 := h.2; omega))))
    have hWtn := hWtn.kept (hk.2 _ hWtn.lt (fun h => by first | (have h3 := h.1; have h4 := h.2; omega) | (rcases h with h | h <;> (have h3 := h.1; have h4 := h.2; omega))))
    have hWto := hWto.kept (hk.2 _ hWto.lt (fun h => by first | (have h3 := h.1; have h4 := h.2; omega) | (rcases h with h | h <;> (have h3 := h.1; have h4 := h.2; omega))))
    have hWhi := hMN
    clear hk hMN
    refine lv_aload_n hx hb dX7_runCommands_29 rfl (lv_at hl 1 rfl) ?_
    refine kx_get (v := .ref (x + 357)) hx hb hts hinX7 hown hK hWro rfl 3 (by decide) (by decide +kernel) rfl dX7_runCommands_30 ?_
    refine kx_retM (va_runV (As := []) (rest := []) ⟨hx, hb, hml, hown, hts⟩ (k_X1_rewindU l D cs (x + 357) b nn1 ((aW k1)) ln pa1 ft1 hl150) (cwV 0 hts gX7_runCommands_X1_rewind rfl rfl rfl (by decide +kernel) ⟨Nat.le_of_ble_eq_true rfl, Nat.le_of_ble_eq_true rfl⟩) (kx_preV hK hN hWto rfl ⟨hWto, hWtb, hWtn⟩) rfl rfl hl.1 rfl (lv_room (Nat.le_of_ble_eq_true rfl)) dX7_runCommands_33 ⟨Nat.le_of_ble_eq_true rfl, Nat.le_of_ble_eq_true rfl⟩) hS (fun x _ h => (by first | exact h | (have h1 := h.1; have h2 := h.2; exact ⟨by omega, by omega⟩) | (rcases h with h | h <;> (have h1 := h.1; have h2 := h.2; exact ⟨by omega, by omega⟩)))) (fun x h => (by first | exact h | (have h1 := h.1; have h2 := h.2; exact ⟨by omega, by omega⟩) | (rcases h with h | h <;> (have h1 := h.1; have h2 := h.2; exact ⟨by omega, by omega⟩)))) (fun H locs hMN hk hS => ?_)
    have hWhi := hWhi.frame hk (fun x h1 h2 h => by first | (have h3 := h.1; have h4 := h.2; omega) | (rcases h with h | h <;> (have h3 := h.1; have h4 := h.2; omega)))
    have hWro := hWro.kept (hk.2 _ hWro.lt (fun h => by first | (have h3 := h.1; have h4 := h.2; omega) | (rcases h with h | h <;> (have h3 := h.1; have h4 := h.2; omega))))
    have hM := hM.frame hk (fun x h1 h2 h => by first | (have h3 := h.1; have h4 := h.2; omega) | (rcases h with h | h <;> (have h3 := h.1; have h4 := h.2; omega)))
    have hM2 := hM2.frame hk (fun x h1 h2 h => by first | (have h3 := h.1; have h4 := h.2; omega) | (rcases h with h | h <;> (have h3 := h.1; have h4 := h.2; omega)))
    obtain ⟨hWto, hWtb, hWtn⟩ := hMN
    clear hk
    refine lv_iconst (v := nI 0) hx hb dX7_runCommands_36 (by decide) ?_
    refine lv_istore_n (lv' := [(2, .int (nI (0))), (1, .int (ftI b ln)), (0, .ref (x))]) hx hb dX7_runCommands_37 rfl hl (by decide) rfl (fun ls hl => ?_)
    have J38 : ∀ (fu38 : Nat) (k : Nat) (ek : Nat → Int32) (gk : Nat → Int64) (nnc : Nat → Int32) (kc : Nat) (pac : Nat) (ftc : Int32) (H : Heap) (locs : List Loc) (ls : Array Slot), (ccN b ln - k) < fu38 → (k ≤ ccN b ln) → (∀ i, i < k → cmW (xc e b ln i) b ln (cpq b ln i) = 0) → (EI (xc e b ln k) ek) → (Msk ek gk) → (kc < 8) → (pac ≤ ln) → (skp b ln pac = cpq b ln k) → (HiC D cs (x + 119) (((nx + 1) % 4)) ((min (cn + 1) 4)) ((hsE se nx (cfF (se nx) e))) ((hsG sg nx (cgM (sg nx) g (Mn e)))) H) → (va_at D vwCl (x, .inr (5, [.ref (x + 1), .ref (x + 60), .ref (x + 119), .ref (x + 357)])) H) → (StC D cs (x + 1) ek gk H) → (StC D cs (x + 60) e1 g1 H) → (va_at D vwCl (x + 357 + 1, .inl (cs 1, 150, .inl b)) H) → (va_at D vwCl (x + 357 + 2, .inl (cs 0, 5, .inl nnc)) H) → (va_at D vwCl (x + 357, .inr (0, [.ref (x + 357 + 1), .ref (x + 357 + 2), .ref (aW kc), .int (nI (ln)), .int (nI (pac)), .int (ftc)])) H) → va_S ((rgR x)) s.heap H locs → lv_has ls 3 [(0, .ref (x)), (1, .int (ftI b ln)), (2, .int (nI (k)))] → W p l en ({ frames := 9, cells := 0, slots := 0, locals := 199 } : Room) s m args below meth c H locs 0 0 (MQ below (QcM (some (.int (rcC e b ln))) (fun H => ∃ e' : Nat → Int32, ∃ g' : Nat → Int64, ∃ nx' : Nat, ∃ cn' : Nat, ∃ se' : Nat → Nat → Int32, ∃ sg' : Nat → Nat → Int64, ∃ nn' : Nat → Int32, ∃ k' : Nat, ∃ pa' : Nat, ∃ ft' : Int32, RcC e g nx cn se sg b ln e' g' nx' cn' se' sg' ∧ k' < 8 ∧ pa' ≤ ln ∧ HrC D cs x e' g' e1 g1 nx' cn' se' sg' b nn' ((aW k')) ln pa' ft' H) (rgR x)) args s 0 0 ((rgR x))) (F0 m 38 ls []) := by
      intro fu38; induction fu38 with
      | zero => intro k ek gk nnc kc pac ftc H locs ls hmu38 hk h0 hE hGk hkc hpac hsk hWhi hWro hM hM2 hWtb hWtn hWto hS hl; exact absurd hmu38 (Nat.not_lt_zero _)
      | succ fu38 ih38 =>
        intro k ek gk nnc kc pac ftc H locs ls hmu38 hk h0 hE hGk hkc hpac hsk hWhi hWro hM hM2 hWtb hWtn hWto hS hl
        have hIk := ev_R hE
        have hcc := (ccN_lt (b := b) hl150).1
        refine lv_iload_n hx hb dX7_runCommands_38 rfl (lv_at hl 2 rfl) ?_
        refine lv_sipush (v := nI 150) hx hb dX7_runCommands_39 (by decide) ?_
        refine kn_icmp_ge (tgt := 82) hx hb dX7_runCommands_42 (by decide) (by omega) (by decide) (fun hge => ?_) (fun hge => ?_)
        · have hen := run_end hl150 hk h0 (Or.inl (by omega))
          refine lv_iload_n hx hb dX7_runCommands_82 rfl (lv_at hl 2 rfl) ?_
          exact kx_iretM hx hb hrt hlk (by unfold rcC; rw [if_neg hno, hen]) ⟨_, _, _, _, _, _, _, _, _, _, (by unfold RcC; rw [if_neg hno, hen]; exact ⟨hE, hGk, rfl, rfl, rfl, rfl⟩), hkc, hpac, hWro, hM, hM2, hWhi, hWto, hWtb, hWtn⟩ hS dX7_runCommands_83
        · refine lv_aload_n hx hb dX7_runCommands_45 rfl (lv_at hl 0 rfl) ?_
          refine kx_get (v := .ref (x + 357)) hx hb hts hinX7 hown hK hWro rfl 3 (by decide) (by decide +kernel) rfl dX7_runCommands_46 ?_
          refine kx_retM (va_runV (As := []) (rest := []) ⟨hx, hb, hml, hown, hts⟩ (k_X1_readCommand l D cs (x + 357) b nnc (aW kc) ln pac ftc L aW aS aV tW tM kc hkc rfl (Nat.le_trans hL (by omega)) hl150 hpac) (cwV 0 hts gX7_runCommands_X1_readCommand rfl rfl rfl (by decide +kernel) ⟨Nat.le_of_ble_eq_true rfl, Nat.le_of_ble_eq_true rfl⟩) (kx_preWV hK hN (hW.keptS hS hAL) hWto rfl ⟨hWto, hWtb, hWtn⟩) rfl rfl hl.1 rfl (lv_room (Nat.le_of_ble_eq_true rfl)) dX7_runCommands_49 ⟨Nat.le_of_ble_eq_true rfl, Nat.le_of_ble_eq_true rfl⟩) hS (fun x _ h => (by first | exact h | (have h1 := h.1; have h2 := h.2; exact ⟨by omega, by omega⟩) | (rcases h with h | h <;> (have h1 := h.1; have h2 := h.2; exact ⟨by omega, by omega⟩)))) (fun x h => (by first | exact h | (have h1 := h.1; have h2 := h.2; exact ⟨by omega, by omega⟩) | (rcases h with h | h <;> (have h1 := h.1; have h2 := h.2; exact ⟨by omega, by omega⟩)))) (fun H locs hMN hk hS => ?_)
          have hWhi := hWhi.frame hk (fun x h1 h2 h => by first | (have h3 := h.1; have h4 := h.2; omega) | (rcases h with h | h <;> (have h3 := h.1; have h4 := h.2; omega)))
          have hWro := hWro.kept (hk.2 _ hWro.lt (fun h => by first | (have h3 := h.1; have h4 := h.2; omega) | (rcases h with h | h <;> (have h3 := h.1; have h4 := h.2; omega))))
          have hM := hM.frame hk (fun x h1 h2 h => by first | (have h3 := h.1; have h4 := h.2; omega) | (rcases h with h | h <;> (have h3 := h.1; have h4 := h.2; omega)))
          have hM2 := hM2.frame hk (fun x h1 h2 h => by first | (have h3 := h.1; have h4 := h.2; omega) | (rcases h with h | h <;> (have h3 := h.1; have h4 := h.2; omega)))
          obtain ⟨nn1, k1, pa1, ft1, hk1, hp1, hrd, hWto, hWtb, hWtn⟩ := hMN
          clear hk
          rw [hsk] at hrd ⊢
          refine kb_if_eq (tgt := 82) hx hb dX7_runCommands_52 (by decide) (fun hgo => ?_) (fun hgo => ?_)
          · have hen := run_end hl150 hk h0 (Or.inr (Or.inl hgo))
            refine lv_iload_n hx hb dX7_runCommands_82 rfl (lv_at hl 2 rfl) ?_
            exact kx_iretM hx hb hrt hlk (by unfold rcC; rw [if_neg hno, hen]) ⟨_, _, _, _, _, _, _, _, _, _, (by unfold RcC; rw [if_neg hno, hen]; exact ⟨hE, hGk, rfl, rfl, rfl, rfl⟩), hk1, hp1, hWro, hM, hM2, hWhi, hWto, hWtb, hWtn⟩ hS dX7_runCommands_83
          · have hlt := run_lt hl150 hk hgo
            have hst := rd_args hrd hgo hE
            have hGc := cr_msk hIk hGk hk1 (nn1 0) (nn1 1) (nn1 2) (nn1 3) (nn1 4)
            refine lv_aload_n hx hb dX7_runCommands_55 rfl (lv_at hl 0 rfl) ?_
            refine lv_aload_n hx hb dX7_runCommands_56 rfl (lv_at hl 0 rfl) ?_
            refine kx_get (v := .ref (x + 357)) hx hb hts hinX7 hown hK hWro rfl 3 (by decide) (by decide +kernel) rfl dX7_runCommands_57 ?_
            refine kx_get (v := .ref ((aW k1))) hx hb hts hinX1 hown hK hWto rfl 2 (by decide) (by decide +kernel) rfl dX7_runCommands_60 ?_
            refine lv_aload_n hx hb dX7_runCommands_63 rfl (lv_at hl 0 rfl) ?_
            refine kx_get (v := .ref (x + 357)) hx hb hts hinX7 hown hK hWro rfl 3 (by decide) (by decide +kernel) rfl dX7_runCommands_64 ?_
            refine kx_get (v := .ref (x + 357 + 2)) hx hb hts hinX1 hown hK hWto rfl 1 (by decide) (by decide +kernel) rfl dX7_runCommands_67 ?_
            refine kx_retM (va_runV (As := [.ref ((aW k1)), .ref (x + 357 + 2)]) (rest := []) ⟨hx, hb, hml, hown, hts⟩ (k_X7_carryOut l D cs x ek gk e1 g1 (((nx + 1) % 4)) ((min (cn + 1) 4)) ((hsE se nx (cfF (se nx) e))) ((hsG sg nx (cgM (sg nx) g (Mn e)))) b nn1 ((aW k1)) ln pa1 ft1 L aW aS aV tW tM k1 hk1 hIk hGk hL) (cwV 2 hts gX7_runCommands_X7_carryOut rfl rfl rfl (by decide +kernel) ⟨Nat.le_of_ble_eq_true rfl, Nat.le_of_ble_eq_true rfl⟩) (kx_preWV hK hN (hW.keptS hS hAL) hWro rfl ⟨hWro, hM, hM2, hWhi, hWto, hWtb, hWtn⟩) rfl rfl hl.1 rfl (lv_room (Nat.le_of_ble_eq_true rfl)) dX7_runCommands_70 ⟨Nat.le_of_ble_eq_true rfl, Nat.le_of_ble_eq_true rfl⟩) hS (fun x _ h => (by first | exact h | (have h1 := h.1; have h2 := h.2; exact ⟨by omega, by omega⟩) | (rcases h with h | h <;> (have h1 := h.1; have h2 := h.2; exact ⟨by omega, by omega⟩)))) (fun x h => (by first | exact h | (have h1 := h.1; have h2 := h.2; exact ⟨by omega, by omega⟩) | (rcases h with h | h <;> (have h1 := h.1; have h2 := h.2; exact ⟨by omega, by omega⟩)))) (fun H locs hMN hk hS => ?_)
            obtain ⟨hWro, hM, hM2, hWhi, hWto, hWtb, hWtn⟩ := hMN
            clear hk
            refine kb_if_eq (tgt := 82) hx hb dX7_runCommands_73 (by decide) (fun hcw => ?_) (fun hcw => ?_)
            · replace hcw := of_decide_eq_false hcw
              have hen := run_end hl150 hk h0 (Or.inr (Or.inr ⟨fun q => hcw (hst.2.1.trans q), hgo⟩))
              refine lv_iload_n hx hb dX7_runCommands_82 rfl (lv_at hl 2 rfl) ?_
              exact kx_iretM hx hb hrt hlk (by unfold rcC; rw [if_neg hno, hen]) ⟨_, _, _, _, _, _, _, _, _, _, (by unfold RcC; rw [if_neg hno, hen]; exact ⟨(by rw [crN hcw]; exact hE), hGc, rfl, rfl, rfl, rfl⟩), hk1, hp1, hWro, hM, hM2, hWhi, hWto, hWtb, hWtn⟩ hS dX7_runCommands_83
            · replace hcw := of_decide_eq_true hcw
              refine lv_iinc (v := nI (k + 1)) (lv' := [(2, .int (nI (k + 1))), (0, .ref (x)), (1, .int (ftI b ln))]) (k := 2) hx hb dX7_runCommands_76 hl rfl (nI_add _ _) (by decide) rfl (fun ls hl => ?_)
              refine lv_goto (tgt := 38) hx hb dX7_runCommands_79 (by decide) ?_
              exact ih38 (k + 1) ((crF ek k1 (nn1 0) (nn1 1) (nn1 2) (nn1 3) (nn1 4))) ((cgX ek gk k1 (nn1 0) (nn1 1) (nn1 2) (nn1 3) (nn1 4))) nn1 k1 pa1 ft1 _ _ _ (by omega) (by omega) (fun i hi => by rcases Nat.lt_succ_iff_lt_or_eq.mp hi with q | q; exact h0 i q; subst q; exact hst.2.1.symm.trans hcw) hst.1 hGc hk1 hp1 hst.2.2 hWhi hWro hM hM2 hWtb hWtn hWto hS (lv_sub hl [1, 2, 0] rfl)
    exact J38 _ 0 e g nn1 k1 0 ((-1)) _ _ _ (Nat.lt_succ_self _) (Nat.zero_le _) (fun i hi => absurd hi (Nat.not_lt_zero i)) ⟨Eqv.rf, hI⟩ hG hk1 (Nat.zero_le _) rfl hWhi hWro hM hM2 hWtb hWtn hWto hS (lv_sub hl [2, 1, 0] rfl)
  · have hyes : cpq b ln (ccN b ln) < ln := Decidable.not_not.mp (fun q => hft ((ftI_m1 hl150).mpr q))
    refine lv_bipush (v := -10) hx hb dX7_runCommands_13 (by decide) ?_
    refine lv_iload_n hx hb dX7_runCommands_15 rfl (lv_at hl 0 rfl) ?_
    refine lv_isub hx hb dX7_runCommands_16 ?_
    exact kx_iretM hx hb hrt hlk (by unfold rcC ftI; rw [if_pos hyes, if_pos hyes]) ⟨e, g, nx, cn, se, sg, _, _, _, _, (by unfold RcC; rw [if_pos hyes]; exact ⟨rfl, rfl, rfl, rfl, rfl, rfl⟩), hk1, hp1, hWro, hM, hM2, hWhi, hWto, hWtb, hWtn⟩ hS dX7_runCommands_17
