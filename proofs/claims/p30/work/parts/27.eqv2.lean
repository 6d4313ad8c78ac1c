/-! the why-numbers of alike rows -/
theorem ls_of {x : Int32} {n : Nat} (hn : n < 2 ^ 30) (h : ¬ lsB x n = false) : ∃ k, k < n ∧ x = nI k := (lsB_iff hn).mp (bt_of h)
theorem ls_lt {x : Int32} {n : Nat} (hn : n < 2 ^ 30) (h : ¬ lsB x n = false) : nn x < n := by
  obtain ⟨k, hk, rfl⟩ := ls_of hn h
  rw [nn_nI (by omega)]; exact hk
section EI
variable {z y : Nat → Int32}
theorem ev_wrg (h : EI z y) (f ln pt : Int32) : wrg y f ln pt = wrg z f ln pt := by
  have e : wrgK y f ln (Rn z) = wrgK z f ln (Rn z) := by
    unfold wrgK; rw [h.R]
    refine foldN_cong _ (fun r w hr => ?_)
    unfold ovB; rw [h.1.rF hr, h.1.rL hr]
  unfold wrg; rw [h.R, e]
theorem ev_wmv (h : EI z y) (f fp t tp n : Int32) : wmv y f fp t tp n = wmv z f fp t tp n := by
  have h6 := h.2.R6
  unfold wmv; rw [h.R, h.M]
  by_cases h1 : lsB f (Rn z) = false ∨ lsB t (Rn z) = false
  · rw [if_pos h1, if_pos h1]
  · rw [if_neg h1, if_neg h1, h.1.rL (ls_lt (by omega) (fun q => h1 (Or.inl q))), h.1.rL (ls_lt (by omega) (fun q => h1 (Or.inr q)))]
theorem ev_wsg (h : EI z y) (x : Int32) : wsg y x = wsg z x := by
  have h6 := h.2.R6
  unfold wsg; rw [h.R, h.1.fci]
  by_cases h1 : lsB x (Rn z) = false
  · rw [if_pos h1, if_pos h1]
  · rw [if_neg h1, if_neg h1, h.1.2.1 _ 3 (ls_lt (by omega) h1) (by omega)]
theorem ev_wst (h : EI z y) (x w : Int32) : wst y x w = wst z x w := by
  have h6 := h.2.R6
  unfold wst; rw [h.R]
  by_cases h1 : lsB x (Rn z) = false
  · rw [if_pos h1, if_pos h1]
  · rw [if_neg h1, if_neg h1, h.1.2.1 _ 3 (ls_lt (by omega) h1) (by omega)]
theorem ev_wwr (h : EI z y) (x w : Int32) : wwr y x w = wwr z x w := by
  unfold wwr; rw [h.1.rs h.2]
theorem ev_wtk (h : EI z y) (x : Int32) : wtk y x = wtk z x := by
  unfold wtk; rw [h.1.1 0 (by omega)]
theorem ev_crW (h : EI z y) (kd : Nat) (a b c d e : Int32) : crW y kd a b c d e = crW z kd a b c d e := by
  unfold crW; rw [ev_wrg h, ev_wmv h, ev_wsg h, ev_wst h, ev_wst h, ev_wwr h, ev_wtk h]
end EI
/-! a new ring, a new move -/
theorem pr_at (z : Nat → Int32) (f ln pt : Int32) (j : Nat) : prF z f ln pt j = if j = 3 then nI (Rn z + 1) else if j = 56 + 4 * Rn z + 3 then nI 0 else if j = 56 + 4 * Rn z + 2 then pt else if j = 56 + 4 * Rn z + 1 then ln else if j = 56 + 4 * Rn z + 0 then f else z j := rfl
theorem pr_out (z : Nat → Int32) (f ln pt : Int32) {j : Nat} (h3 : j ≠ 3) (h : j < 56 + 4 * Rn z ∨ 56 + 4 * Rn z + 4 ≤ j) : prF z f ln pt j = z j := by
  rw [pr_at, if_neg h3, if_neg (by omega), if_neg (by omega), if_neg (by omega), if_neg (by omega)]
theorem pr_R (z : Nat → Int32) (f ln pt : Int32) (h : Rn z < 6) : Rn (prF z f ln pt) = Rn z + 1 := by
  show nn (prF z f ln pt 3) = _
  rw [pr_at, if_pos rfl, nn_nI (by omega)]
theorem pr_M (z : Nat → Int32) (f ln pt : Int32) : Mn (prF z f ln pt) = Mn z := acc_eq 4 (pr_out z f ln pt (by omega) (by omega))
theorem pr_inv {z : Nat → Int32} (hI : Inv z) {f ln pt : Int32} (hw : wrg z f ln pt = 0) : Inv (prF z f ln pt) := by
  have hR := wrg_0 hI hw
  have hM := hI.M24
  have eR := pr_R z f ln pt hR
  have eM := pr_M z f ln pt
  have o {j : Nat} (h3 : j ≠ 3) (h : j < 56 + 4 * Rn z ∨ 56 + 4 * Rn z + 4 ≤ j) := pr_out z f ln pt h3 h
  have eS : Sp (prF z f ln pt) = Sp z := acc_eq 1 (o (by omega) (by omega))
  obtain ⟨qf, ql, hqf, hl2, hl16, ef, el, h48⟩ : ∃ qf ql, qf < 48 ∧ 2 ≤ ql ∧ ql ≤ 16 ∧ f = nI qf ∧ ln = nI ql ∧ qf + ql ≤ 48 := by
    unfold wrg at hw
    split at hw
    · omega
    · rename_i h1
      split at hw
      · omega
      · rename_i h2
        obtain ⟨qf, hqf, ef⟩ := cell_of (bt_of h1)
        obtain ⟨ql, hl2, hl16, el⟩ := wi_nat (x := ln) (lo := 2) (hi := 16) (by decide) (by decide) (bt_of (fun q => h2 (Or.inl q)))
        refine ⟨qf, ql, hqf, hl2, hl16, ef, el, ?_⟩
        have h3 : f + ln ≤ nI 48 := Decidable.not_not.mp (fun q => h2 (Or.inr (Or.inr q)))
        rw [ef, el, nI_add] at h3
        exact (nI_leI (by omega) (by omega)).mp h3
  refine ⟨⟨by rw [pr_at, if_pos rfl, eR], by omega⟩, ⟨by rw [o (by omega) (by omega), eM]; exact hI.z4, by omega⟩, ⟨by rw [o (by omega) (by omega), eS]; exact hI.z1, by rw [eS]; exact hI.S1, by rw [eS]; exact hI.S8⟩, fun r hr => ?_, fun m hm => ?_⟩
  · rw [eR] at hr
    rcases Nat.lt_succ_iff_lt_or_eq.mp hr with q | q
    · have a (pt' : Nat) (hp : pt' < 4) : prF z f ln pt (56 + 4 * r + pt') = z (56 + 4 * r + pt') := o (by omega) (by omega)
      have b0 : rF (prF z f ln pt) r = rF z r := acc_eq _ (a 0 (by omega))
      have b1 : rL (prF z f ln pt) r = rL z r := acc_eq _ (a 1 (by omega))
      unfold IRg
      rw [a 0 (by omega), a 1 (by omega), a 3 (by omega), b0, b1]
      exact hI.2.2.2.1 r q
    · subst q
      have a0 : prF z f ln pt (56 + 4 * Rn z + 0) = nI qf := by rw [pr_at, if_neg (by omega), if_neg (by omega), if_neg (by omega), if_neg (by omega), if_pos rfl, ef]
      have a1 : prF z f ln pt (56 + 4 * Rn z + 1) = nI ql := by rw [pr_at, if_neg (by omega), if_neg (by omega), if_neg (by omega), if_pos rfl, el]
      have a3 : prF z f ln pt (56 + 4 * Rn z + 3) = nI 0 := by rw [pr_at, if_neg (by omega), if_pos rfl]
      have b0 : rF (prF z f ln pt) (Rn z) = qf := by show nn (prF z f ln pt (56 + 4 * Rn z + 0)) = qf; rw [a0, nn_nI (by omega)]
      have b1 : rL (prF z f ln pt) (Rn z) = ql := by show nn (prF z f ln pt (56 + 4 * Rn z + 1)) = ql; rw [a1, nn_nI (by omega)]
      unfold IRg
      rw [a0, a1, a3, b0, b1]
      exact ⟨rfl, rfl, hl2, hl16, h48, false, rfl⟩
  · rw [eM] at hm
    have a (pt' : Nat) : prF z f ln pt (80 + 10 * m + pt') = z (80 + 10 * m + pt') := o (by omega) (by omega)
    have b0 : mF (prF z f ln pt) m = mF z m := acc_eq _ (a 0)
    have b1 : mA (prF z f ln pt) m = mA z m := acc_eq _ (a 1)
    have b2 : mT (prF z f ln pt) m = mT z m := acc_eq _ (a 2)
    have b3 : mB (prF z f ln pt) m = mB z m := acc_eq _ (a 3)
    have b4 : mC (prF z f ln pt) m = mC z m := acc_eq _ (a 4)
    have b5 : mS (prF z f ln pt) m = mS z m := acc_eq _ (a 5)
    have b6 : mW (prF z f ln pt) m = mW z m := acc_eq _ (a 6)
    have hq := hI.2.2.2.2 m hm
    unfold IMv at hq ⊢
    rw [a 0, a 1, a 2, a 3, a 4, a 5, a 6, b0, b1, b2, b3, b4, b5, b6, eR]
    exact ⟨⟨hq.1.1, by omega⟩, hq.2.1, ⟨hq.2.2.1.1, by omega⟩, hq.2.2.2⟩
theorem ev_pr {z y : Nat → Int32} (h : EI z y) {f ln pt : Int32} (hw : wrg z f ln pt = 0) : EI (prF z f ln pt) (prF y f ln pt) := by
  refine ⟨?_, pr_inv h.2 hw⟩
  have hR := wrg_0 h.2 hw
  have hM := h.2.M24
  have eR := pr_R z f ln pt hR
  have eM := pr_M z f ln pt
  refine ⟨fun j hj => ?_, fun r p hr hp => ?_, fun m p hm hp => ?_, fun m i hm hs hi => ?_⟩
  · rw [pr_at, pr_at, h.R, h.1.1 j hj]
  · rw [eR] at hr
    rw [pr_at, pr_at, h.R]
    rcases Nat.lt_succ_iff_lt_or_eq.mp hr with q | q
    · rw [h.1.2.1 r p q hp]
    · subst q
      have h3 : ¬ 56 + 4 * Rn z + p = 3 := by omega
      rw [if_neg h3, if_neg h3]
      have : p = 0 ∨ p = 1 ∨ p = 2 ∨ p = 3 := by omega
      rcases this with rfl | rfl | rfl | rfl <;> simp
  · rw [eM] at hm
    rw [pr_out _ _ _ _ (by omega) (by rw [h.R]; omega), pr_out _ _ _ _ (by omega) (by omega)]
    exact h.1.2.2.1 m p hm hp
  · rw [eM] at hm
    have e5 : mS (prF z f ln pt) m = mS z m := acc_eq _ (pr_out _ _ _ _ (by omega) (by omega))
    have e4 : mC (prF z f ln pt) m = mC z m := acc_eq _ (pr_out _ _ _ _ (by omega) (by omega))
    rw [e5] at hs; rw [e4] at hi
    rw [pr_out _ _ _ _ (by omega) (by rw [h.R]; omega), pr_out _ _ _ _ (by omega) (by omega)]
    exact h.1.2.2.2 m i hm hs hi
theorem pm_at (z : Nat → Int32) (f fp t tp n : Int32) (j : Nat) : pmF z f fp t tp n j = if j = 4 then nI (Mn z + 1) else if j = 80 + 10 * Mn z + 9 then -1000 else if j = 80 + 10 * Mn z + 8 then -1000 else if j = 80 + 10 * Mn z + 7 then -1000 else if j = 80 + 10 * Mn z + 6 then nI 0 else if j = 80 + 10 * Mn z + 5 then nI 0 else if j = 80 + 10 * Mn z + 4 then n else if j = 80 + 10 * Mn z + 3 then tp else if j = 80 + 10 * Mn z + 2 then t else if j = 80 + 10 * Mn z + 1 then fp else if j = 80 + 10 * Mn z + 0 then f else z j := rfl
theorem pm_out (z : Nat → Int32) (f fp t tp n : Int32) {j : Nat} (h3 : j ≠ 4) (h : j < 80 + 10 * Mn z ∨ 80 + 10 * Mn z + 10 ≤ j) : pmF z f fp t tp n j = z j := by
  rw [pm_at, if_neg h3, if_neg (by omega), if_neg (by omega), if_neg (by omega), if_neg (by omega), if_neg (by omega), if_neg (by omega), if_neg (by omega), if_neg (by omega), if_neg (by omega), if_neg (by omega)]
theorem pm_M (z : Nat → Int32) (f fp t tp n : Int32) (h : Mn z < 24) : Mn (pmF z f fp t tp n) = Mn z + 1 := by
  show nn (pmF z f fp t tp n 4) = _
  rw [pm_at, if_pos rfl, nn_nI (by omega)]
theorem pm_R (z : Nat → Int32) (f fp t tp n : Int32) : Rn (pmF z f fp t tp n) = Rn z := acc_eq 3 (pm_out z f fp t tp n (by omega) (by omega))
theorem pm_new (z : Nat → Int32) (f fp t tp n : Int32) : pmF z f fp t tp n (80 + 10 * Mn z + 0) = f ∧ pmF z f fp t tp n (80 + 10 * Mn z + 1) = fp ∧ pmF z f fp t tp n (80 + 10 * Mn z + 2) = t ∧ pmF z f fp t tp n (80 + 10 * Mn z + 3) = tp ∧ pmF z f fp t tp n (80 + 10 * Mn z + 4) = n ∧ pmF z f fp t tp n (80 + 10 * Mn z + 5) = nI 0 ∧ pmF z f fp t tp n (80 + 10 * Mn z + 6) = nI 0 := by
  refine ⟨?_, ?_, ?_, ?_, ?_, ?_, ?_⟩ <;> rw [pm_at] <;> (repeat (first | rw [if_pos rfl] | rw [if_neg (by omega)]))
theorem pm_words {z : Nat → Int32} (hI : Inv z) {f fp t tp n : Int32} (hw : wmv z f fp t tp n = 0) : ∃ qf qa qt qb qn, qf < Rn z ∧ qa ≤ 99 ∧ qt < Rn z ∧ qb ≤ 99 ∧ 1 ≤ qn ∧ qn ≤ 16 ∧ f = nI qf ∧ fp = nI qa ∧ t = nI qt ∧ tp = nI qb ∧ n = nI qn ∧ qn ≤ rL z qf ∧ qn ≤ rL z qt := by
  have h6 := hI.R6
  unfold wmv at hw
  split at hw
  · omega
  · rename_i h1
    split at hw
    · omega
    · rename_i h2
      obtain ⟨qf, hqf, ef⟩ := ls_of (x := f) (n := Rn z) (by omega) (fun q => h1 (Or.inl q))
      obtain ⟨qt, hqt, et⟩ := ls_of (x := t) (n := Rn z) (by omega) (fun q => h1 (Or.inr q))
      obtain ⟨qa, -, hqa, ea⟩ := wi_nat (x := fp) (lo := 0) (hi := 99) (by decide) (by decide) (bt_of (fun q => h2 (Or.inl q)))
      obtain ⟨qb, -, hqb, eb⟩ := wi_nat (x := tp) (lo := 0) (hi := 99) (by decide) (by decide) (bt_of (fun q => h2 (Or.inr (Or.inl q))))
      have h3 : nI 1 ≤ n := i_nlt.mp (fun q => h2 (Or.inr (Or.inr (Or.inl q))))
      have h4 : n ≤ nI (rL z (nn f)) := i_nlt.mp (fun q => h2 (Or.inr (Or.inr (Or.inr (Or.inl q)))))
      have h5 : n ≤ nI (rL z (nn t)) := Decidable.not_not.mp (fun q => h2 (Or.inr (Or.inr (Or.inr (Or.inr q)))))
      rw [ef, nn_nI (by omega)] at h4
      rw [et, nn_nI (by omega)] at h5
      have hl := hI.l16 hqf
      have hlt := hI.l16 hqt
      obtain ⟨qn, hn1, hn2, en⟩ := wi_nat (x := n) (lo := 1) (hi := rL z qf) (by omega) (by decide) (wi_iff.mpr ⟨h3, h4⟩)
      rw [en] at h5
      exact ⟨qf, qa, qt, qb, qn, hqf, hqa, hqt, hqb, hn1, by omega, ef, ea, et, eb, en, hn2, (nI_leI (by omega) (by omega)).mp h5⟩
theorem pm_inv {z : Nat → Int32} (hI : Inv z) {f fp t tp n : Int32} (hw : wmv z f fp t tp n = 0) : Inv (pmF z f fp t tp n) := by
  have hM := wmv_0 hI hw
  have h6 := hI.R6
  have eM := pm_M z f fp t tp n hM
  have eR := pm_R z f fp t tp n
  have o {j : Nat} (h3 : j ≠ 4) (h : j < 80 + 10 * Mn z ∨ 80 + 10 * Mn z + 10 ≤ j) := pm_out z f fp t tp n h3 h
  have eS : Sp (pmF z f fp t tp n) = Sp z := acc_eq 1 (o (by omega) (by omega))
  obtain ⟨qf, qa, qt, qb, qn, hqf, hqa, hqt, hqb, hn1, hn2, ef, ea, et, eb, en, -, -⟩ := pm_words hI hw
  obtain ⟨a0, a1, a2, a3, a4, a5, a6⟩ := pm_new z f fp t tp n
  refine ⟨⟨by rw [o (by omega) (by omega), eR]; exact hI.z3, by omega⟩, ⟨by rw [pm_at, if_pos rfl, eM], by omega⟩, ⟨by rw [o (by omega) (by omega), eS]; exact hI.z1, by rw [eS]; exact hI.S1, by rw [eS]; exact hI.S8⟩, fun r hr => ?_, fun m hm => ?_⟩
  · rw [eR] at hr
    have a (pt' : Nat) (hp : pt' < 4) : pmF z f fp t tp n (56 + 4 * r + pt') = z (56 + 4 * r + pt') := o (by omega) (by omega)
    have b0 : rF (pmF z f fp t tp n) r = rF z r := acc_eq _ (a 0 (by omega))
    have b1 : rL (pmF z f fp t tp n) r = rL z r := acc_eq _ (a 1 (by omega))
    unfold IRg
    rw [a 0 (by omega), a 1 (by omega), a 3 (by omega), b0, b1]
    exact hI.2.2.2.1 r hr
  · rw [eM] at hm
    rcases Nat.lt_succ_iff_lt_or_eq.mp hm with q | q
    · have a (pt' : Nat) (hp : pt' < 10) : pmF z f fp t tp n (80 + 10 * m + pt') = z (80 + 10 * m + pt') := o (by omega) (by omega)
      have b0 : mF (pmF z f fp t tp n) m = mF z m := acc_eq _ (a 0 (by omega))
      have b1 : mA (pmF z f fp t tp n) m = mA z m := acc_eq _ (a 1 (by omega))
      have b2 : mT (pmF z f fp t tp n) m = mT z m := acc_eq _ (a 2 (by omega))
      have b3 : mB (pmF z f fp t tp n) m = mB z m := acc_eq _ (a 3 (by omega))
      have b4 : mC (pmF z f fp t tp n) m = mC z m := acc_eq _ (a 4 (by omega))
      have b5 : mS (pmF z f fp t tp n) m = mS z m := acc_eq _ (a 5 (by omega))
      have b6 : mW (pmF z f fp t tp n) m = mW z m := acc_eq _ (a 6 (by omega))
      have hq := hI.2.2.2.2 m q
      unfold IMv at hq ⊢
      rw [a 0 (by omega), a 1 (by omega), a 2 (by omega), a 3 (by omega), a 4 (by omega), a 5 (by omega), a 6 (by omega), b0, b1, b2, b3, b4, b5, b6, eR]
      exact hq
    · subst q
      have b0 : mF (pmF z f fp t tp n) (Mn z) = qf := by unfold mF; rw [a0, ef, nn_nI (by omega)]
      have b1 : mA (pmF z f fp t tp n) (Mn z) = qa := by unfold mA; rw [a1, ea, nn_nI (by omega)]
      have b2 : mT (pmF z f fp t tp n) (Mn z) = qt := by unfold mT; rw [a2, et, nn_nI (by omega)]
      have b3 : mB (pmF z f fp t tp n) (Mn z) = qb := by unfold mB; rw [a3, eb, nn_nI (by omega)]
      have b4 : mC (pmF z f fp t tp n) (Mn z) = qn := by unfold mC; rw [a4, en, nn_nI (by omega)]
      have b5 : mS (pmF z f fp t tp n) (Mn z) = 0 := by unfold mS; rw [a5, nn_nI (by omega)]
      have b6 : mW (pmF z f fp t tp n) (Mn z) = 0 := by unfold mW; rw [a6, nn_nI (by omega)]
      unfold IMv
      rw [a0, a1, a2, a3, a4, a5, a6, b0, b1, b2, b3, b4, b5, b6, eR]
      exact ⟨⟨ef, hqf⟩, ⟨ea, hqa⟩, ⟨et, hqt⟩, ⟨eb, hqb⟩, ⟨en, hn1, hn2⟩, ⟨rfl, by omega⟩, rfl, by omega⟩
theorem ev_pm {z y : Nat → Int32} (h : EI z y) {f fp t tp n : Int32} (hw : wmv z f fp t tp n = 0) : EI (pmF z f fp t tp n) (pmF y f fp t tp n) := by
  refine ⟨?_, pm_inv h.2 hw⟩
  have hM := wmv_0 h.2 hw
  have h6 := h.2.R6
  have eM := pm_M z f fp t tp n hM
  have eR := pm_R z f fp t tp n
  refine ⟨fun j hj => ?_, fun r p hr hp => ?_, fun m p hm hp => ?_, fun m i hm hs hi => ?_⟩
  · rw [pm_at, pm_at, h.M, h.1.1 j hj]
  · rw [eR] at hr
    rw [pm_out _ _ _ _ _ _ (by omega) (by omega), pm_out _ _ _ _ _ _ (by omega) (by omega)]
    exact h.1.2.1 r p hr hp
  · rw [eM] at hm
    rcases Nat.lt_succ_iff_lt_or_eq.mp hm with q | q
    · rw [pm_out _ _ _ _ _ _ (by omega) (by rw [h.M]; omega), pm_out _ _ _ _ _ _ (by omega) (by omega)]
      exact h.1.2.2.1 m p q hp
    · subst q
      rw [pm_at, pm_at, h.M]
      have h3 : ¬ 80 + 10 * Mn z + p = 4 := by omega
      rw [if_neg h3, if_neg h3]
      have : p = 0 ∨ p = 1 ∨ p = 2 ∨ p = 3 ∨ p = 4 ∨ p = 5 ∨ p = 6 ∨ p = 7 ∨ p = 8 ∨ p = 9 := by omega
      rcases this with rfl | rfl | rfl | rfl | rfl | rfl | rfl | rfl | rfl | rfl <;> simp
  · rw [eM] at hm
    rcases Nat.lt_succ_iff_lt_or_eq.mp hm with q | q
    · have e5 : mS (pmF z f fp t tp n) m = mS z m := acc_eq _ (pm_out _ _ _ _ _ _ (by omega) (by omega))
      have e4 : mC (pmF z f fp t tp n) m = mC z m := acc_eq _ (pm_out _ _ _ _ _ _ (by omega) (by omega))
      rw [e5] at hs; rw [e4] at hi
      rw [pm_out _ _ _ _ _ _ (by omega) (by rw [h.M]; omega), pm_out _ _ _ _ _ _ (by omega) (by omega)]
      exact h.1.2.2.2 m i q hs hi
    · subst q
      have b5 : mS (pmF z f fp t tp n) (Mn z) = 0 := by unfold mS; rw [(pm_new z f fp t tp n).2.2.2.2.2.1, nn_nI (by omega)]
      omega
