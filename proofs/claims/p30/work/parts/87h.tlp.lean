/-! a move told: its numbers, in plain words -/
def dF (v : Int32) : Nat := lowN v 3
def dA (v : Int32) : Nat := lowN (v >>> ((nI (2)) &&& 31)) 20
def dT (v : Int32) : Nat := lowN (v >>> ((nI (7)) &&& 31)) 3
def dB (v : Int32) : Nat := lowN (v >>> ((nI (9)) &&& 31)) 20
def moN (e : Nat → Int32) (v : Int32) : Nat := if rL e (dF v) < rL e (dT v) then rL e (dF v) else rL e (dT v)
def dN (e : Nat → Int32) (v : Int32) : Nat := 1 + lowN (v >>> ((nI (14)) &&& 31)) (moN e v)
def pmT (e : Nat → Int32) (v : Int32) : Nat → Int32 := pmF e (nI (dF v)) (nI (dA v)) (nI (dT v)) (nI (dB v)) (nI (dN e v))
def pmH (e : Nat → Int32) (g : Nat → Int64) (v : Int32) : Nat → Int64 := pmG e g (dF v) (dA v) (dT v) (dB v) (dN e v)
theorem dF_lt (v : Int32) : dF v < 3 := lowN_lt v (by decide)
theorem dA_lt (v : Int32) : dA v < 20 := lowN_lt _ (by decide)
theorem dT_lt (v : Int32) : dT v < 3 := lowN_lt _ (by decide)
theorem dB_lt (v : Int32) : dB v < 20 := lowN_lt _ (by decide)
section TLP
variable {e z : Nat → Int32} {g : Nat → Int64} {v : Int32}
theorem mo_le (hI : Inv e) (hB : LB e) (v : Int32) : 2 ≤ moN e v ∧ moN e v ≤ rL e (dF v) ∧ moN e v ≤ rL e (dT v) ∧ moN e v ≤ 8 := by
  have h1 := dF_lt v
  have h2 := dT_lt v
  have hR := hB.R
  have a1 := hI.l2 (r := dF v) (by omega)
  have a2 := hI.l2 (r := dT v) (by omega)
  have b1 := hB.l8 h1
  have b2 := hB.l8 h2
  unfold moN; split <;> omega
theorem dN_le (hI : Inv e) (hB : LB e) (v : Int32) : 1 ≤ dN e v ∧ dN e v ≤ moN e v := by
  have h := mo_le hI hB v
  have h1 := lowN_lt (v >>> ((nI (14)) &&& 31)) (k := moN e v) (by omega)
  unfold dN; omega
theorem told_w (hI : Inv e) (hB : LB e) (hM : Mn e < 8) (v : Int32) : wmv e (nI (dF v)) (nI (dA v)) (nI (dT v)) (nI (dB v)) (nI (dN e v)) = 0 := by
  have h1 := dF_lt v
  have h2 := dT_lt v
  have h3 := dA_lt v
  have h4 := dB_lt v
  have hR := hB.R
  have hmo := mo_le hI hB v
  have hn := dN_le hI hB v
  have l1 := hI.l16 (r := dF v) (by omega)
  have l2 := hI.l16 (r := dT v) (by omega)
  unfold wmv
  rw [lsB_n (by omega) (by omega), lsB_n (by omega) (by omega), if_neg (by decide)]
  rw [wi_n (by omega) (by omega) (by decide), wi_n (by omega) (by omega) (by decide), nn_nI (by omega), nn_nI (by omega)]
  have c1 : ¬ nI (dN e v) < nI 1 := i_nlt.mpr (nI_le hn.1 (by omega))
  have c2 : ¬ nI (rL e (dF v)) < nI (dN e v) := i_nlt.mpr (nI_le (by omega) (by omega))
  have c3 : nI (dN e v) ≤ nI (rL e (dT v)) := nI_le (by omega) (by omega)
  rw [if_neg (fun q => by rcases q with q | q | q | q | q <;> first | exact absurd q (by decide) | exact c1 q | exact c2 q | exact q c3), if_neg (by omega)]
/-- the row after a move is told -/
theorem pmT_out (e : Nat → Int32) (v : Int32) {j : Nat} (h4 : j ≠ 4) (h : j < 80 + 10 * Mn e ∨ 80 + 10 * Mn e + 10 ≤ j) : pmT e v j = e j := pm_out e _ _ _ _ _ h4 h
theorem lb_pm (hI : Inv e) (hB : LB e) (hM : Mn e < 8) (v : Int32) : LB (pmT e v) := by
  have hn := dN_le hI hB v
  have hmo := mo_le hI hB v
  have o {j : Nat} (h4 : j ≠ 4) (h : j < 80 + 10 * Mn e ∨ 80 + 10 * Mn e + 10 ≤ j) := pmT_out e v h4 h
  have eM : Mn (pmT e v) = Mn e + 1 := pm_M e _ _ _ _ _ (by omega)
  have w : ∀ p x, pmT e v (80 + 10 * Mn e + p) = x → pmT e v (80 + 10 * Mn e + p) = x := fun _ _ h => h
  refine ⟨(acc_eq 3 (o (by omega) (Or.inl (by omega)))).trans hB.R, by omega, fun r hr => ?_, fun m hm => ?_, fun m hm hm8 => ?_⟩
  · rw [show rL (pmT e v) r = rL e r from acc_eq _ (o (by omega) (Or.inl (by omega)))]; exact hB.l8 hr
  · rw [eM] at hm
    by_cases q : m = Mn e
    · subst q
      have p4 : pmT e v (80 + 10 * Mn e + 4) = nI (dN e v) := by unfold pmT; rw [pm_at, if_neg (by omega), if_neg (by omega), if_neg (by omega), if_neg (by omega), if_neg (by omega), if_neg (by omega), if_pos rfl]
      have p5 : pmT e v (80 + 10 * Mn e + 5) = nI 0 := by unfold pmT; rw [pm_at, if_neg (by omega), if_neg (by omega), if_neg (by omega), if_neg (by omega), if_neg (by omega), if_pos rfl]
      have p6 : pmT e v (80 + 10 * Mn e + 6) = nI 0 := by unfold pmT; rw [pm_at, if_neg (by omega), if_neg (by omega), if_neg (by omega), if_neg (by omega), if_pos rfl]
      have p8 : pmT e v (80 + 10 * Mn e + 8) = -1000 := by unfold pmT; rw [pm_at, if_neg (by omega), if_neg (by omega), if_pos rfl]
      have q4 : mC (pmT e v) (Mn e) = dN e v := by unfold mC; rw [p4, nn_nI (by omega)]
      have q5 : mS (pmT e v) (Mn e) = 0 := by unfold mS; rw [p5]; rfl
      have q6 : mW (pmT e v) (Mn e) = 0 := by unfold mW; rw [p6]; rfl
      unfold LMv; rw [q4, q5, q6, p8]
      exact ⟨by omega, fun _ => rfl, fun q => by omega, fun _ => rfl, fun q => by omega⟩
    · obtain ⟨a, b, c, d, f⟩ := hB.2.2.2.1 m (by omega)
      have e4 : mC (pmT e v) m = mC e m := acc_eq _ (o (by omega) (Or.inl (by omega)))
      have e5 : mS (pmT e v) m = mS e m := acc_eq _ (o (by omega) (Or.inl (by omega)))
      have e6 : mW (pmT e v) m = mW e m := acc_eq _ (o (by omega) (Or.inl (by omega)))
      have e8 : pmT e v (80 + 10 * m + 8) = e (80 + 10 * m + 8) := o (by omega) (Or.inl (by omega))
      unfold LMv
      rw [e4, e5, e6, e8]; exact ⟨a, b, c, d, f⟩
  · rw [eM] at hm
    rw [o (by omega) (Or.inr (by omega))]; exact hB.nil (by omega) hm8
/-- the same, but for the tick of a move that isn't copied: -1000 counts as 0 -/
theorem LwC.alike8 {D : va_G} {cs : Nat → ClassId} {a : Nat} {z z' : Nat → Int32} {g : Nat → Int64} {H : Heap} (h : LwC D cs a z g H) (hq : z' 4 = z 4 ∧ z' 0 = z 0 ∧ z' 1 = z 1 ∧ z' 2 = z 2) (hj : ∀ j, j < 60 → z' (8 + j) = z (8 + j)) (hm : ∀ m p, m < 8 → p < 7 → z' (80 + 10 * m + p) = z (80 + 10 * m + p)) (h8 : ∀ m, m < 8 → (if z' (80 + 10 * m + 8) = -1000 then 0 else z' (80 + 10 * m + 8)) = if z (80 + 10 * m + 8) = -1000 then 0 else z (80 + 10 * m + 8)) (ht : ∀ m i, m < 8 → i < 8 → z' (320 + 16 * m + i) = z (320 + 16 * m + i)) : LwC D cs a z' g H := by
  refine ⟨at_congr h.q (fun j _ => ?_), at_congr h.me (fun j hj9 => (hj j (by omega)).symm), at_congr h.rg (fun j hj9 => ?_), at_congr h.mv (mvF_is (fun m p hm9 hp => ?_) (fun m hm9 => ?_)), at_congr h.tk (tkF_is (fun m i hm9 hi => ?_)), h.ce⟩
  · unfold qF; rw [hq.1, hq.2.1, hq.2.2.1, hq.2.2.2]
  · have := hj (48 + j) (by omega); rw [show 8 + (48 + j) = 56 + j by omega] at this; exact this.symm
  · rw [mvF_lo z m hp, hm m p hm9 hp]
  · rw [mvF_7, h8 m hm9]
  · rw [tkF_at z m hi, ht m i hm9 hi]
theorem told_lw {D : va_G} {cs : Nat → ClassId} {a M : Nat} {g : Nat → Int64} {H : Heap} (hB : LB e) (hMM : Mn e = M) (hM : M < 8) {zz : Nat → Int32} (h : LwC D cs a (upd zz 4 (nI (M + 1))) g H) (ho : ∀ j, j < 80 + 10 * M ∨ 80 + 10 * M + 10 ≤ j → zz j = e j)
    (h0 : zz (80 + 10 * M + 0) = nI (dF v)) (h1 : zz (80 + 10 * M + 1) = nI (dA v)) (h2 : zz (80 + 10 * M + 2) = nI (dT v)) (h3 : zz (80 + 10 * M + 3) = nI (dB v)) (h4 : zz (80 + 10 * M + 4) = nI (dN e v)) (h5 : zz (80 + 10 * M + 5) = nI 0) (h6 : zz (80 + 10 * M + 6) = nI 0) (h8 : zz (80 + 10 * M + 8) = e (80 + 10 * M + 8)) : LwC D cs a (pmT e v) g H := by
  subst hMM
  have o {j : Nat} (q4 : j ≠ 4) (q : j < 80 + 10 * Mn e ∨ 80 + 10 * Mn e + 10 ≤ j) : pmT e v j = upd zz 4 (nI (Mn e + 1)) j := by rw [pmT_out e v q4 q, upd_ne q4, ho j q]
  have p4 : pmT e v 4 = nI (Mn e + 1) := by unfold pmT; rw [pm_at, if_pos rfl]
  have w0 : pmT e v (80 + 10 * Mn e + 0) = nI (dF v) := by unfold pmT; rw [pm_at]; repeat (first | rw [if_pos rfl] | rw [if_neg (by omega)])
  have w1 : pmT e v (80 + 10 * Mn e + 1) = nI (dA v) := by unfold pmT; rw [pm_at]; repeat (first | rw [if_pos rfl] | rw [if_neg (by omega)])
  have w2 : pmT e v (80 + 10 * Mn e + 2) = nI (dT v) := by unfold pmT; rw [pm_at]; repeat (first | rw [if_pos rfl] | rw [if_neg (by omega)])
  have w3 : pmT e v (80 + 10 * Mn e + 3) = nI (dB v) := by unfold pmT; rw [pm_at]; repeat (first | rw [if_pos rfl] | rw [if_neg (by omega)])
  have w4 : pmT e v (80 + 10 * Mn e + 4) = nI (dN e v) := by unfold pmT; rw [pm_at]; repeat (first | rw [if_pos rfl] | rw [if_neg (by omega)])
  have w5 : pmT e v (80 + 10 * Mn e + 5) = nI 0 := by unfold pmT; rw [pm_at]; repeat (first | rw [if_pos rfl] | rw [if_neg (by omega)])
  have w6 : pmT e v (80 + 10 * Mn e + 6) = nI 0 := by unfold pmT; rw [pm_at]; repeat (first | rw [if_pos rfl] | rw [if_neg (by omega)])
  have w8 : pmT e v (80 + 10 * Mn e + 8) = -1000 := by unfold pmT; rw [pm_at]; repeat (first | rw [if_pos rfl] | rw [if_neg (by omega)])
  refine h.alike8 ⟨by rw [p4, upd_at, if_pos rfl], o (by omega) (Or.inl (by omega)), o (by omega) (Or.inl (by omega)), o (by omega) (Or.inl (by omega))⟩ (fun j hj => o (by omega) (Or.inl (by omega))) (fun m p hm hp => ?_) (fun m hm => ?_) (fun m i hm hi => o (by omega) (Or.inr (by omega)))
  · by_cases q : m = Mn e
    · rw [q, upd_ne (by omega)]
      rcases (show p = 0 ∨ p = 1 ∨ p = 2 ∨ p = 3 ∨ p = 4 ∨ p = 5 ∨ p = 6 by omega) with rfl | rfl | rfl | rfl | rfl | rfl | rfl
      · rw [w0, h0]
      · rw [w1, h1]
      · rw [w2, h2]
      · rw [w3, h3]
      · rw [w4, h4]
      · rw [w5, h5]
      · rw [w6, h6]
    · exact o (by omega) (by omega)
  · by_cases q : m = Mn e
    · rw [q, upd_ne (by omega), w8, h8, hB.nil (Nat.le_refl _) hM]; decide
    · rw [o (by omega) (by omega)]
theorem gg_0 (g : Nat → Int64) (k : Nat) (A B : Int64) : vp_updL (vp_updL g k A) (k + 1) B k = A := by
  unfold vp_updL; rw [if_neg (by omega), if_pos rfl]
theorem gg_1 (g : Nat → Int64) (k : Nat) (A B A' : Int64) : vp_updL (vp_updL (vp_updL g k A) (k + 1) B) k A' (k + 1) = B := by
  unfold vp_updL; rw [if_neg (by omega), if_pos rfl]
theorem gg_s (g : Nat → Int64) (k : Nat) (A B A' B' : Int64) : vp_updL (vp_updL (vp_updL (vp_updL g k A) (k + 1) B) k A') (k + 1) B' = vp_updL (vp_updL g k A') (k + 1) B' := by
  funext j; unfold vp_updL
  by_cases q : j = k + 1 <;> by_cases q2 : j = k <;> simp [q, q2]
theorem cfN_0 (e : Nat → Int32) (r pl : Nat) : cfN e r pl 0 = 0 := rfl
end TLP
