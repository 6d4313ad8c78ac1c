/-! patience under the relation -/
theorem pat_at (z : Nat → Int32) (r : Nat) (v : Int32) {j : Nat} (h : j ≠ 56 + 4 * r + 2) : upd z (56 + 4 * r + 2) v j = z j := by rw [upd_at, if_neg h]
theorem pat_inv {z : Nat → Int32} (hI : Inv z) (r : Nat) (v : Int32) (hr : r < 6) : Inv (upd z (56 + 4 * r + 2) v) := by
  have h24 := hI.M24
  have eR : Rn (upd z (56 + 4 * r + 2) v) = Rn z := acc_eq 3 (pat_at z r v (by omega))
  have eM : Mn (upd z (56 + 4 * r + 2) v) = Mn z := acc_eq 4 (pat_at z r v (by omega))
  have eS : Sp (upd z (56 + 4 * r + 2) v) = Sp z := acc_eq 1 (pat_at z r v (by omega))
  refine ⟨⟨by rw [pat_at z r v (by omega), eR]; exact hI.z3, by rw [eR]; exact hI.R6⟩, ⟨by rw [pat_at z r v (by omega), eM]; exact hI.z4, by rw [eM]; exact hI.M24⟩, ⟨by rw [pat_at z r v (by omega), eS]; exact hI.z1, by rw [eS]; exact hI.S1, by rw [eS]; exact hI.S8⟩, fun q hq => ?_, fun m hm => ?_⟩
  · rw [eR] at hq
    have e0 : rF (upd z (56 + 4 * r + 2) v) q = rF z q := acc_eq _ (pat_at z r v (by omega))
    have e1 : rL (upd z (56 + 4 * r + 2) v) q = rL z q := acc_eq _ (pat_at z r v (by omega))
    refine ⟨?_, ?_, ?_, ?_, ?_, ?_⟩
    · rw [pat_at z r v (by omega), e0]; exact hI.r0 hq
    · rw [pat_at z r v (by omega), e1]; exact hI.r1 hq
    · rw [e1]; exact hI.l2 hq
    · rw [e1]; exact hI.l16 hq
    · rw [e0, e1]; exact hI.l48 hq
    · rw [pat_at z r v (by omega)]; exact hI.r3 hq
  · rw [eM] at hm
    have a (pt : Nat) : upd z (56 + 4 * r + 2) v (80 + 10 * m + pt) = z (80 + 10 * m + pt) := pat_at z r v (by omega)
    have b0 : mF (upd z (56 + 4 * r + 2) v) m = mF z m := acc_eq _ (a 0)
    have b1 : mA (upd z (56 + 4 * r + 2) v) m = mA z m := acc_eq _ (a 1)
    have b2 : mT (upd z (56 + 4 * r + 2) v) m = mT z m := acc_eq _ (a 2)
    have b3 : mB (upd z (56 + 4 * r + 2) v) m = mB z m := acc_eq _ (a 3)
    have b4 : mC (upd z (56 + 4 * r + 2) v) m = mC z m := acc_eq _ (a 4)
    have b5 : mS (upd z (56 + 4 * r + 2) v) m = mS z m := acc_eq _ (a 5)
    have b6 : mW (upd z (56 + 4 * r + 2) v) m = mW z m := acc_eq _ (a 6)
    unfold IMv
    rw [a 0, a 1, a 2, a 3, a 4, a 5, a 6, b0, b1, b2, b3, b4, b5, b6, eR]
    exact hI.2.2.2.2 m hm
theorem pat_ei {z y : Nat → Int32} (h : EI z y) (r : Nat) (v : Int32) (hr : r < 6) : EI (upd z (56 + 4 * r + 2) v) (upd y (56 + 4 * r + 2) v) := by
  have h24 := h.2.M24
  have eR : Rn (upd z (56 + 4 * r + 2) v) = Rn z := acc_eq 3 (pat_at z r v (by omega))
  have eM : Mn (upd z (56 + 4 * r + 2) v) = Mn z := acc_eq 4 (pat_at z r v (by omega))
  refine ⟨⟨fun j hj => ?_, fun q pt hq hp => ?_, fun m pt hm hp => ?_, fun m i hm hs hi => ?_⟩, pat_inv h.2 r v hr⟩
  · rw [pat_at z r v (by omega), pat_at y r v (by omega)]; exact h.1.1 j hj
  · rw [eR] at hq
    rw [upd_at, upd_at, h.1.2.1 q pt hq hp]
  · rw [eM] at hm
    rw [pat_at z r v (by omega), pat_at y r v (by omega)]; exact h.1.2.2.1 m pt hm hp
  · rw [eM] at hm
    have e5 : mS (upd z (56 + 4 * r + 2) v) m = mS z m := acc_eq _ (pat_at z r v (by omega))
    have e4 : mC (upd z (56 + 4 * r + 2) v) m = mC z m := acc_eq _ (pat_at z r v (by omega))
    rw [e5] at hs; rw [e4] at hi
    rw [pat_at z r v (by omega), pat_at y r v (by omega)]; exact h.1.2.2.2 m i hm hs hi
section RB
variable {z e : Nat → Int32} {g : Nat → Int64} {nx cn : Nat} {se : Nat → Nat → Int32} {sg : Nat → Nat → Int64} {b : Nat → Int32} {ln : Nat}
theorem RelA.pat (h : RelA z e g nx cn se sg b ln) {r : Nat} (hr : r < 6) (v : Int32) : RelA (upd (svT z) (56 + 4 * r + 2) v) (upd e (56 + 4 * r + 2) v) g ((nx + 1) % 4) (min (cn + 1) 4) (hsE se nx (cfF (se nx) e)) (hsG sg nx (cgM (sg nx) g (Mn e))) b ln :=
  h.save.go (pat_ei h.save.1 r v hr) (up_msk (ev_R h.1) h.2.1 (by omega) (fun q _ => by omega) (fun m _ => by omega) v) (fun j hj => pat_at _ r v (by omega))
/-- what the lookers answer -/
theorem t0_ei (hI : Inv z) : EI z (t0 z) := ⟨Eqv.of_eq hI (fun j hj => t0_at z (by omega)), hI⟩
theorem RelA.ei0 (h : RelA z e g nx cn se sg b ln) : EI (t0 z) e := (t0_ei h.1.2).sym.tr h.1
theorem RelA.rv (h : RelA z e g nx cn se sg b ln) {r w : Nat} (hr : r < Rn z) (hw : w < 8) : rvI e r w = rvI (t0 z) r w := ev_rv h.ei0 (by rw [(t0_ei h.1.2).R]; exact hr) hw
theorem RelA.mv (h : RelA z e g nx cn se sg b ln) {m w : Nat} (hm : m < Mn z) (hw : w < 10) : e (80 + 10 * m + w) = t0 z (80 + 10 * m + w) := h.ei0.1.2.2.1 m w (by rw [(t0_ei h.1.2).M]; exact hm) hw
theorem RelA.cs (h : RelA z e g nx cn se sg b ln) {m : Nat} (hm : m < Mn z) (t : Bool) : csN e t m = csN (t0 z) t m := ev_cs h.ei0 (by rw [(t0_ei h.1.2).M]; exact hm) t
theorem RelA.hd (h : RelA z e g nx cn se sg b ln) : hdN e = hcN (t0 z) := (hdN_is (ev_R h.1)).trans (ev_hc h.ei0)
theorem RelA.wo (h : RelA z e g nx cn se sg b ln) {m : Nat} (hm : m < Mn z) : woN e m = woN (t0 z) m := h.ei0.1.wo h.ei0.2 (by rw [(t0_ei h.1.2).M]; exact hm)
theorem RelA.dp (h : RelA z e g nx cn se sg b ln) {m : Nat} (hm : m < Mn z) : dpN e m = dpN (t0 z) m := ev_dp h.ei0 (by rw [(t0_ei h.1.2).M]; exact hm)
theorem RelA.hs (h : RelA z e g nx cn se sg b ln) {m i : Nat} (hm : m < Mn z) (hi : i < 2 ^ 31) : hxI e m (nI i) = hsI (t0 z) m i := by
  unfold hxI
  rw [if_neg (kn_neg hi), nn_nI hi]
  exact ev_hs h.ei0 (by rw [(t0_ei h.1.2).M]; exact hm) i
theorem RelA.wv (h : RelA z e g nx cn se sg b ln) {w : Nat} (hw : w < 15) : wvC e ln w = wvI (t0 z) w := by
  unfold wvC
  by_cases q : w = 14
  · rw [if_pos q, q]
    have : wvI (t0 z) 14 = t0 z 4405 := rfl
    rw [this, t0_at z (by omega)]; exact h.2.2.2.1.symm
  · rw [if_neg q]
    have e5 : wvI (upd e 4405 (t0 z 4405)) w = wvI (t0 z) w := ev_wv (h.ei0.tr ⟨Eqv.of_eq (ev_R h.1) (fun j hj => by rw [upd_at, if_neg (by omega)]), ev_R h.1⟩) w (by rw [upd_at, if_pos rfl])
    have e6 : wvI (upd e 4405 (t0 z 4405)) w = wvI e w := by
      have hE : EI e (upd e 4405 (e 4405)) := ⟨Eqv.of_eq (ev_R h.1) (fun j hj => by rw [upd_at, if_neg (by omega)]), ev_R h.1⟩
      have e7 : EI (upd e 4405 (t0 z 4405)) e := ⟨Eqv.of_eq (st_inv (ev_R h.1) (fun j hj => by rw [upd_at, if_neg (by omega)])) (fun j hj => by rw [upd_at, if_neg (by omega)]), st_inv (ev_R h.1) (fun j hj => by rw [upd_at, if_neg (by omega)])⟩
      have e8 := e7.R; have e9 := e7.M
      rcases (show w = 0 ∨ w = 1 ∨ w = 2 ∨ w = 3 ∨ w = 4 ∨ w = 5 ∨ w = 6 ∨ w = 7 ∨ w = 8 ∨ w = 9 ∨ w = 10 ∨ w = 11 ∨ w = 12 ∨ w = 13 by omega) with rfl | rfl | rfl | rfl | rfl | rfl | rfl | rfl | rfl | rfl | rfl | rfl | rfl | rfl
      · exact congrArg nI e8.symm
      · exact congrArg nI e9.symm
      · exact congrArg nI (e7.1.ms 0).symm
      · exact congrArg nI (e7.1.ms 1).symm
      · exact congrArg nI (e7.1.ms 2).symm
      · exact congrArg nI (e7.1.ms 3).symm
      · exact congrArg nI (acc_eq 1 (by rw [upd_at, if_neg (by omega)]))
      · show upd e 4405 (t0 z 4405) 2 = e 2; rw [upd_at, if_neg (by omega)]
      · show upd e 4405 (t0 z 4405) 0 = e 0; rw [upd_at, if_neg (by omega)]
      · exact congrArg (fun q => nI (ppK q 48)) (ev_hc e7).symm
      · show upd e 4405 (t0 z 4405) 5 = e 5; rw [upd_at, if_neg (by omega)]
      · show upd e 4405 (t0 z 4405) 6 = e 6; rw [upd_at, if_neg (by omega)]
      · show upd e 4405 (t0 z 4405) 7 = e 7; rw [upd_at, if_neg (by omega)]
      · exact (ev_sm e7 (by decide)).symm
    exact e6.symm.trans e5
end RB
