/-! the checksum, a cell's reason, a run of commands, under the relation -/
theorem ev_dgM {z y : Nat → Int32} (h : EI z y) (a : Int64) (n : Nat) (hn : n ≤ Mn z) : dgM y a n = dgM z a n := by
  unfold dgM
  refine foldN_cong _ (fun m x hm9 => ?_)
  have hm : m < Mn z := by omega
  have a1 : dgMp y m x 10 = dgMp z m x 10 := by unfold dgMp; exact foldN_cong _ (fun w x hw => by rw [h.1.2.2.1 m w hm hw])
  have a2 : dgMh y m (dgMp z m x 10) (hgN z m) = dgMh z m (dgMp z m x 10) (hgN z m) := by
    unfold dgMh
    exact foldN_cong _ (fun i x hi => by
      have hs : mS z m = 1 := by unfold hgN at hi; split at hi <;> first | assumption | omega
      have hl := hgN_le z m
      have := h.1.2.2.2 m (mW z m + i) hm hs (by omega)
      rw [h.1.mW hm, show 320 + 16 * m + mW z m + i = 320 + 16 * m + (mW z m + i) by omega, this])
  unfold dgM1
  rw [a1, ev_hg h hm, a2, h.1.wo h.2 hm, ev_dp h hm]
section RC
variable {z e : Nat → Int32} {g : Nat → Int64} {nx cn : Nat} {se : Nat → Nat → Int32} {sg : Nat → Nat → Int64} {b : Nat → Int32} {ln : Nat}
theorem RelA.dg (h : RelA z e g nx cn se sg b ln) (t : Nat → Int32) : dgFc e (fnF (cfF t e)) ln (nI cn) = dgF (t0 z) (nI (Sv z)) := by
  have hE := h.ei0
  have e1 : dgWc e ln (dg0 (nI cn)) 15 = dg1 (t0 z) (nI (Sv z)) := by
    rw [h.sv]; unfold dgWc dg1 dgW
    exact foldN_cong _ (fun w x hw => by rw [h.wv hw])
  have e2 : dgC e (fnF (cfF t e)) (dg1 (t0 z) (nI (Sv z))) 48 = dg2 (t0 z) (nI (Sv z)) := by
    unfold dg2 dgC
    refine foldN_cong _ (fun q x hq => ?_)
    rw [hE.1.1 _ (by omega), ev_fin h.1 t hq, dg_fin h.1.2 (by omega)]
  have e3 : dgR e (dg2 (t0 z) (nI (Sv z))) (Rn e) = dg3 (t0 z) (nI (Sv z)) := by
    unfold dg3; rw [hE.R]; unfold dgR
    exact foldN_cong _ (fun r x hr => by unfold dgRw; exact foldN_cong _ (fun w x hw => by rw [ev_rv hE hr hw]))
  have e4 : dgM e (dg3 (t0 z) (nI (Sv z))) (Mn e) = dg4 (t0 z) (nI (Sv z)) := by
    unfold dg4; rw [hE.M]; exact ev_dgM hE _ _ (Nat.le_refl _)
  unfold dgFc dgF
  rw [e1, e2, e3, e4, ev_hc hE]
theorem RelA.rs (h : RelA z e g nx cn se sg b ln) (q : Nat) : barN e q = rsC (t0 z) q := (barN_is e q).trans (h.ei0.1.rs h.ei0.2 q)
theorem RelA.ci (h : RelA z e g nx cn se sg b ln) (t : Nat → Int32) {q : Nat} (hq : q < Mn z) : ctI (cfF t e) q = ciI z q := ev_ci h.1 t hq
theorem RelA.sk (h : RelA z e g nx cn se sg b ln) (t : Nat → Int32) : stI (cfF t e) e = skI z := ev_sk h.1 t
/-- a run of commands: the answers -/
theorem RelA.rc (h : RelA z e g nx cn se sg b ln) : rcC e b ln = rcA z b ln := by
  have hn := h.2.2.2.2.1
  have e1 : exN e b ln = exN (svT z) b ln := ev_exN h.save.1 hn
  unfold rcC rcA
  rw [e1]
/-- .. and what it leaves -/
theorem RelA.run (h : RelA z e g nx cn se sg b ln) {y e' : Nat → Int32} {g' : Nat → Int64} {nx' cn' : Nat} {se' : Nat → Nat → Int32} {sg' : Nat → Nat → Int64} (hA : RcP z y b ln) (hC : RcC e g nx cn se sg b ln e' g' nx' cn' se' sg') : RelA y e' g' nx' cn' se' sg' b ln := by
  have hn := h.2.2.2.2.1
  unfold RcP at hA; unfold RcC at hC
  by_cases q : cpq b ln (ccN b ln) < ln
  · rw [if_pos q] at hA hC
    obtain ⟨rfl, rfl, rfl, rfl, rfl, rfl⟩ := hC
    exact h.eq (fun j hj => (hA j (by omega) (by omega) (by omega)).trans (t0_at z (by omega)))
  · rw [if_neg q] at hA hC
    obtain ⟨hE, hF⟩ := hA
    obtain ⟨hE2, hG, rfl, rfl, rfl, rfl⟩ := hC
    have hs := h.save
    have e1 : exN e b ln = exN (svT z) b ln := ev_exN hs.1 hn
    rw [e1] at hE2
    have hx := ev_xc hs.1 (b := b) (n := ln) (exN (svT z) b ln) (fun i hi => ccN_all (Nat.lt_of_lt_of_le hi (firstN_le _ _)))
    refine ⟨hE.sym.tr (hx.tr hE2), hG, hs.2.2.1.fr (fun j h1 h2 => hF j (by omega) (by omega) (by omega) (by omega)) (hF _ (by omega) (by omega) (by omega) (by omega)), (hF _ (by omega) (by omega) (by omega) (by omega)).trans hs.2.2.2.1, hn, fun i hi => (hF _ (by omega) (by omega) (by omega) (by omega)).trans (hs.2.2.2.2.2 i hi)⟩
end RC
/-- two new ones -/
theorem e0F_inv : Inv e0F := by
  have hR : Rn e0F = 0 := by decide
  have hM : Mn e0F = 0 := by decide
  have hS : Sp e0F = 2 := by decide
  refine ⟨⟨by rw [hR]; rfl, by omega⟩, ⟨by rw [hM]; rfl, by omega⟩, ⟨by rw [hS]; rfl, by omega, by omega⟩, fun r hr => absurd hr (by omega), fun m hm => absurd hm (by omega)⟩
theorem relA_new (sg : Nat → Nat → Int64) (b : Nat → Int32) : RelA e0F e0F g0F 0 0 (fun _ => e0F) sg b 0 := by
  have hM : Mn e0F = 0 := by decide
  exact ⟨⟨Eqv.rf, e0F_inv⟩, fun m hm => absurd hm (by omega), ⟨⟨by rw [e0F_at (by omega) (by omega)]; rfl, by omega, by omega⟩, fun t ht => absurd ht (Nat.not_lt_zero t)⟩, by rw [e0F_at (by omega) (by omega)]; rfl, by omega, fun i hi => absurd hi (Nat.not_lt_zero i)⟩
