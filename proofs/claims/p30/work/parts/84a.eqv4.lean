/-! what is asked of alike rows -/
theorem ev_uF {z y : Nat → Int32} (h : EI z y) (r : Nat) : uFK y r (Mn y) = uFK z r (Mn z) := by
  unfold uFK; rw [h.M]; exact foldN_cong _ (fun m n hm => by rw [h.1.mF hm, h.1.mS hm])
theorem ev_uT {z y : Nat → Int32} (h : EI z y) (r : Nat) : uTK y r (Mn y) = uTK z r (Mn z) := by
  unfold uTK; rw [h.M]; exact foldN_cong _ (fun m n hm => by rw [h.1.mT hm, h.1.mS hm])
theorem ev_sm {z y : Nat → Int32} (h : EI z y) {b k : Nat} (hb : b + k ≤ 48) : smK y b k = smK z b k := by
  unfold smK; exact foldN_cong _ (fun i s hi => by rw [h.1.1 _ (by omega)])
theorem ev_rv {z y : Nat → Int32} (h : EI z y) {r w : Nat} (hr : r < Rn z) (hw : w < 8) : rvI y r w = rvI z r w := by
  unfold rvI; rw [ev_uF h, ev_uT h, h.1.cp, h.1.rF hr, h.1.rL hr, ev_sm h (h.2.l48 hr)]
  by_cases q : w < 4
  · rw [h.1.2.1 r w hr q]
  · have : w = 4 ∨ w = 5 ∨ w = 6 ∨ w = 7 := by omega
    rcases this with rfl | rfl | rfl | rfl <;> rfl
theorem ev_hg {z y : Nat → Int32} (h : EI z y) {m : Nat} (hm : m < Mn z) : hgN y m = hgN z m := by
  unfold hgN; rw [h.1.mS hm, h.1.mC hm, h.1.mW hm]
theorem ev_hc {z y : Nat → Int32} (h : EI z y) : hcN y = hcN z := by
  unfold hcN hcK
  refine foldN_cong _ (fun q b _ => ?_)
  unfold hcM; rw [h.M]
  exact foldN_cong _ (fun m b hm => by rw [h.1.ho h.2 hm])
theorem ev_hs {z y : Nat → Int32} (h : EI z y) {m : Nat} (hm : m < Mn z) (k : Nat) : hsI y m k = hsI z m k := by
  unfold hsI; rw [ev_hg h hm, h.1.mW hm]
  by_cases q : k < hgN z m
  · rw [if_pos q, if_pos q]
    have hs : mS z m = 1 := by unfold hgN at q; split at q <;> first | assumption | omega
    have hl := hgN_le z m
    have := h.1.2.2.2 m (mW z m + k) hm hs (by omega)
    rw [show 320 + 16 * m + mW z m + k = 320 + 16 * m + (mW z m + k) by omega]; exact this
  · rw [if_neg q, if_neg q]
theorem ev_wv {z y : Nat → Int32} (h : EI z y) (w : Nat) (e : y 4405 = z 4405) : wvI y w = wvI z w := by
  unfold wvI; rw [h.R, h.M, h.1.S, h.1.ms, ev_hc h, h.1.1 2 (by omega), h.1.1 0 (by omega), h.1.1 5 (by omega), h.1.1 6 (by omega), h.1.1 7 (by omega), ev_sm h (by omega), e]
theorem ev_cs {z y : Nat → Int32} (h : EI z y) {m : Nat} (hm : m < Mn z) (t : Bool) : csN y t m = csN z t m := by
  unfold csN csK; rw [h.1.mC hm]
  exact foldN_cong _ (fun i b _ => by rw [h.1.tgt h.2 hm, h.1.src h.2 hm])
theorem ev_dpV {z y : Nat → Int32} (h : EI z y) {m : Nat} (hm : m < Mn z) (t : Nat → Nat) (k : Nat) : dpV y t m k = dpV z t m k := by
  unfold dpV; rw [h.1.wo h.2 hm]
theorem ev_dpT {z y : Nat → Int32} (h : EI z y) (k : Nat) : k ≤ Mn z → dpT y k = dpT z k := by
  induction k with
  | zero => intro _; rfl
  | succ k ih =>
    intro hk
    have e := ih (by omega)
    funext j
    show (if j = k then dpV y (dpT y k) k k else dpT y k j) = (if j = k then dpV z (dpT z k) k k else dpT z k j)
    rw [e, ev_dpV h (by omega)]
theorem ev_dp {z y : Nat → Int32} (h : EI z y) {m : Nat} (hm : m < Mn z) : dpN y m = dpN z m := by
  unfold dpN; rw [ev_dpT h (m + 1) (by omega)]
theorem ev_kpt {z y : Nat → Int32} (h : EI z y) : EI (kpt z) (kpt y) := by
  have a := kpt_inv h.2
  have hy := h.1.inv h.2
  exact ⟨((Eqv.of_eq h.2 (fun j hj => kpt_lo z hj)).symm.tr h.1).tr (Eqv.of_eq hy (fun j hj => kpt_lo y hj)), a⟩
theorem ev_finS {z y : Nat → Int32} (h : EI z y) {m : Nat} (hm : m < Mn z) : EI (finS m z) (finS m y) := by
  refine ⟨?_, (finS_si h.2 hm).2⟩
  have h24 := h.2.M24
  unfold finS; rw [h.1.mS hm]
  split
  · have hs := startF_si h.2 m
    exact ev_writes (ev_start h.1 h.2 hm) hs.2 (by rw [hs.1.M]; exact hm) (startF_mS m (by omega)) 16
  · split
    · exact ev_writes h.1 h.2 hm (by assumption) 16
    · exact h.1
theorem ev_finF {z y : Nat → Int32} (h : EI z y) : EI (finF z) (finF y) := by
  unfold finF finK; rw [h.M]
  refine (foldN_relI (P := fun a b => EI a b ∧ SI z a) (Mn z) ⟨h, SI.rf h.2⟩ (fun m a b hm q => ?_)).1
  have hma : m < Mn a := by rw [q.2.1.M]; exact hm
  exact ⟨ev_finS q.1 hma, q.2.tr (finS_si q.2.2 hma)⟩
