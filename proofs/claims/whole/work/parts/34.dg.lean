/-! the checksum -/
def dS (h x : Int64) : Int64 := 31 * h + x
def dgW (z : Nat → Int32) (h : Int64) (k : Nat) : Int64 := foldN k (fun w h => dS h (wvI z w).toInt64) h
def dgC (z f : Nat → Int32) (h : Int64) (k : Nat) : Int64 := foldN k (fun q h => dS (dS h (z (8 + q)).toInt64) (f (8 + q)).toInt64) h
def dgRw (z : Nat → Int32) (r : Nat) (h : Int64) (k : Nat) : Int64 := foldN k (fun w h => dS h (rvI z r w).toInt64) h
def dgR (z : Nat → Int32) (h : Int64) (k : Nat) : Int64 := foldN k (fun r h => dgRw z r h 8) h
def dgMp (z : Nat → Int32) (m : Nat) (h : Int64) (k : Nat) : Int64 := foldN k (fun w h => dS h (z (80 + 10 * m + w)).toInt64) h
def dgMh (z : Nat → Int32) (m : Nat) (h : Int64) (k : Nat) : Int64 := foldN k (fun i h => dS h (z (320 + 16 * m + mW z m + i)).toInt64) h
def dgM1 (z : Nat → Int32) (m : Nat) (h : Int64) : Int64 := dS (dS (dgMh z m (dgMp z m h 10) (hgN z m)) (nI (woN z m)).toInt64) (nI (dpN z m)).toInt64
def dgM (z : Nat → Int32) (h : Int64) (k : Nat) : Int64 := foldN k (fun m h => dgM1 z m h) h
def dg0 (v : Int32) : Int64 := 1347756 + v.toInt64
def dg1 (z : Nat → Int32) (v : Int32) : Int64 := dgW z (dg0 v) 15
def dg2 (z : Nat → Int32) (v : Int32) : Int64 := dgC z (finF z) (dg1 z v) 48
def dg3 (z : Nat → Int32) (v : Int32) : Int64 := dgR z (dg2 z v) (Rn z)
def dg4 (z : Nat → Int32) (v : Int32) : Int64 := dgM z (dg3 z v) (Mn z)
def dgF (z : Nat → Int32) (v : Int32) : Int64 := dS (dg4 z v) (lN (hcN z))
theorem dgW_0 (z : Nat → Int32) (h : Int64) : dgW z h 0 = h := rfl
theorem dgW_s (z : Nat → Int32) (h : Int64) (k : Nat) : 31 * dgW z h k + (wvI z k).toInt64 = dgW z h (k + 1) := rfl
theorem dgC_0 (z f : Nat → Int32) (h : Int64) : dgC z f h 0 = h := rfl
theorem dgC_s (z f : Nat → Int32) (h : Int64) (k : Nat) : 31 * dS (dgC z f h k) (z (8 + k)).toInt64 + (f (8 + k)).toInt64 = dgC z f h (k + 1) := rfl
theorem dgRw_0 (z : Nat → Int32) (r : Nat) (h : Int64) : dgRw z r h 0 = h := rfl
theorem dgRw_s (z : Nat → Int32) (r : Nat) (h : Int64) (k : Nat) : 31 * dgRw z r h k + (rvI z r k).toInt64 = dgRw z r h (k + 1) := rfl
theorem dgR_0 (z : Nat → Int32) (h : Int64) : dgR z h 0 = h := rfl
theorem dgR_s (z : Nat → Int32) (h : Int64) (k : Nat) : dgRw z k (dgR z h k) 8 = dgR z h (k + 1) := rfl
theorem dgMp_0 (z : Nat → Int32) (m : Nat) (h : Int64) : dgMp z m h 0 = h := rfl
theorem dgMp_s (z : Nat → Int32) (m : Nat) (h : Int64) (k : Nat) : 31 * dgMp z m h k + (z (80 + 10 * m + k)).toInt64 = dgMp z m h (k + 1) := rfl
theorem dgMh_0 (z : Nat → Int32) (m : Nat) (h : Int64) : dgMh z m h 0 = h := rfl
theorem dgMh_s (z : Nat → Int32) (m : Nat) (h : Int64) (k : Nat) : 31 * dgMh z m h k + (z (320 + 16 * m + mW z m + k)).toInt64 = dgMh z m h (k + 1) := rfl
theorem dgM_0 (z : Nat → Int32) (h : Int64) : dgM z h 0 = h := rfl
theorem dgM_s (z : Nat → Int32) (h : Int64) (k : Nat) : dgM1 z k (dgM z h k) = dgM z h (k + 1) := rfl
theorem dS_e (h x : Int64) : 31 * h + x = dS h x := rfl
theorem dg0_e (v : Int32) : 1347756 + v.toInt64 = dg0 v := rfl
theorem dg1_e (z : Nat → Int32) (v : Int32) : dg1 z v = dgW z (dg0 v) 15 := rfl
theorem dg2_e (z : Nat → Int32) (v : Int32) : dg2 z v = dgC z (finF z) (dg1 z v) 48 := rfl
theorem dg3_e (z : Nat → Int32) (v : Int32) : dg3 z v = dgR z (dg2 z v) (Rn z) := rfl
theorem dg4_e (z : Nat → Int32) (v : Int32) : dg4 z v = dgM z (dg3 z v) (Mn z) := rfl
theorem dgF_e (z : Nat → Int32) (v : Int32) : 31 * dg4 z v + lN (hcN z) = dgF z v := rfl
theorem dgM_s2 (z : Nat → Int32) (h : Int64) (k : Nat) : dS (dS (dgMh z k (dgMp z k (dgM z h k) 10) (hgN z k)) (nI (woN z k)).toInt64) (nI (dpN z k)).toInt64 = dgM z h (k + 1) := rfl
/-- what the checksum leaves: scratch rows alone differ -/
def DgP (z y : Nat → Int32) : Prop := ∀ j, (j < 704 ∨ (1408 ≤ j ∧ (j < 4379 ∨ 4403 ≤ j))) → y j = z j
theorem DgP.ei {z y : Nat → Int32} (hI : Inv z) (h : DgP z y) : EI z y := ⟨Eqv.of_eq hI (fun j hj => h j (Or.inl hj)), hI⟩
theorem DgP.dz {z y : Nat → Int32} (h : DgP z y) {m : Nat} (hm : m < 24) : DgP z (dzK y (m + 1)) := fun j hj => by
  have e : dzK y (m + 1) j = y j := by unfold dzK; rw [if_neg (by omega)]
  rw [e]; exact h j hj
theorem fr_finS {z : Nat → Int32} (hI : Inv z) {m : Nat} (hm : m < Mn z) : Fr z (finS m z) := by
  have h24 := hI.M24
  have hs := startF_si hI m
  unfold finS; split
  · exact (fr_start hI hm).tr (fr_writes hs.2 (by rw [hs.1.M]; exact hm) 16)
  · split
    · exact fr_writes hI hm 16
    · exact Fr.rf
theorem fr_finF {z : Nat → Int32} (hI : Inv z) : Fr z (finF z) := by
  unfold finF finK
  exact (foldN_relI (P := fun (_ : Unit) a => Fr z a ∧ SI z a) (g := fun _ u => u) (a := ()) (Mn z) ⟨Fr.rf, SI.rf hI⟩ (fun m _ b hm q => by
    have hmb : m < Mn b := by rw [q.2.1.M]; exact hm
    exact ⟨q.1.tr (fr_finS q.2.2 hmb), q.2.tr (finS_si q.2.2 hmb)⟩)).1
theorem kpt_hi (z : Nat → Int32) {j : Nat} (h : j < 704) : kpt z (704 + j) = z j := by
  show cpZ (t0 z) 0 704 (704 + j) = z j
  rw [cpZ_at, if_pos (by omega), show 0 + (704 + j - 704) = j by omega]
  exact if_neg (by omega)
theorem dg_kept {z : Nat → Int32} (hI : Inv z) {j : Nat} (h : j < 704) : finF (kpt z) (704 + j) = t0 z j :=
  (fr_finF (kpt_inv hI) _ (by omega)).trans ((kpt_hi z h).trans (t0_at z (by omega)).symm)
theorem kpt_ei {z : Nat → Int32} (hI : Inv z) : EI (t0 z) (kpt z) :=
  ⟨Eqv.of_eq (th_inv hI (nI 0)) (fun j hj => (kpt_lo z hj).trans (t0_at z (by omega)).symm), th_inv hI (nI 0)⟩
theorem dg_fin {z : Nat → Int32} (hI : Inv z) {j : Nat} (h : j < 56) : finF (kpt z) j = finF (t0 z) j := (ev_finF (kpt_ei hI)).1.1 j h
theorem dg_y {z : Nat → Int32} (hI : Inv z) : DgP (t0 z) (cpZ (finF (kpt z)) 704 0) := fun j hj => by
  rw [cpZ_at]
  by_cases h : 0 ≤ j ∧ j < 0 + 704
  · rw [if_pos h, show 704 + (j - 0) = 704 + j by omega]; exact dg_kept hI (by omega)
  · rw [if_neg h]
    refine (fr_finF (kpt_inv hI) _ (by omega)).trans ?_
    show cpZ (t0 z) 0 704 j = t0 z j
    rw [cpZ_at, if_neg (by omega)]
theorem ev_dg {z y : Nat → Int32} (h : EI z y) (e : y 4405 = z 4405) (v : Int32) : dgF y v = dgF z v := by
  have h24 := h.2.M24
  have e1 : dg1 y v = dg1 z v := by
    unfold dg1 dgW; exact foldN_cong _ (fun w x hw => by rw [ev_wv h w e])
  have e2 : dg2 y v = dg2 z v := by
    unfold dg2; rw [e1]; unfold dgC
    exact foldN_cong _ (fun q x hq => by rw [h.1.1 _ (by omega), (ev_finF h).1.1 _ (by omega)])
  have e3 : dg3 y v = dg3 z v := by
    unfold dg3; rw [e2, h.R]; unfold dgR
    exact foldN_cong _ (fun r x hr => by unfold dgRw; exact foldN_cong _ (fun w x hw => by rw [ev_rv h hr hw]))
  have e4 : dg4 y v = dg4 z v := by
    unfold dg4; rw [e3, h.M]; unfold dgM
    refine foldN_cong _ (fun m x hm => ?_)
    have a1 : dgMp y m x 10 = dgMp z m x 10 := by unfold dgMp; exact foldN_cong _ (fun w x hw => by rw [h.1.2.2.1 m w hm hw])
    have a2 : dgMh y m (dgMp z m x 10) (hgN z m) = dgMh z m (dgMp z m x 10) (hgN z m) := by
     unfold dgMh
     exact foldN_cong _ (fun i x hi => by
      have hs : mS z m = 1 := by unfold hgN at hi; split at hi <;> first | assumption | omega
      have hl := hgN_le z m
      have := h.1.2.2.2 m (mW z m + i) hm hs (by omega)
      rw [h.1.mW hm, show 320 + 16 * m + mW z m + i = 320 + 16 * m + (mW z m + i) by omega, this])
    unfold dgM1
    rw [a1, ev_hg h hm, a2, h.1.wo h.2 hm, ev_dp h hm]
  unfold dgF; rw [e4, ev_hc h]
