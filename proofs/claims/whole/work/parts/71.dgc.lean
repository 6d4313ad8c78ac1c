/-! the class's checksum -/
def wvC (e : Nat → Int32) (ln w : Nat) : Int32 := if w = 14 then nI ln else wvI e w
def dgWc (e : Nat → Int32) (ln : Nat) (h : Int64) (k : Nat) : Int64 := foldN k (fun w h => dS h (wvC e ln w).toInt64) h
theorem dgWc_0 (e : Nat → Int32) (ln : Nat) (h : Int64) : dgWc e ln h 0 = h := rfl
theorem dgWc_s (e : Nat → Int32) (ln : Nat) (h : Int64) (k : Nat) : 31 * dgWc e ln h k + (wvC e ln k).toInt64 = dgWc e ln h (k + 1) := rfl
def dgFc (e f : Nat → Int32) (ln : Nat) (v : Int32) : Int64 := dS (dgM e (dgR e (dgC e f (dgWc e ln (dg0 v) 15) 48) (Rn e)) (Mn e)) (lN (hcN e))
theorem dgFc_e (e f : Nat → Int32) (ln : Nat) (v : Int32) : 31 * dgM e (dgR e (dgC e f (dgWc e ln (dg0 v) 15) 48) (Rn e)) (Mn e) + lN (hcN e) = dgFc e f ln v := rfl
theorem dg_hx {e y : Nat → Int32} (h : EI e y) {m k : Nat} (hm : m < Mn e) (hk : k < hgN e m) : hxI y m (nI k) = e (320 + 16 * m + mW e m + k) := by
  have hI := h.2
  have hgl := hgN_le e m
  have hc := hI.c16 hm
  have hneg : ¬ nI k < 0 := kn_neg (by omega)
  unfold hxI
  rw [if_neg hneg, nn_nI (by omega), ev_hs h hm]
  unfold hsI; rw [if_pos hk]
/-! looking ahead -/
def ctK (t : Nat → Int32) (q : Nat) : Nat := firstN 300 (fun k => decide (2 ≤ mS (psF t k) q))
def ctI (t : Nat → Int32) (q : Nat) : Int32 := if mS (psF t (ctK t q)) q < 2 then -1000 else nI (ctK t q)
theorem ct_at {t : Nat → Int32} {q k : Nat} (h : ∀ j, j < k → mS (psF t j) q < 2) (h2 : ¬ mS (psF t k) q < 2) (hk : k ≤ 300) : ctI t q = nI k := by
  have e : ctK t q = k := by
    unfold ctK
    rcases Nat.lt_or_ge k 300 with l | l
    · exact firstN_is (fun j hj => decide_eq_false (by have := h j hj; omega)) l (decide_eq_true (by omega))
    · have e3 : k = 300 := by omega
      subst e3
      exact firstN_none (fun j hj => decide_eq_false (by have := h j hj; omega))
  unfold ctI; rw [e, if_neg h2]
theorem ct_no {t : Nat → Int32} {q : Nat} (h : ∀ j, j ≤ 300 → mS (psF t j) q < 2) : ctI t q = -1000 := by
  have e : ctK t q = 300 := firstN_none (fun j hj => decide_eq_false (by have := h j (by omega); omega))
  unfold ctI; rw [e, if_pos (h 300 (by omega))]
def stI (t e : Nat → Int32) : Nat := if msN e 0 = 0 ∨ ¬ msN e 1 = 0 then 0 else if msN (psF t 60) 0 = msN e 0 then 1 else 0
theorem le_t {t : Nat → Int32} {q k : Nat} (h : ∀ j, j ≤ k → mS (psF t j) q < 2) (h2 : mS (psF t (k + 1)) q < 2) : ∀ j, j ≤ k + 1 → mS (psF t j) q < 2 := fun j hj => by
  rcases Nat.lt_or_ge j (k + 1) with l | l
  · exact h j (by omega)
  · rw [show j = k + 1 by omega]; exact h2
