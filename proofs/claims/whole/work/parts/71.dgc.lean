/-! the class's checksum -/
def wvC (e : Nat → Int32) (ln w : Nat) : Int32 := if w = 14 then nI ln else wvI e w
def dgWc (e : Nat → Int32) (ln : Nat) (h : Int64) (k : Nat) : Int64 := foldN k (fun w h => dS h (wvC e ln w).toInt64) h
theorem dgWc_0 (e : Nat → Int32) (ln : Nat) (h : Int64) : dgWc e ln h 0 = h := rfl
theorem dgWc_s (e : Nat → Int32) (ln : Nat) (h : Int64) (k : Nat) : 31 * dgWc e ln h k + (wvC e ln k).toInt64 = dgWc e ln h (k + 1) := rfl
def dgFc (e f : Nat → Int32) (ln : Nat) (v : Int32) : Int64 := dS (dgM e (dgR e (dgC e f (dgWc e ln (dg0 v) 15) 48) (Rn e)) (Mn e)) (lN (hcN e))
theorem dgFc_e (e f : Nat → Int32) (ln : Nat) (v : Int32) : 31 * dgM e (dgR e (dgC e f (dgWc e ln (dg0 v) 15) 48) (Rn e)) (Mn e) + lN (hcN e) = dgFc e f ln v := rfl
theorem dg_hx {e y : Nat → Int32} (h : EI e y) {m k : Nat} (hm : m < Mn e) (hk : k < hgN e m) : hxI y m (nI k) = e (320 + 16 * m + mW e m + k) := by
  have hI := h.2
  have hgl := hgN_le e m
  have hc := hI.c16 hm
  have hneg : ¬ nI k < 0 := kn_neg (by omega)
  unfold hxI
  rw [if_neg hneg, nn_nI (by omega), ev_hs h hm]
  unfold hsI; rw [if_pos hk]
