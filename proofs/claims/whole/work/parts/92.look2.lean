/-! the lookers' rows under the relation -/
section L2
variable {z e : Nat → Int32} {g : Nat → Int64} {nx cn : Nat} {se : Nat → Nat → Int32} {sg : Nat → Nat → Int64} {b : Nat → Int32} {ln : Nat}
theorem RelA.sPat (h : RelA z e g nx cn se sg b ln) {x y : Int32} (hw : wpt z x y = 0) : ∃ r, x = nI r ∧ r < 6 ∧ wpt e x y = 0 ∧ e (56 + 4 * r + 2) = z (56 + 4 * r + 2) ∧ RelS (upd (svT z) (56 + 4 * r + 2) y) (upd e (56 + 4 * r + 2) y) g nx cn se sg b ln e g := by
  have h6 := h.1.2.R6
  have hl : lsB x (Rn z) = true := by
    cases q : lsB x (Rn z) with
    | true => rfl
    | false => unfold wpt at hw; rw [if_pos q] at hw; omega
  obtain ⟨r, hr, er⟩ := (lsB_iff (by omega)).mp hl
  exact ⟨r, er, by omega, (ev_wpt h.1 x y).trans hw, h.1.1.2.1 r 2 hr (by omega), h.pat (by omega) y⟩
theorem RelA.dgp (h : RelA z e g nx cn se sg b ln) {y : Nat → Int32} (hd : DgP (t0 z) y) : RelA y e g nx cn se sg b ln :=
  h.eq (fun j hj => (hd j (by omega)).trans (t0_at z (by omega)))
theorem RelA.fin (h : RelA z e g nx cn se sg b ln) : RelA (cpZ (finF (kpt z)) 704 0) e g nx cn se sg b ln := h.dgp (dg_y h.1.2)
/-- another state of the class that is alike -/
theorem RelA.alike (h : RelA z e g nx cn se sg b ln) {e' : Nat → Int32} (hE : EI e e') : RelA z e' g nx cn se sg b ln := ⟨h.1.tr hE, h.2.1.eqv hE.2 hE.1, h.2.2⟩
theorem RelA.depth (h : RelA z e g nx cn se sg b ln) {q : Nat} (hq : q < 24) : RelA (dzK (t0 z) (q + 1)) (dcK e (q + 1)) g nx cn se sg b ln :=
  (h.alike (dc_ei (ev_R h.1) (q + 1))).eq (fun j hj => by
    have e1 : dzK (t0 z) (q + 1) j = t0 z j := by unfold dzK; rw [if_neg (by omega)]
    rw [e1]; exact t0_at z (by omega))
end L2
theorem dg_ps {z : Nat → Int32} (hI : Inv z) (k : Nat) : DgP (t0 z) (cpZ (psF (kpt z) k) 704 0) := fun j hj => by
  rw [cpZ_at]
  by_cases h : 0 ≤ j ∧ j < 0 + 704
  · rw [if_pos h, show 704 + (j - 0) = 704 + j by omega]
    exact (fr_ps (kpt_inv hI) k _ (by omega)).trans ((kpt_hi z (by omega)).trans (t0_at z (by omega)).symm)
  · rw [if_neg h]
    refine (fr_ps (kpt_inv hI) k _ (by omega)).trans ?_
    show cpZ (t0 z) 0 704 j = t0 z j
    rw [cpZ_at, if_neg (by omega)]
theorem ra_ahead {z e : Nat → Int32} {g : Nat → Int64} {nx cn : Nat} {se : Nat → Nat → Int32} {sg : Nat → Nat → Int64} {b : Nat → Int32} {ln : Nat} (h : RelA z e g nx cn se sg b ln) (k : Nat) : RelA (cpZ (psF (kpt z) k) 704 0) e g nx cn se sg b ln := h.dgp (dg_ps h.1.2 k)
theorem ra_t0 {z e : Nat → Int32} {g : Nat → Int64} {nx cn : Nat} {se : Nat → Nat → Int32} {sg : Nat → Nat → Int64} {b : Nat → Int32} {ln : Nat} (h : RelA z e g nx cn se sg b ln) : RelA (t0 z) e g nx cn se sg b ln := h.eq (fun j hj => t0_at z (by omega))
