/-! the whole relation of the reference's row z and the class (the trial, the numbers read, the place in the text stand free) -/
def RelA (z : Nat → Int32) (e : Nat → Int32) (g : Nat → Int64) (nx cn : Nat) (se : Nat → Nat → Int32) (sg : Nat → Nat → Int64) (b : Nat → Int32) (ln : Nat) : Prop :=
  EI z e ∧ Msk e g ∧ RelH z nx cn se sg ∧ z 4405 = nI ln ∧ ln ≤ 150 ∧ ∀ i, i < ln → z (4224 + i) = b i
section RA
variable {z z' e : Nat → Int32} {g : Nat → Int64} {nx cn : Nat} {se : Nat → Nat → Int32} {sg : Nat → Nat → Int64} {b : Nat → Int32} {ln : Nat}
theorem RelA.invZ (h : RelA z e g nx cn se sg b ln) : InvZ z := h.2.2.1.invZ h.1.2 h.2.2.2.1 h.2.2.2.2.1
theorem RelA.tl (h : RelA z e g nx cn se sg b ln) : Tl z = ln := by unfold Tl; rw [h.2.2.2.1]; exact nn_nI (by have := h.2.2.2.2.1; omega)
theorem RelA.sv (h : RelA z e g nx cn se sg b ln) : Sv z = cn := h.2.2.1.sv
theorem RelA.txt (h : RelA z e g nx cn se sg b ln) : TXT z b ln := ⟨h.2.2.2.2.2, h.2.2.2.1, h.2.2.2.2.1⟩
/-- nothing that counts has changed -/
theorem RelA.eq (h : RelA z e g nx cn se sg b ln) (q : ∀ j, j < 704 ∨ (1408 ≤ j ∧ j < 4374) ∨ j = 4404 ∨ j = 4405 → z' j = z j) : RelA z' e g nx cn se sg b ln :=
  ⟨h.1.lo (fun j hj => q j (Or.inl hj)), h.2.1, h.2.2.1.fr (fun j h1 h2 => q j (by omega)) (q _ (by omega)), (q _ (by omega)).trans h.2.2.2.1, h.2.2.2.2.1, fun i hi => (q _ (by have := h.2.2.2.2.1; omega)).trans (h.2.2.2.2.2 i hi)⟩
theorem RelA.thr (h : RelA z e g nx cn se sg b ln) (v : Int32) : RelA (upd z 4403 v) e g nx cn se sg b ln := h.eq (fun j hj => by rw [upd_at, if_neg (by omega)])
theorem svT_hi (z : Nat → Int32) (hv : Sv z ≤ 4) {j : Nat} (h : 4224 ≤ j) (h4 : j ≠ 4404) (h3 : j ≠ 4403) : svT z j = z j := by
  unfold svT; rw [saveF_hi _ hv h h4, upd_at, if_neg h3]
theorem RelA.save (h : RelA z e g nx cn se sg b ln) : RelA (svT z) e g ((nx + 1) % 4) (min (cn + 1) 4) (hsE se nx (cfF (se nx) e)) (hsG sg nx (cgM (sg nx) g (Mn e))) b ln := by
  have hv : Sv z ≤ 4 := by rw [h.sv]; exact h.2.2.1.1.2.2
  have hn := h.2.2.2.2.1
  exact ⟨h.1.lo (fun j hj => svT_lo z (by omega)), h.2.1, h.2.2.1.save h.1 h.2.1, (svT_hi z hv (by omega) (by omega) (by omega)).trans h.2.2.2.1, hn, fun i hi => (svT_hi z hv (by omega) (by omega) (by omega)).trans (h.2.2.2.2.2 i hi)⟩
/-- the state goes on, all else stands -/
theorem RelA.go (h : RelA z e g nx cn se sg b ln) {e' : Nat → Int32} {g' : Nat → Int64} (hE : EI z' e') (hG : Msk e' g') (hF : Fr z z') : RelA z' e' g' nx cn se sg b ln :=
  ⟨hE, hG, h.2.2.1.fr (fun j h1 h2 => hF j (by omega)) (hF _ (by omega)), (hF _ (by omega)).trans h.2.2.2.1, h.2.2.2.2.1, fun i hi => (hF _ (by omega)).trans (h.2.2.2.2.2 i hi)⟩
/-- a command, saved ahead -/
theorem RelA.cmd (h : RelA z e g nx cn se sg b ln) {k : Nat} (hk : k < 8) (a1 a2 a3 a4 a5 : Int32) :
    RelA (crF (svT z) k a1 a2 a3 a4 a5) (crF e k a1 a2 a3 a4 a5) (cgX e g k a1 a2 a3 a4 a5) ((nx + 1) % 4) (min (cn + 1) 4) (hsE se nx (cfF (se nx) e)) (hsG sg nx (cgM (sg nx) g (Mn e))) b ln :=
  h.save.go (ev_crF h.save.1 hk _ _ _ _ _) (cr_msk (ev_R h.1) h.2.1 hk _ _ _ _ _) (fr_crF h.save.1.2 hk _ _ _ _ _)
theorem RelA.why (h : RelA z e g nx cn se sg b ln) (k : Nat) (a1 a2 a3 a4 a5 : Int32) : crW e k a1 a2 a3 a4 a5 = crW z k a1 a2 a3 a4 a5 := ev_crW h.1 k _ _ _ _ _
theorem svT_ei (hI : Inv z) : EI z (svT z) := ⟨svT_eqv hI, hI⟩
theorem svT_why (hI : Inv z) (k : Nat) (a1 a2 a3 a4 a5 : Int32) : crW (svT z) k a1 a2 a3 a4 a5 = crW z k a1 a2 a3 a4 a5 := ev_crW (svT_ei hI) k _ _ _ _ _
theorem RelA.sweep (h : RelA z e g nx cn se sg b ln) : RelA (swF (svT z)) (swF e) (swG g (swN e) (Mn e)) ((nx + 1) % 4) (min (cn + 1) 4) (hsE se nx (cfF (se nx) e)) (hsG sg nx (cgM (sg nx) g (Mn e))) b ln ∧ swN e = swN (svT z) := by
  refine ⟨h.save.go (ev_sw h.save.1) (sw_msk (ev_R h.1) h.2.1) (fun j hj => ?_), ev_swN h.save.1⟩
  have hM := h.save.1.2.M24
  have hn : swN (svT z) ≤ Mn (svT z) := firstN_le _ _
  unfold swF
  rw [upd_at, if_neg (by omega), upd_at, if_neg (by omega)]
  unfold swK
  rw [if_neg (by omega), if_neg (by omega)]
theorem RelA.undo (h : RelA z e g nx cn se sg b ln) (h1 : 1 ≤ cn) : RelA (udF z) (cfF e (se ((nx + 3) % 4))) (cgM g (sg ((nx + 3) % 4)) (Mn (se ((nx + 3) % 4)))) ((nx + 3) % 4) (cn - 1) se sg b ln := by
  have hE := h.2.2.1.undoE h1 e g
  have hn := h.2.2.2.2.1
  exact ⟨hE.1, hE.2, h.2.2.1.undo h1, (udF_hi z (by omega) (by omega) (by omega)).trans h.2.2.2.1, hn, fun i hi => (udF_hi z (by omega) (by omega) (by omega)).trans (h.2.2.2.2.2 i hi)⟩
theorem RelA.type (h : RelA z e g nx cn se sg b ln) (hl : ln < 150) (x : Int32) : RelA (tyF z x) e g nx cn se sg (upd b ln x) (ln + 1) := by
  have ht := h.tl
  have hq : ∀ j, j ≠ 4403 → j ≠ 4405 → j ≠ 4224 + ln → tyF z x j = z j := fun j h1 h2 h3 => by
    unfold tyF; rw [upd_at, if_neg h2, upd_at, if_neg (by rw [ht]; exact h3), t0_at z h1]
  refine ⟨h.1.lo (fun j hj => hq j (by omega) (by omega) (by omega)), h.2.1, h.2.2.1.fr (fun j h1 h2 => hq j (by omega) (by omega) (by omega)) (hq _ (by omega) (by omega) (by omega)), ?_, by omega, fun i hi => ?_⟩
  · unfold tyF; rw [upd_at, if_pos rfl, ht]
  · rw [upd_at]
    by_cases q : i = ln
    · rw [if_pos q, q]; unfold tyF; rw [upd_at, if_neg (by omega), upd_at, if_pos (by rw [ht])]
    · rw [if_neg q, hq _ (by omega) (by omega) (by omega)]; exact h.2.2.2.2.2 i (by omega)
theorem RelA.clear (h : RelA z e g nx cn se sg b ln) : RelA (upd (t0 z) 4405 (nI 0)) e g nx cn se sg b 0 := by
  have hq : ∀ j, j ≠ 4403 → j ≠ 4405 → upd (t0 z) 4405 (nI 0) j = z j := fun j h1 h2 => by rw [upd_at, if_neg h2, t0_at z h1]
  exact ⟨h.1.lo (fun j hj => hq j (by omega) (by omega)), h.2.1, h.2.2.1.fr (fun j h1 h2 => hq j (by omega) (by omega)) (hq _ (by omega) (by omega)), by rw [upd_at, if_pos rfl], by omega, fun i hi => absurd hi (Nat.not_lt_zero i)⟩
end RA
