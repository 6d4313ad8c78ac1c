/-! the relation of the reference's row and the class: the undo stack -/
def sav (z : Nat → Int32) (k : Nat) : Nat → Int32 := fun j => z (1408 + k * 704 + j)
theorem EI.lo {z z' y : Nat → Int32} (h : EI z y) (e : ∀ j, j < 704 → z' j = z j) : EI z' y := by
  have hI : Inv z' := st_inv h.2 e
  exact ⟨(Eqv.of_eq hI (fun j hj => (e j hj).symm)).tr h.1, hI⟩
theorem EI.tr {z y x : Nat → Int32} (h : EI z y) (h2 : EI y x) : EI z x := ⟨h.1.tr h2.1, h.2⟩
def RelH (z : Nat → Int32) (nx cn : Nat) (se : Nat → Nat → Int32) (sg : Nat → Nat → Int64) : Prop :=
  (z 4404 = nI cn ∧ nx < 4 ∧ cn ≤ 4) ∧ ∀ t, t < cn → EI (sav z (cn - 1 - t)) (se ((nx + 3 - t) % 4)) ∧ Msk (se ((nx + 3 - t) % 4)) (sg ((nx + 3 - t) % 4))
section RH
variable {z z' : Nat → Int32} {nx cn : Nat} {se : Nat → Nat → Int32} {sg : Nat → Nat → Int64}
theorem RelH.sv (h : RelH z nx cn se sg) : Sv z = cn := by
  unfold Sv; rw [h.1.1]; exact nn_nI (by have := h.1.2.2; omega)
theorem RelH.fr (h : RelH z nx cn se sg) (e : ∀ j, 1408 ≤ j → j < 4224 → z' j = z j) (e4 : z' 4404 = z 4404) : RelH z' nx cn se sg := by
  refine ⟨⟨e4.trans h.1.1, h.1.2⟩, fun t ht => ⟨(h.2 t ht).1.lo (fun j hj => e _ (by omega) ?_), (h.2 t ht).2⟩⟩
  have := h.1.2.2
  have h2 : cn - 1 - t ≤ 3 := by omega
  have h3 : (cn - 1 - t) * 704 ≤ 3 * 704 := Nat.mul_le_mul_right 704 h2
  omega
theorem RelH.rows (h : RelH z nx cn se sg) : ∀ k, k < cn → Inv (sav z k) := fun k hk => by
  have := (h.2 (cn - 1 - k) (by omega)).1.2
  rw [show cn - 1 - (cn - 1 - k) = k by omega] at this
  exact this
theorem RelH.invZ (h : RelH z nx cn se sg) (hI : Inv z) {n : Nat} (h5 : z 4405 = nI n) (hn : n ≤ 150) : InvZ z := by
  have hs := h.sv
  have ht : Tl z = n := by unfold Tl; rw [h5]; exact nn_nI (by omega)
  refine ⟨hI, ⟨by rw [hs]; exact h.1.1, by rw [hs]; exact h.1.2.2⟩, fun k hk => h.rows k (by omega), by rw [ht]; exact h5, by omega⟩
theorem svT_4404 (z : Nat → Int32) : svT z 4404 = nI (svV (Sv z) + 1) := by unfold svT saveF; rw [upd_at, if_pos rfl]
theorem svT_new (z : Nat → Int32) {v : Nat} (hv : Sv z = v) (hv4 : v ≤ 4) {j : Nat} (hj : j < 704) : sav (svT z) (svV v) j = z j := by
  have h3 : svV v ≤ 3 := by unfold svV; split <;> omega
  have h4 : svV v * 704 ≤ 3 * 704 := Nat.mul_le_mul_right 704 h3
  unfold sav svT saveF
  rw [hv, upd_at, if_neg (by omega), cpZ_at, if_pos (by omega), show 0 + (1408 + svV v * 704 + j - (1408 + svV v * 704)) = j by omega]
  unfold svA
  split
  · rw [upd_at, if_neg (by omega)]; unfold shK; rw [if_neg (by omega), upd_at, if_neg (by omega)]
  · rw [upd_at, if_neg (by omega)]
theorem svT_old (z : Nat → Int32) {v k : Nat} (hv : Sv z = v) (hv4 : v ≤ 4) (hk : k < svV v) {j : Nat} (hj : j < 704) : sav (svT z) k j = sav z (if v = 4 then k + 1 else k) j := by
  have h3 : svV v ≤ 3 := by unfold svV; split <;> omega
  have hk2 : k * 704 + 704 ≤ svV v * 704 := by
    have : (k + 1) * 704 ≤ svV v * 704 := Nat.mul_le_mul_right 704 hk
    omega
  have h4 : svV v * 704 ≤ 3 * 704 := Nat.mul_le_mul_right 704 h3
  unfold sav svT saveF
  rw [hv, upd_at, if_neg (by omega), cpZ_at, if_neg (by omega)]
  unfold svA
  by_cases e : v = 4
  · rw [if_pos e, if_pos e, upd_at, if_neg (by omega)]; unfold shK
    rw [if_pos (by omega), upd_at, if_neg (by omega)]
    exact congrArg z (by omega)
  · rw [if_neg e, if_neg e, upd_at, if_neg (by omega)]
theorem RelH.save (h : RelH z nx cn se sg) {e : Nat → Int32} {g : Nat → Int64} (hE : EI z e) (hG : Msk e g) : RelH (svT z) ((nx + 1) % 4) (min (cn + 1) 4) (hsE se nx (cfF (se nx) e)) (hsG sg nx (cgM (sg nx) g (Mn e))) := by
  have hs := h.sv
  obtain ⟨⟨h4, hnx, hcn⟩, hr⟩ := h
  have hV : svV cn + 1 = min (cn + 1) 4 := by unfold svV; split <;> omega
  refine ⟨⟨by rw [svT_4404, hs, hV], by omega, by omega⟩, fun t ht => ?_⟩
  cases t with
  | zero =>
    have e1 : ((nx + 1) % 4 + 3 - 0) % 4 = nx := by omega
    rw [e1]
    unfold hsE hsG
    rw [if_pos rfl, if_pos rfl]
    have hIe := ev_R hE
    refine ⟨(hE.tr (cf_ev (se nx) hIe)).lo (fun j hj => ?_), cf_msk (se nx) (sg nx) hIe hG⟩
    rw [show min (cn + 1) 4 - 1 - 0 = svV cn by omega]
    exact svT_new z hs hcn hj
  | succ t =>
    have e1 : ((nx + 1) % 4 + 3 - (t + 1)) % 4 = (nx + 3 - t) % 4 := by omega
    have e2 : (nx + 3 - t) % 4 ≠ nx := by omega
    have htc : t < cn := by omega
    rw [e1]
    unfold hsE hsG
    rw [if_neg e2, if_neg e2]
    refine ⟨(hr t htc).1.lo (fun j hj => ?_), (hr t htc).2⟩
    rw [svT_old z hs hcn (k := min (cn + 1) 4 - 1 - (t + 1)) (by omega) hj]
    by_cases e : cn = 4
    · rw [if_pos e, show min (cn + 1) 4 - 1 - (t + 1) + 1 = cn - 1 - t by omega]
    · rw [if_neg e, show min (cn + 1) 4 - 1 - (t + 1) = cn - 1 - t by omega]
theorem udF_lo (z : Nat → Int32) {j : Nat} (hj : j < 704) (hs : 1 ≤ Sv z) (h4 : Sv z ≤ 4) : udF z j = sav z (Sv z - 1) j := by
  have h3 : (Sv z - 1) * 704 ≤ 3 * 704 := Nat.mul_le_mul_right 704 (by omega)
  unfold udF sav
  rw [cpZ_at, if_pos (by omega), upd_at, if_neg (by omega), t0_at z (by omega)]
  exact congrArg z (by omega)
theorem udF_hi (z : Nat → Int32) {j : Nat} (hj : 704 ≤ j) (h4 : j ≠ 4404) (h3 : j ≠ 4403) : udF z j = z j := by
  unfold udF
  rw [cpZ_at, if_neg (by omega), upd_at, if_neg h4, t0_at z h3]
theorem udF_4404 (z : Nat → Int32) : udF z 4404 = nI (Sv z - 1) := by unfold udF; rw [cpZ_at, if_neg (by omega), upd_at, if_pos rfl]
theorem RelH.undo (h : RelH z nx cn se sg) (h1 : 1 ≤ cn) : RelH (udF z) ((nx + 3) % 4) (cn - 1) se sg := by
  have hs := h.sv
  obtain ⟨⟨h4, hnx, hcn⟩, hr⟩ := h
  refine ⟨⟨by rw [udF_4404, hs], by omega, by omega⟩, fun t ht => ?_⟩
  have hh := hr (t + 1) (by omega)
  have e1 : ((nx + 3) % 4 + 3 - t) % 4 = (nx + 3 - (t + 1)) % 4 := by omega
  rw [e1]
  refine ⟨hh.1.lo (fun j hj => ?_), hh.2⟩
  have h3 : (cn - 1 - (t + 1)) * 704 ≤ 3 * 704 := Nat.mul_le_mul_right 704 (by omega)
  rw [show cn - 1 - 1 - t = cn - 1 - (t + 1) by omega]
  exact udF_hi z (by omega) (by omega) (by omega)
theorem RelH.undoE (h : RelH z nx cn se sg) (h1 : 1 ≤ cn) (e : Nat → Int32) (g : Nat → Int64) : EI (udF z) (cfF e (se ((nx + 3) % 4))) ∧ Msk (cfF e (se ((nx + 3) % 4))) (cgM g (sg ((nx + 3) % 4)) (Mn (se ((nx + 3) % 4)))) := by
  have hs := h.sv
  have hcn := h.1.2.2
  have hh := h.2 0 (by omega)
  rw [show (nx + 3 - 0) % 4 = (nx + 3) % 4 by rfl] at hh
  have hI := ev_R hh.1
  refine ⟨(hh.1.tr (cf_ev e hI)).lo (fun j hj => ?_), cf_msk e g hI hh.2⟩
  rw [udF_lo z hj (by omega) (by omega), hs]; rfl
end RH
