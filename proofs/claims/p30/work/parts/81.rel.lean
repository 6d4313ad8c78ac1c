/-! the relation of the reference's row and the class: the undo stack -/
def sav (z : Nat → Int32) (k : Nat) : Nat → Int32 := fun j => z (1408 + k * 704 + j)
theorem EI.lo {z z' y : Nat → Int32} (h : EI z y) (e : ∀ j, j < 704 → z' j = z j) : EI z' y := by
  have hI : Inv z' := st_inv h.2 e
  exact ⟨(Eqv.of_eq hI (fun j hj => (e j hj).symm)).tr h.1, hI⟩
theorem EI.tr {z y x : Nat → Int32} (h : EI z y) (h2 : EI y x) : EI z x := ⟨h.1.tr h2.1, h.2⟩
def RelH (z : Nat → Int32) (nx cn : Nat) (se : Nat → Nat → Int32) (sg : Nat → Nat → Int64) : Prop :=
  (z 4404 = nI cn ∧ nx < 4 ∧ cn ≤ 4) ∧ ∀ t, t < cn → EI (sav z (cn - 1 - t)) (se ((nx + 3 - t) % 4)) ∧ Msk (se ((nx + 3 - t) % 4)) (sg ((nx + 3 - t) % 4))
section RH
variable {z z' : Nat → Int32} {nx cn : Nat} {se : Nat → Nat → Int32} {sg : Nat → Nat → Int64}
theorem RelH.fr (h : RelH z nx cn se sg) (e : ∀ j, 1408 ≤ j → j < 4224 → z' j = z j) (e4 : z' 4404 = z 4404) : RelH z' nx cn se sg := by
  refine ⟨⟨e4.trans h.1.1, h.1.2⟩, fun t ht => ⟨(h.2 t ht).1.lo (fun j hj => e _ (by omega) ?_), (h.2 t ht).2⟩⟩
  have := h.1.2.2
  have h2 : cn - 1 - t ≤ 3 := by omega
  have h3 : (cn - 1 - t) * 704 ≤ 3 * 704 := Nat.mul_le_mul_right 704 h2
  omega
end RH
