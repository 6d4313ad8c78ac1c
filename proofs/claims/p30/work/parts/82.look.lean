/-! what is looked at, under the relation -/
section LK
variable {z e e1 : Nat → Int32}
theorem EI.sym {z y : Nat → Int32} (h : EI z y) : EI y z := by
  refine ⟨⟨fun j hj => (h.1.1 j hj).symm, fun r pt hr hp => (h.1.2.1 r pt (by rw [h.R] at hr; exact hr) hp).symm, fun m pt hm hp => (h.1.2.2.1 m pt (by rw [h.M] at hm; exact hm) hp).symm, fun m i hm hs hi => ?_⟩, ev_R h⟩
  have hm2 : m < Mn z := by rw [h.M] at hm; exact hm
  rw [h.1.mS hm2] at hs
  rw [h.1.mC hm2] at hi
  exact (h.1.2.2.2 m i hm2 hs hi).symm
end LK
