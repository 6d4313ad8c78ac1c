/-! the reference's world: one row of numbers z holds all its rows and fields: state 0, kept 704, stack 1408, text 4224, numbers 4374, depths 4379, thrown 4403, saved 4404, textLength 4405, place 4406, kind 4407 -/
theorem at_congr {D : va_G} {cl : List vw_C} {a n : Nat} {cA : ClassId} {f g : Nat → Int32} {H : Heap} (h : va_at D cl (a, .inl (cA, n, .inl f)) H) (hfg : ∀ j, j < n → f j = g j) : va_at D cl (a, .inl (cA, n, .inl g)) H := by
  show H[a]? = some (vp_cell _ _)
  have h' : H[a]? = some (vp_cell cA (n, .inl f)) := h
  rw [h', vp_cell_i, vp_cell_i]
  unfold arrV
  congr 2
  exact congrArg Array.ofFn (funext fun j => congrArg Value.int (hfg j.val j.isLt))
theorem upd_at {f : Nat → Int32} {k j : Nat} {x : Int32} : upd f k x j = if j = k then x else f j := rfl
def mdO (a : Nat) (z : Nat → Int32) : List Value := [.int (z 4403), .ref (a + 1), .ref (a + 2), .ref (a + 3), .int (z 4404), .ref (a + 4), .int (z 4405), .int (z 4406), .int (z 4407), .ref (a + 5), .ref (a + 6)]
section MD
variable {D : va_G} {cI : ClassId} {a : Nat} {z : Nat → Int32} {H H1 : Heap}
end MD
