/-! patience under the relation -/
section RB
variable {z e : Nat → Int32} {g : Nat → Int64} {nx cn : Nat} {se : Nat → Nat → Int32} {sg : Nat → Nat → Int64} {b : Nat → Int32} {ln : Nat}
/-- what the lookers answer -/
theorem t0_ei (hI : Inv z) : EI z (t0 z) := ⟨Eqv.of_eq hI (fun j hj => t0_at z (by omega)), hI⟩
end RB
