/-! the class's world: HostageRings at x, its State, trial, History, text behind it -/
def HrC (D : va_G) (cs : Nat → ClassId) (x : Nat) (e : Nat → Int32) (g : Nat → Int64) (e1 : Nat → Int32) (g1 : Nat → Int64) (nx cn : Nat) (se : Nat → Nat → Int32) (sg : Nat → Nat → Int64) (b nn : Nat → Int32) (wd ln pa : Nat) (ft : Int32) (H : Heap) : Prop :=
  va_at D vwCl (x, .inr (5, [.ref (x + 1), .ref (x + 60), .ref (x + 119), .ref (x + 357)])) H ∧ StC D cs (x + 1) e g H ∧ StC D cs (x + 60) e1 g1 H ∧ HiC D cs (x + 119) nx cn se sg H ∧
    va_at D vwCl (x + 357, .inr (0, [.ref (x + 357 + 1), .ref (x + 357 + 2), .ref wd, .int (nI ln), .int (nI pa), .int ft])) H ∧ va_at D vwCl (x + 357 + 1, .inl (cs 1, 150, .inl b)) H ∧ va_at D vwCl (x + 357 + 2, .inl (cs 0, 5, .inl nn)) H
abbrev rgR (x : Nat) : Nat → Prop := fun a => x ≤ a ∧ a < x + 360
theorem wi_n {v lo hi : Nat} (h : lo ≤ v) (h2 : v ≤ hi) (hh : hi < 2 ^ 31) : wiB (nI v) (nI lo) (nI hi) = true := wi_iff.mpr ⟨nI_le h (by omega), nI_le h2 hh⟩
theorem lsB_n {r n : Nat} (h : r < n) (hn : n ≤ 6) : lsB (nI r) n = true := by rw [lsB_nI (by omega) (by omega)]; exact decide_eq_true h
