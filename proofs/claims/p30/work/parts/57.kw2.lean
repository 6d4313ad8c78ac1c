/-! words in a text -/
theorem kn_neg {k : Nat} (h : k < 2 ^ 31) : ¬ nI k < 0 := by
  rw [i_nlt, Int32.le_iff_toInt_le, nI_toInt h]
  have e : (0 : Int32).toInt = 0 := by decide
  omega
