/-! words in a text -/
def sbB (b : Nat → Int32) (k st en : Nat) : Bool := decide (wln k = en - st) && !anyN (wln k) (fun j => !decide (wch k j = b (st + j)))
theorem sb_no {b : Nat → Int32} {k st en j : Nat} (h : wln k = en - st) (hj : j < wln k) (hc : ¬ wch k j = b (st + j)) : sbB b k st en = false := by
  unfold sbB
  rw [anyN_iff.mpr ⟨j, hj, by simp [hc]⟩]; simp
theorem sb_yes {b : Nat → Int32} {k st en : Nat} (h : wln k = en - st) (hc : ∀ j, j < wln k → wch k j = b (st + j)) : sbB b k st en = true := by
  unfold sbB
  rw [anyN_false (fun j hj => by simp [hc j hj]), decide_eq_true h]; rfl
def wbN (b : Nat → Int32) (st en : Nat) : Nat := firstN 8 (fun k => sbB b k st en)
def wbV (aW : Nat → Nat) (k : Nat) : Value := if k < 8 then .ref (aW k) else .null
theorem wbV_lt {aW : Nat → Nat} {k : Nat} (h : k < 8) : wbV aW k = .ref (aW k) := if_pos h
theorem wbV_8 {aW : Nat → Nat} : wbV aW 8 = .null := rfl
theorem wb_is {b : Nat → Int32} {st en k : Nat} (h : ∀ j, j < k → sbB b j st en = false) (hk : k < 8) (h1 : sbB b k st en = true) : wbN b st en = k := firstN_is h hk h1
theorem wb_no {b : Nat → Int32} {st en : Nat} (h : ∀ j, j < 8 → sbB b j st en = false) : wbN b st en = 8 := firstN_none h
theorem kn_neg {k : Nat} (h : k < 2 ^ 31) : ¬ nI k < 0 := by
  rw [i_nlt, Int32.le_iff_toInt_le, nI_toInt h]
  have e : (0 : Int32).toInt = 0 := by decide
  omega
