/-! the class: words -/
theorem ls_lo {x : Int32} {n : Nat} (h : x < 0) : lsB x n = false := by
  unfold lsB wiB
  rw [show decide (nI 0 ≤ x) = false from decide_eq_false (i_nle.mpr h)]; rfl
theorem ls_hi {x : Int32} {n : Nat} (hn : n < 2 ^ 30) (h : nI n ≤ x) : lsB x n = false := by
  cases q : lsB x n with
  | false => rfl
  | true =>
    obtain ⟨k, hk, rfl⟩ := (lsB_iff hn).mp q
    have := (nI_leI (by omega) (by omega)).mp h
    omega
theorem ls_in {x : Int32} {n : Nat} (hn : n < 2 ^ 30) (h0 : ¬ x < 0) (h : ¬ nI n ≤ x) : lsB x n = true := by
  obtain ⟨k, hk, rfl⟩ := nI_of h0
  refine (lsB_iff hn).mpr ⟨k, ?_, rfl⟩
  rcases Nat.lt_or_ge k n with q | q
  · exact q
  · exact absurd ((nI_leI (by omega) hk).mpr q) h
def stkB (e : Nat → Int32) (r : Nat) : Bool := decide (e (56 + 4 * r + 3) = nI 1)
theorem stk_is {e : Nat → Int32} {r : Nat} (hI : Inv e) (hr : r < Rn e) : e (56 + 4 * r + 3) = bI (stkB e r) := by
  obtain ⟨b, hb⟩ := hI.r3 hr
  unfold stkB; rw [hb]; cases b <;> decide
def cfN (e : Nat → Int32) (r pl k : Nat) : Nat := foldN k (fun i b => b ||| 2 ^ (rF e r + (pl + i) % rL e r)) 0
theorem cfN_s (e : Nat → Int32) (r pl k : Nat) : cfN e r pl (k + 1) = cfN e r pl k ||| 2 ^ (rF e r + (pl + k) % rL e r) := rfl
theorem rg48 {e : Nat → Int32} {r : Nat} (hI : Inv e) (hr : r < Rn e) (k : Nat) : rF e r + k % rL e r < 48 := by
  have h1 := hI.l48 hr; have h2 := hI.l2 hr
  have h3 := Nat.mod_lt k (show 0 < rL e r by omega)
  omega
def hxI (e : Nat → Int32) (m : Nat) (x : Int32) : Int32 := if x < 0 then -1000 else hsI e m (nn x)
theorem and_lt {a b n : Nat} (h : a < n) : a &&& b < n := Nat.lt_of_le_of_lt Nat.and_le_left h
/-- the class's numbers for what is refused: 1 no such, 2 out of range, 3 not now -/
def c23 (w : Nat) : Nat := if w = 2 then 3 else w
def c12 (w : Nat) : Nat := if w = 0 then 0 else w + 1
theorem fc_cp {z : Nat → Int32} {r : Nat} : cpN z r = 0 ↔ fcI z r = -1000 := by
  have key : ∀ k, cpK z r k = 0 ↔ ∀ j, j < k → isC z r j = false := by
    intro k
    induction k with
    | zero => exact ⟨fun _ j hj => absurd hj (Nat.not_lt_zero j), fun _ => rfl⟩
    | succ k ih =>
      rw [cpK_s]
      have hb : isC z r k = false ↔ ¬ (mT z k = r ∧ mS z k = 2) := by unfold isC; simp
      constructor
      · intro h j hj
        have h1 : cpK z r k = 0 := by omega
        have h2 : ¬ (mT z k = r ∧ mS z k = 2) := by intro q; rw [if_pos q] at h; omega
        rcases Nat.lt_succ_iff_lt_or_eq.mp hj with q | q
        · exact ih.mp h1 j q
        · subst q; exact hb.mpr h2
      · intro h
        rw [ih.mpr (fun j hj => h j (by omega)), if_neg (hb.mp (h k (by omega)))]
  constructor
  · intro h; exact fcI_no ((key _).mp h)
  · intro h
    refine (key _).mpr (fun j hj => ?_)
    unfold fcI at h
    split at h
    · rename_i q
      have hn : ∀ k : Nat, k < 2 ^ 31 → nI k ≠ -1000 := fun k hk e => by
        have e2 := congrArg Int32.toInt e
        rw [nI_toInt hk] at e2
        have e3 : (-1000 : Int32).toInt = -1000 := by decide
        omega
      have hl : fcN z r < 2 ^ 31 := Nat.lt_of_lt_of_le q (by unfold Mn nn; exact Nat.le_of_lt (by have := Int32.toInt_lt (z 4); show (z 4).toInt.toNat < 2 ^ 31; omega))
      exact absurd h (hn _ hl)
    · rename_i q
      exact firstN_no (isC z r) (Mn z) j (by have := firstN_le (isC z r) (Mn z); unfold fcN at q; omega)
theorem wmB_t {z : Nat → Int32} {l e : Nat} (h : (¬ mS z e = 3 ∧ ¬ csN z false e &&& csN z true l = 0) ∨ (mS z e ≤ 1 ∧ ¬ csN z true e &&& (csN z false l ||| csN z true l) = 0)) : bI (wmB z l e) = nI 1 := by
  have q : wmB z l e = true := by
    unfold wmB
    rcases h with ⟨h1, h2⟩ | ⟨h1, h2⟩
    · simp [h1, h2]
    · rw [decide_eq_true h1, decide_eq_false h2]; simp
  rw [q]; rfl
theorem wmB_f {z : Nat → Int32} {l e : Nat} (h : mS z e = 3 ∨ csN z false e &&& csN z true l = 0) (h2 : 1 < mS z e ∨ csN z true e &&& (csN z false l ||| csN z true l) = 0) : nI 0 = bI (wmB z l e) := by
  have q : wmB z l e = false := by
    unfold wmB
    have a : (!decide (mS z e = 3) && !decide (csN z false e &&& csN z true l = 0)) = false := by rcases h with h | h <;> simp [h]
    have b : (decide (mS z e ≤ 1) && !decide (csN z true e &&& (csN z false l ||| csN z true l) = 0)) = false := by
      rcases h2 with h | h
      · rw [decide_eq_false (by omega)]; rfl
      · simp [h]
    rw [a, b]; rfl
  rw [q]; rfl
