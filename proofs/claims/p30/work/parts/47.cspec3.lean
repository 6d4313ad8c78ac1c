/-! copies of moves, of rings, of States -/
def cpT (e : Nat → Int32) (m : Nat) (e2 : Nat → Int32) (m2 : Nat) : Nat → Int32 := fun j => if 320 + 16 * m ≤ j ∧ j < 320 + 16 * m + 16 then e2 (320 + 16 * m2 + (j - (320 + 16 * m))) else e j
def cpC (e e2 : Nat → Int32) : Nat → Int32 := fun j => if 8 ≤ j ∧ j < 56 then e2 j else e j
def mv2 (e e2 : Nat → Int32) (m m2 : Nat) : Nat → Int32 := fun j => if 80 + 10 * m ≤ j ∧ j < 80 + 10 * m + 10 then e2 (80 + 10 * m2 + (j - (80 + 10 * m))) else if 320 + 16 * m ≤ j ∧ j < 320 + 16 * m + 16 then e2 (320 + 16 * m2 + (j - (320 + 16 * m))) else e j
def mg2 (g g2 : Nat → Int64) (m m2 : Nat) : Nat → Int64 := fun j => if j = 2 * m + 1 then g2 (2 * m2 + 1) else if j = 2 * m then g2 (2 * m2) else g j
def rg2 (e e2 : Nat → Int32) (r : Nat) : Nat → Int32 := fun j => if 56 + 4 * r ≤ j ∧ j < 56 + 4 * r + 4 then e2 j else e j
section CPY
variable {D : va_G} {cs : Nat → ClassId} {q : Nat} {e e2 : Nat → Int32} {g : Nat → Int64} {H H1 : Heap}
theorem StC.cp_taken {m m2 : Nat} (hm : m < 24) (h : StC D cs q e g H) (hc : va_at D vwCl (q + 12 + 2 * m, .inl (cs 0, 16, .inl (va_cpy (fun i => e2 (320 + 16 * m2 + i)) (fun i => e (320 + 16 * m + i)) 0 0 16))) H1) (hU : Same1 (q + 12 + 2 * m) H H1) : StC D cs q (cpT e m e2 m2) g H1 := by
  have o {j : Nat} (hj : j < 320 + 16 * m ∨ 320 + 16 * m + 16 ≤ j) : e j = cpT e m e2 m2 j := by unfold cpT; rw [if_neg (by omega)]
  refine h.put hU (by rw [if_neg (by omega)]; exact fun j hj => o (by omega)) (by rw [if_neg (by omega)]; exact fun j hj => o (by omega)) (by omega) (by omega) (by rw [if_neg (by omega)]; exact fun j hj => o (by omega)) (fun r' hr' => by rw [if_neg (by omega)]; exact fun pt hp => o (by omega)) (fun m' hm' => by rw [if_neg (by omega)]; exact ⟨fun pt hp => o (by omega), rfl, rfl⟩) (fun m' hm' => ?_)
  by_cases y : m' = m
  · subst y
    rw [if_pos rfl]
    refine at_congr hc (fun j hj => ?_)
    unfold va_cpy cpT
    rw [if_pos (by omega), if_pos (by omega)]
    exact congrArg e2 (by omega)
  · rw [if_neg (by omega)]; exact fun i hi => o (by omega)
theorem StC.cp_cells (h : StC D cs q e g H) (hc : va_at D vwCl (q + 1, .inl (cs 0, 48, .inl (va_cpy (fun j => e2 (8 + j)) (fun j => e (8 + j)) 0 0 48))) H1) (hU : Same1 (q + 1) H H1) : StC D cs q (cpC e e2) g H1 := by
  have o {j : Nat} (hj : j < 8 ∨ 56 ≤ j) : e j = cpC e e2 j := by unfold cpC; rw [if_neg (by omega)]
  refine h.put hU (by rw [if_neg (by omega)]; exact fun j hj => o (by omega)) ?_ (by omega) (by omega) (by rw [if_neg (by omega)]; exact fun j hj => o (by omega)) (fun r' hr' => by rw [if_neg (by omega)]; exact fun pt hp => o (by omega)) (fun m' hm' => by rw [if_neg (by omega)]; exact ⟨fun pt hp => o (by omega), rfl, rfl⟩) (fun m' hm' => by rw [if_neg (by omega)]; exact fun i hi => o (by omega))
  rw [if_pos rfl]
  refine at_congr hc (fun j hj => ?_)
  unfold va_cpy cpC
  rw [if_pos (by omega), if_pos (by omega)]
  exact congrArg e2 (by omega)
end CPY
theorem mv2_is (e e2 : Nat → Int32) {m : Nat} (hm : m < 24) (m2 : Nat) : cpT (upd (upd (upd (upd (upd (upd (upd (upd (upd (upd e (80 + 10 * m + 0) (e2 (80 + 10 * m2 + 0))) (80 + 10 * m + 1) (e2 (80 + 10 * m2 + 1))) (80 + 10 * m + 2) (e2 (80 + 10 * m2 + 2))) (80 + 10 * m + 3) (e2 (80 + 10 * m2 + 3))) (80 + 10 * m + 4) (e2 (80 + 10 * m2 + 4))) (80 + 10 * m + 5) (e2 (80 + 10 * m2 + 5))) (80 + 10 * m + 6) (e2 (80 + 10 * m2 + 6))) (80 + 10 * m + 7) (e2 (80 + 10 * m2 + 7))) (80 + 10 * m + 8) (e2 (80 + 10 * m2 + 8))) (80 + 10 * m + 9) (e2 (80 + 10 * m2 + 9))) m e2 m2 = mv2 e e2 m m2 := by
  funext j
  unfold cpT mv2
  by_cases h : 80 + 10 * m ≤ j ∧ j < 80 + 10 * m + 10
  · rw [if_neg (by omega), if_pos h]
    obtain ⟨p, hp, rfl⟩ : ∃ p, p < 10 ∧ j = 80 + 10 * m + p := ⟨j - (80 + 10 * m), by omega, by omega⟩
    rw [show 80 + 10 * m + p - (80 + 10 * m) = p by omega]
    have : p = 0 ∨ p = 1 ∨ p = 2 ∨ p = 3 ∨ p = 4 ∨ p = 5 ∨ p = 6 ∨ p = 7 ∨ p = 8 ∨ p = 9 := by omega
    rcases this with rfl | rfl | rfl | rfl | rfl | rfl | rfl | rfl | rfl | rfl <;> simp [upd_at]
  · rw [if_neg h]
    by_cases h2 : 320 + 16 * m ≤ j ∧ j < 320 + 16 * m + 16
    · rw [if_pos h2, if_pos h2]
    · rw [if_neg h2, if_neg h2]
      simp only [upd_at]
      repeat rw [if_neg (by omega)]
theorem rg2_is (e e2 : Nat → Int32) {r : Nat} (hI2 : Inv e2) (hr : r < Rn e2) : upd (upd (upd (upd e (56 + 4 * r + 0) (e2 (56 + 4 * r + 0))) (56 + 4 * r + 1) (e2 (56 + 4 * r + 1))) (56 + 4 * r + 2) (e2 (56 + 4 * r + 2))) (56 + 4 * r + 3) (bI (stkB e2 r)) = rg2 e e2 r := by
  rw [← stk_is hI2 hr]
  funext j
  unfold rg2
  by_cases h : 56 + 4 * r ≤ j ∧ j < 56 + 4 * r + 4
  · rw [if_pos h]
    obtain ⟨p, hp, rfl⟩ : ∃ p, p < 4 ∧ j = 56 + 4 * r + p := ⟨j - (56 + 4 * r), by omega, by omega⟩
    have : p = 0 ∨ p = 1 ∨ p = 2 ∨ p = 3 := by omega
    rcases this with rfl | rfl | rfl | rfl <;> simp [upd_at]
  · rw [if_neg h]
    simp only [upd_at]
    repeat rw [if_neg (by omega)]
def cfR (e e2 : Nat → Int32) (k : Nat) : Nat → Int32 := fun j => if 56 ≤ j ∧ j < 56 + 4 * k then e2 j else upd (cpC e e2) 3 (nI (Rn e2)) j
def cfM (e e2 : Nat → Int32) (k : Nat) : Nat → Int32 := fun j => if (80 ≤ j ∧ j < 80 + 10 * k) ∨ (320 ≤ j ∧ j < 320 + 16 * k) then e2 j else upd (cfR e e2 (Rn e2)) 4 (nI (Mn e2)) j
def cgM (g g2 : Nat → Int64) (k : Nat) : Nat → Int64 := fun j => if j < 2 * k then g2 j else g j
def cfF (e e2 : Nat → Int32) : Nat → Int32 := fun j => if j < 56 then e2 j else if j < 80 then (if j < 56 + 4 * Rn e2 then e2 j else e j) else if j < 320 then (if j < 80 + 10 * Mn e2 then e2 j else e j) else if j < 704 then (if j < 320 + 16 * Mn e2 then e2 j else e j) else e j
theorem cfR_0 (e e2 : Nat → Int32) : cfR e e2 0 = upd (cpC e e2) 3 (nI (Rn e2)) := by funext j; unfold cfR; rw [if_neg (by omega)]
theorem cfR_s (e e2 : Nat → Int32) (k : Nat) : rg2 (cfR e e2 k) e2 k = cfR e e2 (k + 1) := by
  funext j; unfold rg2 cfR
  by_cases h : 56 + 4 * k ≤ j ∧ j < 56 + 4 * k + 4
  · rw [if_pos h, if_pos (by omega)]
  · rw [if_neg h]
    by_cases h2 : 56 ≤ j ∧ j < 56 + 4 * k
    · rw [if_pos h2, if_pos (by omega)]
    · rw [if_neg h2, if_neg (by omega)]
theorem cfR_3 (e e2 : Nat → Int32) (k : Nat) : cfR e e2 k 3 = nI (Rn e2) := by unfold cfR; rw [if_neg (by omega), upd_at, if_pos rfl]
theorem cfM_0 (e e2 : Nat → Int32) : cfM e e2 0 = upd (cfR e e2 (Rn e2)) 4 (nI (Mn e2)) := by funext j; unfold cfM; rw [if_neg (by omega)]
theorem cfM_s (e e2 : Nat → Int32) {k : Nat} (hk : k < 24) : mv2 (cfM e e2 k) e2 k k = cfM e e2 (k + 1) := by
  funext j; unfold mv2 cfM
  by_cases h : 80 + 10 * k ≤ j ∧ j < 80 + 10 * k + 10
  · rw [if_pos h, if_pos (by omega)]; exact congrArg e2 (by omega)
  · rw [if_neg h]
    by_cases h3 : 320 + 16 * k ≤ j ∧ j < 320 + 16 * k + 16
    · rw [if_pos h3, if_pos (by omega)]; exact congrArg e2 (by omega)
    · rw [if_neg h3]
      by_cases h2 : (80 ≤ j ∧ j < 80 + 10 * k) ∨ (320 ≤ j ∧ j < 320 + 16 * k)
      · rw [if_pos h2, if_pos (by omega)]
      · rw [if_neg h2, if_neg (by omega)]
theorem cfM_4 (e e2 : Nat → Int32) (k : Nat) : cfM e e2 k 4 = nI (Mn e2) := by unfold cfM; rw [if_neg (by omega), upd_at, if_pos rfl]
theorem cgM_0 (g g2 : Nat → Int64) : cgM g g2 0 = g := by funext j; unfold cgM; rw [if_neg (by omega)]
theorem cgM_s (g g2 : Nat → Int64) (k : Nat) : mg2 (cgM g g2 k) g2 k k = cgM g g2 (k + 1) := by
  funext j; unfold mg2 cgM
  by_cases h1 : j = 2 * k + 1
  · rw [if_pos h1, if_pos (by omega), h1]
  · rw [if_neg h1]
    by_cases h0 : j = 2 * k
    · rw [if_pos h0, if_pos (by omega), h0]
    · rw [if_neg h0]
      by_cases h2 : j < 2 * k
      · rw [if_pos h2, if_pos (by omega)]
      · rw [if_neg h2, if_neg (by omega)]
theorem cfF_is (e : Nat → Int32) {e2 : Nat → Int32} (hI2 : Inv e2) : upd (upd (upd (upd (upd (upd (cfM e e2 (Mn e2)) 1 (e2 1)) 2 (e2 2)) 0 (e2 0)) 5 (e2 5)) 6 (e2 6)) 7 (e2 7) = cfF e e2 := by
  have h6 := hI2.R6; have h24 := hI2.M24
  funext j
  unfold cfF
  by_cases h8 : j < 8
  · rw [if_pos (by omega)]
    have : j = 0 ∨ j = 1 ∨ j = 2 ∨ j = 3 ∨ j = 4 ∨ j = 5 ∨ j = 6 ∨ j = 7 := by omega
    rcases this with rfl | rfl | rfl | rfl | rfl | rfl | rfl | rfl
    · simp [upd_at]
    · simp [upd_at]
    · simp [upd_at]
    · simp only [upd_at]
      repeat rw [if_neg (by omega)]
      unfold cfM; rw [if_neg (by omega), upd_at, if_neg (by omega), cfR_3]; exact hI2.z3.symm
    · simp only [upd_at]
      repeat rw [if_neg (by omega)]
      rw [cfM_4]; exact hI2.z4.symm
    · simp [upd_at]
    · simp [upd_at]
    · simp [upd_at]
  · have e0 : upd (upd (upd (upd (upd (upd (cfM e e2 (Mn e2)) 1 (e2 1)) 2 (e2 2)) 0 (e2 0)) 5 (e2 5)) 6 (e2 6)) 7 (e2 7) j = cfM e e2 (Mn e2) j := by
      simp only [upd_at]
      repeat rw [if_neg (by omega)]
    rw [e0]
    unfold cfM cfR cpC
    rw [upd_at, if_neg (show ¬ j = 4 by omega), upd_at, if_neg (show ¬ j = 3 by omega)]
    by_cases a : j < 56
    · rw [if_pos a, if_neg (by omega), if_neg (by omega), if_pos (by omega)]
    · rw [if_neg a]
      by_cases b : j < 80
      · rw [if_pos b, if_neg (by omega)]
        by_cases c : j < 56 + 4 * Rn e2
        · rw [if_pos c, if_pos (by omega)]
        · rw [if_neg c, if_neg (by omega), if_neg (by omega)]
      · rw [if_neg b]
        by_cases c : j < 320
        · rw [if_pos c]
          by_cases d : j < 80 + 10 * Mn e2
          · rw [if_pos d, if_pos (by omega)]
          · rw [if_neg d, if_neg (by omega), if_neg (by omega), if_neg (by omega)]
        · rw [if_neg c]
          by_cases d : j < 704
          · rw [if_pos d]
            by_cases f : j < 320 + 16 * Mn e2
            · rw [if_pos f, if_pos (by omega)]
            · rw [if_neg f, if_neg (by omega), if_neg (by omega), if_neg (by omega)]
          · rw [if_neg d, if_neg (by omega), if_neg (by omega), if_neg (by omega)]
