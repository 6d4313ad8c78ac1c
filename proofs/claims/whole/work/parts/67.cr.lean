/-! a command's numbers as naturals; what it does, kind by kind -/
theorem wmv_nat {z : Nat → Int32} {f fp t tp n : Int32} (hI : Inv z) (h : wmv z f fp t tp n = 0) : ∃ qf qa qt qb qn, f = nI qf ∧ fp = nI qa ∧ t = nI qt ∧ tp = nI qb ∧ n = nI qn ∧ qf < Rn z ∧ qt < Rn z ∧ qa ≤ 99 ∧ qb ≤ 99 ∧ qn ≤ 16 := by
  have h6 := hI.R6
  cases q1 : lsB f (Rn z) with
  | false => exfalso; simp [wmv, q1] at h
  | true =>
    cases q2 : lsB t (Rn z) with
    | false => exfalso; simp [wmv, q1, q2] at h
    | true =>
      obtain ⟨qf, hf, ef⟩ := (lsB_iff (by omega)).mp q1
      obtain ⟨qt, ht, et⟩ := (lsB_iff (by omega)).mp q2
      have hnf : nn (nI qf) = qf := nn_nI (by omega)
      have hnt : nn (nI qt) = qt := nn_nI (by omega)
      have hl1 := hI.l16 hf
      have hl2 := hI.l16 ht
      cases q3 : wiB fp (nI 0) (nI 99) with
      | false => have := wmv_2 (n := n) (tp := tp) q1 q2 (Or.inl q3); omega
      | true =>
        cases q4 : wiB tp (nI 0) (nI 99) with
        | false => have := wmv_2 (n := n) (fp := fp) q1 q2 (Or.inr q4); omega
        | true =>
          rw [wmv_min (by have := hI.M24; omega) q1 q2 (by rw [ef, hnf]; omega) (by rw [et, hnt]; omega), ef, et, hnf, hnt] at h
          cases q5 : wiB n (nI 1) (nI (min (rL z qf) (rL z qt))) with
          | false => simp [q3, q4, q5] at h
          | true =>
            obtain ⟨qa, -, ha, ea⟩ := wi_nat (by decide) (by decide) q3
            obtain ⟨qb, -, hb, eb⟩ := wi_nat (by decide) (by decide) q4
            obtain ⟨qn, -, hn, en⟩ := wi_nat (by omega) (by decide) q5
            exact ⟨qf, qa, qt, qb, qn, ef, ea, et, eb, en, hf, ht, ha, hb, by omega⟩
section CR
variable {z : Nat → Int32} {a b c d e : Int32}
theorem cr0 (h : wrg z a b c = 0) : crF z 0 a b c d e = prF z a b c := by unfold crF; rw [crW_0, if_pos h, crG_0]
theorem cr1 (h : wmv z a b c d e = 0) : crF z 1 a b c d e = pmF z a b c d e := by unfold crF; rw [crW_1, if_pos h, crG_1]
theorem cr2 {r : Nat} (hr : r < 2 ^ 30) (ea : a = nI r) (h : wsg z a = 0) : crF z 2 a b c d e = signF z (fcN z r) := by unfold crF; rw [crW_2, if_pos h, crG_2, ea, nn_nI (by omega)]
theorem cr3 {r : Nat} (hr : r < 2 ^ 30) (ea : a = nI r) (h : wst z a (nI 1) = 0) : crF z 3 a b c d e = upd z (56 + 4 * r + 3) (nI 1) := by unfold crF; rw [crW_3, if_pos h, crG_3, ea, nn_nI (by omega)]
theorem cr4 {r : Nat} (hr : r < 2 ^ 30) (ea : a = nI r) (h : wst z a (nI 0) = 0) : crF z 4 a b c d e = upd z (56 + 4 * r + 3) (nI 0) := by unfold crF; rw [crW_4, if_pos h, crG_4, ea, nn_nI (by omega)]
theorem cr5 {r : Nat} (hr : r < 2 ^ 30) (ea : a = nI r) (h : wwr z a b = 0) : crF z 5 a b c d e = upd z (8 + r) b := by unfold crF; rw [crW_5, if_pos h, crG_5, ea, nn_nI (by omega)]
theorem cr6 {r : Nat} (hr : r < 2 ^ 30) (ea : a = nI r) (h : wse a b = 0) : crF z 6 a b c d e = upd z (1 + r) b := by unfold crF; rw [crW_6, if_pos h, crG_6, ea, nn_nI (by omega)]
theorem cr7 {r : Nat} (hr : r < 2 ^ 30) (ea : a = nI r) (h : wtk z a = 0) : crF z 7 a b c d e = psF z r := by unfold crF; rw [crW_7, if_pos h, crG_7, ea, nn_nI (by omega)]
theorem crN {k : Nat} (h : ¬ crW z k a b c d e = 0) : crF z k a b c d e = z := if_neg h
end CR
/-- the refusal's number as the class tells it -/
def crX (z : Nat → Int32) (k : Nat) (a b c d e : Int32) : Nat := if k = 2 ∨ k = 3 ∨ k = 4 then c23 (crW z k a b c d e) else if k = 6 ∨ k = 7 then c12 (crW z k a b c d e) else crW z k a b c d e
theorem c23_0 {w : Nat} : c23 w = 0 ↔ w = 0 := by unfold c23; split <;> omega
theorem c12_0 {w : Nat} : c12 w = 0 ↔ w = 0 := by unfold c12; split <;> omega
theorem crX_0 {z : Nat → Int32} {k : Nat} {a b c d e : Int32} : crX z k a b c d e = 0 ↔ crW z k a b c d e = 0 := by
  unfold crX; split
  · exact c23_0
  · split
    · exact c12_0
    · exact Iff.rfl
/-- the longs behind a command -/
def cgX (z : Nat → Int32) (g : Nat → Int64) (k : Nat) (a b c d e : Int32) : Nat → Int64 := if k = 1 ∧ crW z k a b c d e = 0 then pmG z g (nn a) (nn b) (nn c) (nn d) (nn e) else g
theorem cgN {z : Nat → Int32} {g : Nat → Int64} {k : Nat} {a b c d e : Int32} (h : k ≠ 1 ∨ ¬ crW z k a b c d e = 0) : cgX z g k a b c d e = g := if_neg (fun q => h.elim (fun h => h q.1) (fun h => h q.2))
theorem cg1 {z : Nat → Int32} {g : Nat → Int64} {a b c d e : Int32} {qf qa qt qb qn : Nat} (hf : qf < 2 ^ 30) (ha : qa < 2 ^ 30) (ht : qt < 2 ^ 30) (hb : qb < 2 ^ 30) (hn : qn < 2 ^ 30) (ea : a = nI qf) (eb : b = nI qa) (ec : c = nI qt) (ed : d = nI qb) (ee : e = nI qn) (h : wmv z a b c d e = 0) : cgX z g 1 a b c d e = pmG z g qf qa qt qb qn := by
  unfold cgX; rw [if_pos ⟨rfl, by rw [crW_1]; exact h⟩, ea, eb, ec, ed, ee, nn_nI (by omega), nn_nI (by omega), nn_nI (by omega), nn_nI (by omega), nn_nI (by omega)]
section CX
variable (z : Nat → Int32) (a b c d e : Int32)
theorem crX_a : crX z 0 a b c d e = wrg z a b c := by unfold crX; rw [if_neg (by decide), if_neg (by decide), crW_0]
theorem crX_b : crX z 1 a b c d e = wmv z a b c d e := by unfold crX; rw [if_neg (by decide), if_neg (by decide), crW_1]
theorem crX_c : crX z 2 a b c d e = c23 (wsg z a) := by unfold crX; rw [if_pos (by decide), crW_2]
theorem crX_d : crX z 3 a b c d e = c23 (wst z a (bI true)) := by unfold crX; rw [if_pos (by decide), crW_3, bI_t]
theorem crX_e : crX z 4 a b c d e = c23 (wst z a (bI false)) := by unfold crX; rw [if_pos (by decide), crW_4, bI_f]
theorem crX_f : crX z 5 a b c d e = wwr z a b := by unfold crX; rw [if_neg (by decide), if_neg (by decide), crW_5]
theorem crX_g : crX z 6 a b c d e = c12 (wse a b) := by unfold crX; rw [if_neg (by decide), if_pos (by decide), crW_6]
theorem crX_h : crX z 7 a b c d e = c12 (wtk z a) := by unfold crX; rw [if_neg (by decide), if_pos (by decide), crW_7]
end CX
theorem crX_le {z : Nat → Int32} {k : Nat} (hk : k < 8) {a b c d e : Int32} : crX z k a b c d e ≤ 4 := by
  have h23 : ∀ w, w ≤ 3 → c23 w ≤ 4 := fun w h => by unfold c23; split <;> omega
  have h12 : ∀ w, w ≤ 3 → c12 w ≤ 4 := fun w h => by unfold c12; split <;> omega
  rcases (show k = 0 ∨ k = 1 ∨ k = 2 ∨ k = 3 ∨ k = 4 ∨ k = 5 ∨ k = 6 ∨ k = 7 by omega) with rfl | rfl | rfl | rfl | rfl | rfl | rfl | rfl
  · rw [crX_a]; have := wrg_4 z a b c; omega
  · rw [crX_b]; have := wmv_4 z a b c d e; omega
  · rw [crX_c]; exact h23 _ (wsg_4 z a)
  · rw [crX_d]; exact h23 _ (wst_4 z a _)
  · rw [crX_e]; exact h23 _ (wst_4 z a _)
  · rw [crX_f]; have := wwr_4 z a b; omega
  · rw [crX_g]; exact h12 _ (wse_4 a b)
  · rw [crX_h]; exact h12 _ (wtk_4 z a)
