/-! the reference's world: one row of numbers z holds all its rows and fields: state 0, kept 704, stack 1408, text 4224, numbers 4374, depths 4379, thrown 4403, saved 4404, textLength 4405, place 4406, kind 4407 -/
theorem at_congr {D : va_G} {cl : List vw_C} {a n : Nat} {cA : ClassId} {f g : Nat → Int32} {H : Heap} (h : va_at D cl (a, .inl (cA, n, .inl f)) H) (hfg : ∀ j, j < n → f j = g j) : va_at D cl (a, .inl (cA, n, .inl g)) H := by
  show H[a]? = some (vp_cell _ _)
  have h' : H[a]? = some (vp_cell cA (n, .inl f)) := h
  rw [h', vp_cell_i, vp_cell_i]
  unfold arrV
  congr 2
  exact congrArg Array.ofFn (funext fun j => congrArg Value.int (hfg j.val j.isLt))
theorem upd_at {f : Nat → Int32} {k j : Nat} {x : Int32} : upd f k x j = if j = k then x else f j := rfl
def mdO (a : Nat) (z : Nat → Int32) : List Value := [.int (z 4403), .ref (a + 1), .ref (a + 2), .ref (a + 3), .int (z 4404), .ref (a + 4), .int (z 4405), .int (z 4406), .int (z 4407), .ref (a + 5), .ref (a + 6)]
def MdC (D : va_G) (cI : ClassId) (a : Nat) (z : Nat → Int32) (H : Heap) : Prop :=
  va_at D vwCl (a, .inr (6, mdO a z)) H ∧ va_at D vwCl (a + 1, .inl (cI, 704, .inl (fun j => z j))) H ∧ va_at D vwCl (a + 2, .inl (cI, 704, .inl (fun j => z (704 + j)))) H ∧ va_at D vwCl (a + 3, .inl (cI, 2816, .inl (fun j => z (1408 + j)))) H ∧ va_at D vwCl (a + 4, .inl (cI, 150, .inl (fun j => z (4224 + j)))) H ∧ va_at D vwCl (a + 5, .inl (cI, 5, .inl (fun j => z (4374 + j)))) H ∧ va_at D vwCl (a + 6, .inl (cI, 24, .inl (fun j => z (4379 + j)))) H
abbrev rgM (a : Nat) : Nat → Prop := fun q => a ≤ q ∧ q < a + 7
section MD
variable {D : va_G} {cI : ClassId} {a : Nat} {z : Nat → Int32} {H H1 : Heap}
theorem MdC.state (h : MdC D cI a z H) : va_at D vwCl (a + 1, .inl (cI, 704, .inl (fun j => z j))) H := h.2.1
theorem MdC.kept (h : MdC D cI a z H) : va_at D vwCl (a + 2, .inl (cI, 704, .inl (fun j => z (704 + j)))) H := h.2.2.1
theorem MdC.stack (h : MdC D cI a z H) : va_at D vwCl (a + 3, .inl (cI, 2816, .inl (fun j => z (1408 + j)))) H := h.2.2.2.1
theorem MdC.text (h : MdC D cI a z H) : va_at D vwCl (a + 4, .inl (cI, 150, .inl (fun j => z (4224 + j)))) H := h.2.2.2.2.1
theorem MdC.numbers (h : MdC D cI a z H) : va_at D vwCl (a + 5, .inl (cI, 5, .inl (fun j => z (4374 + j)))) H := h.2.2.2.2.2.1
theorem MdC.depths (h : MdC D cI a z H) : va_at D vwCl (a + 6, .inl (cI, 24, .inl (fun j => z (4379 + j)))) H := h.2.2.2.2.2.2
theorem MdC.keep (h : MdC D cI a z H) (hk : ∀ q, a ≤ q → q < a + 7 → H1[q]? = H[q]?) : MdC D cI a z H1 := ⟨h.1.kept (hk _ (by omega) (by omega)), h.2.1.kept (hk _ (by omega) (by omega)), h.2.2.1.kept (hk _ (by omega) (by omega)), h.2.2.2.1.kept (hk _ (by omega) (by omega)), h.2.2.2.2.1.kept (hk _ (by omega) (by omega)), h.2.2.2.2.2.1.kept (hk _ (by omega) (by omega)), h.2.2.2.2.2.2.kept (hk _ (by omega) (by omega))⟩
theorem MdC.frame {P : Nat → Prop} (h : MdC D cI a z H) (hk : H.size ≤ H1.size ∧ ∀ q, q < H.size → ¬ P q → H1[q]? = H[q]?) (hd : ∀ q, a ≤ q → q < a + 7 → ¬ P q) : MdC D cI a z H1 := ⟨h.1.kept (hk.2 _ h.1.lt (hd _ (by omega) (by omega))), h.2.1.kept (hk.2 _ h.2.1.lt (hd _ (by omega) (by omega))), h.2.2.1.kept (hk.2 _ h.2.2.1.lt (hd _ (by omega) (by omega))), h.2.2.2.1.kept (hk.2 _ h.2.2.2.1.lt (hd _ (by omega) (by omega))), h.2.2.2.2.1.kept (hk.2 _ h.2.2.2.2.1.lt (hd _ (by omega) (by omega))), h.2.2.2.2.2.1.kept (hk.2 _ h.2.2.2.2.2.1.lt (hd _ (by omega) (by omega))), h.2.2.2.2.2.2.kept (hk.2 _ h.2.2.2.2.2.2.lt (hd _ (by omega) (by omega)))⟩
theorem MdC.congr {z' : Nat → Int32} (h : MdC D cI a z H) (e : ∀ j, j < 4408 → z j = z' j) : MdC D cI a z' H := by
  refine ⟨?_, at_congr h.2.1 (fun j hj => e _ (by omega)), at_congr h.2.2.1 (fun j hj => e _ (by omega)), at_congr h.2.2.2.1 (fun j hj => e _ (by omega)), at_congr h.2.2.2.2.1 (fun j hj => e _ (by omega)), at_congr h.2.2.2.2.2.1 (fun j hj => e _ (by omega)), at_congr h.2.2.2.2.2.2 (fun j hj => e _ (by omega))⟩
  have h1 := h.1
  unfold mdO at h1 ⊢
  rw [← e 4403 (by decide), ← e 4404 (by decide), ← e 4405 (by decide), ← e 4406 (by decide), ← e 4407 (by decide)]
  exact h1
theorem MdC.put_state {i : Nat} {v : Int32} (h : MdC D cI a z H) (hi : i < 704) (hc : va_at D vwCl (a + 1, .inl (cI, 704, .inl (upd (fun j => z j) i v))) H1) (hU : Same1 (a + 1) H H1) : MdC D cI a (upd z i v) H1 := by
  refine ⟨?_, ?_, ?_, ?_, ?_, ?_, ?_⟩
  · have h1 := h.1.kept (hU.2 _ (by omega))
    unfold mdO at h1 ⊢
    simp only [upd_at]
    rw [if_neg (by omega), if_neg (by omega), if_neg (by omega), if_neg (by omega), if_neg (by omega)]
    exact h1
  · exact at_congr hc (fun j hj => rfl)
  · exact at_congr (h.2.2.1.kept (hU.2 _ (by omega))) (fun j hj => by rw [upd_at, if_neg (by omega)])
  · exact at_congr (h.2.2.2.1.kept (hU.2 _ (by omega))) (fun j hj => by rw [upd_at, if_neg (by omega)])
  · exact at_congr (h.2.2.2.2.1.kept (hU.2 _ (by omega))) (fun j hj => by rw [upd_at, if_neg (by omega)])
  · exact at_congr (h.2.2.2.2.2.1.kept (hU.2 _ (by omega))) (fun j hj => by rw [upd_at, if_neg (by omega)])
  · exact at_congr (h.2.2.2.2.2.2.kept (hU.2 _ (by omega))) (fun j hj => by rw [upd_at, if_neg (by omega)])
theorem MdC.put_kept {i : Nat} {v : Int32} (h : MdC D cI a z H) (hi : i < 704) (hc : va_at D vwCl (a + 2, .inl (cI, 704, .inl (upd (fun j => z (704 + j)) i v))) H1) (hU : Same1 (a + 2) H H1) : MdC D cI a (upd z (704 + i) v) H1 := by
  refine ⟨?_, ?_, ?_, ?_, ?_, ?_, ?_⟩
  · have h1 := h.1.kept (hU.2 _ (by omega))
    unfold mdO at h1 ⊢
    simp only [upd_at]
    rw [if_neg (by omega), if_neg (by omega), if_neg (by omega), if_neg (by omega), if_neg (by omega)]
    exact h1
  · exact at_congr (h.2.1.kept (hU.2 _ (by omega))) (fun j hj => by rw [upd_at, if_neg (by omega)])
  · exact at_congr hc (fun j hj => by
      rw [upd_at, upd_at]
      by_cases e : j = i
      · rw [if_pos e, if_pos (by omega)]
      · rw [if_neg e, if_neg (by omega)])
  · exact at_congr (h.2.2.2.1.kept (hU.2 _ (by omega))) (fun j hj => by rw [upd_at, if_neg (by omega)])
  · exact at_congr (h.2.2.2.2.1.kept (hU.2 _ (by omega))) (fun j hj => by rw [upd_at, if_neg (by omega)])
  · exact at_congr (h.2.2.2.2.2.1.kept (hU.2 _ (by omega))) (fun j hj => by rw [upd_at, if_neg (by omega)])
  · exact at_congr (h.2.2.2.2.2.2.kept (hU.2 _ (by omega))) (fun j hj => by rw [upd_at, if_neg (by omega)])
theorem MdC.put_stack {i : Nat} {v : Int32} (h : MdC D cI a z H) (hi : i < 2816) (hc : va_at D vwCl (a + 3, .inl (cI, 2816, .inl (upd (fun j => z (1408 + j)) i v))) H1) (hU : Same1 (a + 3) H H1) : MdC D cI a (upd z (1408 + i) v) H1 := by
  refine ⟨?_, ?_, ?_, ?_, ?_, ?_, ?_⟩
  · have h1 := h.1.kept (hU.2 _ (by omega))
    unfold mdO at h1 ⊢
    simp only [upd_at]
    rw [if_neg (by omega), if_neg (by omega), if_neg (by omega), if_neg (by omega), if_neg (by omega)]
    exact h1
  · exact at_congr (h.2.1.kept (hU.2 _ (by omega))) (fun j hj => by rw [upd_at, if_neg (by omega)])
  · exact at_congr (h.2.2.1.kept (hU.2 _ (by omega))) (fun j hj => by rw [upd_at, if_neg (by omega)])
  · exact at_congr hc (fun j hj => by
      rw [upd_at, upd_at]
      by_cases e : j = i
      · rw [if_pos e, if_pos (by omega)]
      · rw [if_neg e, if_neg (by omega)])
  · exact at_congr (h.2.2.2.2.1.kept (hU.2 _ (by omega))) (fun j hj => by rw [upd_at, if_neg (by omega)])
  · exact at_congr (h.2.2.2.2.2.1.kept (hU.2 _ (by omega))) (fun j hj => by rw [upd_at, if_neg (by omega)])
  · exact at_congr (h.2.2.2.2.2.2.kept (hU.2 _ (by omega))) (fun j hj => by rw [upd_at, if_neg (by omega)])
theorem MdC.put_text {i : Nat} {v : Int32} (h : MdC D cI a z H) (hi : i < 150) (hc : va_at D vwCl (a + 4, .inl (cI, 150, .inl (upd (fun j => z (4224 + j)) i v))) H1) (hU : Same1 (a + 4) H H1) : MdC D cI a (upd z (4224 + i) v) H1 := by
  refine ⟨?_, ?_, ?_, ?_, ?_, ?_, ?_⟩
  · have h1 := h.1.kept (hU.2 _ (by omega))
    unfold mdO at h1 ⊢
    simp only [upd_at]
    rw [if_neg (by omega), if_neg (by omega), if_neg (by omega), if_neg (by omega), if_neg (by omega)]
    exact h1
  · exact at_congr (h.2.1.kept (hU.2 _ (by omega))) (fun j hj => by rw [upd_at, if_neg (by omega)])
  · exact at_congr (h.2.2.1.kept (hU.2 _ (by omega))) (fun j hj => by rw [upd_at, if_neg (by omega)])
  · exact at_congr (h.2.2.2.1.kept (hU.2 _ (by omega))) (fun j hj => by rw [upd_at, if_neg (by omega)])
  · exact at_congr hc (fun j hj => by
      rw [upd_at, upd_at]
      by_cases e : j = i
      · rw [if_pos e, if_pos (by omega)]
      · rw [if_neg e, if_neg (by omega)])
  · exact at_congr (h.2.2.2.2.2.1.kept (hU.2 _ (by omega))) (fun j hj => by rw [upd_at, if_neg (by omega)])
  · exact at_congr (h.2.2.2.2.2.2.kept (hU.2 _ (by omega))) (fun j hj => by rw [upd_at, if_neg (by omega)])
theorem MdC.put_numbers {i : Nat} {v : Int32} (h : MdC D cI a z H) (hi : i < 5) (hc : va_at D vwCl (a + 5, .inl (cI, 5, .inl (upd (fun j => z (4374 + j)) i v))) H1) (hU : Same1 (a + 5) H H1) : MdC D cI a (upd z (4374 + i) v) H1 := by
  refine ⟨?_, ?_, ?_, ?_, ?_, ?_, ?_⟩
  · have h1 := h.1.kept (hU.2 _ (by omega))
    unfold mdO at h1 ⊢
    simp only [upd_at]
    rw [if_neg (by omega), if_neg (by omega), if_neg (by omega), if_neg (by omega), if_neg (by omega)]
    exact h1
  · exact at_congr (h.2.1.kept (hU.2 _ (by omega))) (fun j hj => by rw [upd_at, if_neg (by omega)])
  · exact at_congr (h.2.2.1.kept (hU.2 _ (by omega))) (fun j hj => by rw [upd_at, if_neg (by omega)])
  · exact at_congr (h.2.2.2.1.kept (hU.2 _ (by omega))) (fun j hj => by rw [upd_at, if_neg (by omega)])
  · exact at_congr (h.2.2.2.2.1.kept (hU.2 _ (by omega))) (fun j hj => by rw [upd_at, if_neg (by omega)])
  · exact at_congr hc (fun j hj => by
      rw [upd_at, upd_at]
      by_cases e : j = i
      · rw [if_pos e, if_pos (by omega)]
      · rw [if_neg e, if_neg (by omega)])
  · exact at_congr (h.2.2.2.2.2.2.kept (hU.2 _ (by omega))) (fun j hj => by rw [upd_at, if_neg (by omega)])
theorem MdC.put_depths {i : Nat} {v : Int32} (h : MdC D cI a z H) (hi : i < 24) (hc : va_at D vwCl (a + 6, .inl (cI, 24, .inl (upd (fun j => z (4379 + j)) i v))) H1) (hU : Same1 (a + 6) H H1) : MdC D cI a (upd z (4379 + i) v) H1 := by
  refine ⟨?_, ?_, ?_, ?_, ?_, ?_, ?_⟩
  · have h1 := h.1.kept (hU.2 _ (by omega))
    unfold mdO at h1 ⊢
    simp only [upd_at]
    rw [if_neg (by omega), if_neg (by omega), if_neg (by omega), if_neg (by omega), if_neg (by omega)]
    exact h1
  · exact at_congr (h.2.1.kept (hU.2 _ (by omega))) (fun j hj => by rw [upd_at, if_neg (by omega)])
  · exact at_congr (h.2.2.1.kept (hU.2 _ (by omega))) (fun j hj => by rw [upd_at, if_neg (by omega)])
  · exact at_congr (h.2.2.2.1.kept (hU.2 _ (by omega))) (fun j hj => by rw [upd_at, if_neg (by omega)])
  · exact at_congr (h.2.2.2.2.1.kept (hU.2 _ (by omega))) (fun j hj => by rw [upd_at, if_neg (by omega)])
  · exact at_congr (h.2.2.2.2.2.1.kept (hU.2 _ (by omega))) (fun j hj => by rw [upd_at, if_neg (by omega)])
  · exact at_congr hc (fun j hj => by
      rw [upd_at, upd_at]
      by_cases e : j = i
      · rw [if_pos e, if_pos (by omega)]
      · rw [if_neg e, if_neg (by omega)])
theorem MdC.put_thrown {v : Int32} (h : MdC D cI a z H) (hc : va_at D vwCl (a, .inr (6, (mdO a z).set 0 (.int v))) H1) (hU : Same1 a H H1) : MdC D cI a (upd z 4403 v) H1 := by
  refine ⟨?_, at_congr (h.2.1.kept (hU.2 _ (by omega))) (fun j hj => by rw [upd_at, if_neg (by omega)]), at_congr (h.2.2.1.kept (hU.2 _ (by omega))) (fun j hj => by rw [upd_at, if_neg (by omega)]), at_congr (h.2.2.2.1.kept (hU.2 _ (by omega))) (fun j hj => by rw [upd_at, if_neg (by omega)]), at_congr (h.2.2.2.2.1.kept (hU.2 _ (by omega))) (fun j hj => by rw [upd_at, if_neg (by omega)]), at_congr (h.2.2.2.2.2.1.kept (hU.2 _ (by omega))) (fun j hj => by rw [upd_at, if_neg (by omega)]), at_congr (h.2.2.2.2.2.2.kept (hU.2 _ (by omega))) (fun j hj => by rw [upd_at, if_neg (by omega)])⟩
  have e : (mdO a z).set 0 (.int v) = mdO a (upd z 4403 v) := rfl
  rw [← e]; exact hc
theorem MdC.put_saved {v : Int32} (h : MdC D cI a z H) (hc : va_at D vwCl (a, .inr (6, (mdO a z).set 4 (.int v))) H1) (hU : Same1 a H H1) : MdC D cI a (upd z 4404 v) H1 := by
  refine ⟨?_, at_congr (h.2.1.kept (hU.2 _ (by omega))) (fun j hj => by rw [upd_at, if_neg (by omega)]), at_congr (h.2.2.1.kept (hU.2 _ (by omega))) (fun j hj => by rw [upd_at, if_neg (by omega)]), at_congr (h.2.2.2.1.kept (hU.2 _ (by omega))) (fun j hj => by rw [upd_at, if_neg (by omega)]), at_congr (h.2.2.2.2.1.kept (hU.2 _ (by omega))) (fun j hj => by rw [upd_at, if_neg (by omega)]), at_congr (h.2.2.2.2.2.1.kept (hU.2 _ (by omega))) (fun j hj => by rw [upd_at, if_neg (by omega)]), at_congr (h.2.2.2.2.2.2.kept (hU.2 _ (by omega))) (fun j hj => by rw [upd_at, if_neg (by omega)])⟩
  have e : (mdO a z).set 4 (.int v) = mdO a (upd z 4404 v) := rfl
  rw [← e]; exact hc
theorem MdC.put_textLength {v : Int32} (h : MdC D cI a z H) (hc : va_at D vwCl (a, .inr (6, (mdO a z).set 6 (.int v))) H1) (hU : Same1 a H H1) : MdC D cI a (upd z 4405 v) H1 := by
  refine ⟨?_, at_congr (h.2.1.kept (hU.2 _ (by omega))) (fun j hj => by rw [upd_at, if_neg (by omega)]), at_congr (h.2.2.1.kept (hU.2 _ (by omega))) (fun j hj => by rw [upd_at, if_neg (by omega)]), at_congr (h.2.2.2.1.kept (hU.2 _ (by omega))) (fun j hj => by rw [upd_at, if_neg (by omega)]), at_congr (h.2.2.2.2.1.kept (hU.2 _ (by omega))) (fun j hj => by rw [upd_at, if_neg (by omega)]), at_congr (h.2.2.2.2.2.1.kept (hU.2 _ (by omega))) (fun j hj => by rw [upd_at, if_neg (by omega)]), at_congr (h.2.2.2.2.2.2.kept (hU.2 _ (by omega))) (fun j hj => by rw [upd_at, if_neg (by omega)])⟩
  have e : (mdO a z).set 6 (.int v) = mdO a (upd z 4405 v) := rfl
  rw [← e]; exact hc
theorem MdC.put_place {v : Int32} (h : MdC D cI a z H) (hc : va_at D vwCl (a, .inr (6, (mdO a z).set 7 (.int v))) H1) (hU : Same1 a H H1) : MdC D cI a (upd z 4406 v) H1 := by
  refine ⟨?_, at_congr (h.2.1.kept (hU.2 _ (by omega))) (fun j hj => by rw [upd_at, if_neg (by omega)]), at_congr (h.2.2.1.kept (hU.2 _ (by omega))) (fun j hj => by rw [upd_at, if_neg (by omega)]), at_congr (h.2.2.2.1.kept (hU.2 _ (by omega))) (fun j hj => by rw [upd_at, if_neg (by omega)]), at_congr (h.2.2.2.2.1.kept (hU.2 _ (by omega))) (fun j hj => by rw [upd_at, if_neg (by omega)]), at_congr (h.2.2.2.2.2.1.kept (hU.2 _ (by omega))) (fun j hj => by rw [upd_at, if_neg (by omega)]), at_congr (h.2.2.2.2.2.2.kept (hU.2 _ (by omega))) (fun j hj => by rw [upd_at, if_neg (by omega)])⟩
  have e : (mdO a z).set 7 (.int v) = mdO a (upd z 4406 v) := rfl
  rw [← e]; exact hc
theorem MdC.put_kind {v : Int32} (h : MdC D cI a z H) (hc : va_at D vwCl (a, .inr (6, (mdO a z).set 8 (.int v))) H1) (hU : Same1 a H H1) : MdC D cI a (upd z 4407 v) H1 := by
  refine ⟨?_, at_congr (h.2.1.kept (hU.2 _ (by omega))) (fun j hj => by rw [upd_at, if_neg (by omega)]), at_congr (h.2.2.1.kept (hU.2 _ (by omega))) (fun j hj => by rw [upd_at, if_neg (by omega)]), at_congr (h.2.2.2.1.kept (hU.2 _ (by omega))) (fun j hj => by rw [upd_at, if_neg (by omega)]), at_congr (h.2.2.2.2.1.kept (hU.2 _ (by omega))) (fun j hj => by rw [upd_at, if_neg (by omega)]), at_congr (h.2.2.2.2.2.1.kept (hU.2 _ (by omega))) (fun j hj => by rw [upd_at, if_neg (by omega)]), at_congr (h.2.2.2.2.2.2.kept (hU.2 _ (by omega))) (fun j hj => by rw [upd_at, if_neg (by omega)])⟩
  have e : (mdO a z).set 8 (.int v) = mdO a (upd z 4407 v) := rfl
  rw [← e]; exact hc
end MD
