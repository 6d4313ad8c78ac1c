/-! the undo stack: an object, a row of four States; nx the next to be written, cn how many count -/
def HiC (D : va_G) (cs : Nat → ClassId) (q nx cn : Nat) (se : Nat → Nat → Int32) (sg : Nat → Nat → Int64) (H : Heap) : Prop :=
  va_at D vwCl (q, .inr (1, [.ref (q + 1), .int (nI nx), .int (nI cn)])) H ∧ va_at D vwCl (q + 1, .inl (cs 4, 4, .inr (.inr (.inr (.inr (fun j => some (q + 2 + 59 * j))))))) H ∧ ∀ i, i < 4 → StC D cs (q + 2 + 59 * i) (se i) (sg i) H
section HIS
variable {D : va_G} {cs : Nat → ClassId} {q nx cn : Nat} {se : Nat → Nat → Int32} {sg : Nat → Nat → Int64} {H H1 : Heap}
theorem HiC.obj (h : HiC D cs q nx cn se sg H) : va_at D vwCl (q, .inr (1, [.ref (q + 1), .int (nI nx), .int (nI cn)])) H := h.1
theorem HiC.keep (h : HiC D cs q nx cn se sg H) (hk : ∀ x, q ≤ x → x < q + 238 → H1[x]? = H[x]?) : HiC D cs q nx cn se sg H1 :=
  ⟨h.1.kept (hk _ (by omega) (by omega)), h.2.1.kept (hk _ (by omega) (by omega)), fun i hi => (h.2.2 i hi).keep (fun x h1 h2 => hk x (by omega) (by omega))⟩
theorem HiC.lt (h : HiC D cs q nx cn se sg H) (x : Nat) (h1 : q ≤ x) (h2 : x < q + 238) : x < H.size := by
  by_cases e : x < q + 2
  · have e2 : x = q ∨ x = q + 1 := by omega
    rcases e2 with rfl | rfl
    · exact h.1.lt
    · exact h.2.1.lt
  · exact (h.2.2 ((x - (q + 2)) / 59) (by omega)).lt x (by omega) (by omega)
theorem HiC.frame {P : Nat → Prop} (h : HiC D cs q nx cn se sg H) (hk : H.size ≤ H1.size ∧ ∀ x, x < H.size → ¬ P x → H1[x]? = H[x]?) (hd : ∀ x, q ≤ x → x < q + 238 → ¬ P x) : HiC D cs q nx cn se sg H1 := h.keep (fun x h1 h2 => hk.2 x (h.lt x h1 h2) (hd x h1 h2))
theorem HiC.off (h : HiC D cs q nx cn se sg H) {b : Nat} (hU : Same1 b H H1) (hb : b < q ∨ q + 238 ≤ b) : HiC D cs q nx cn se sg H1 := h.keep (fun x h1 h2 => hU.2 x (by omega))
end HIS
abbrev rgH (q : Nat) : Nat → Prop := fun x => q ≤ x ∧ x < q + 238
def hsE (se : Nat → Nat → Int32) (nx : Nat) (e : Nat → Int32) : Nat → Nat → Int32 := fun i => if i = nx then e else se i
def hsG (sg : Nat → Nat → Int64) (nx : Nat) (g : Nat → Int64) : Nat → Nat → Int64 := fun i => if i = nx then g else sg i
theorem HiC.mk {D : va_G} {cs : Nat → ClassId} {q nx nx' cn : Nat} {se : Nat → Nat → Int32} {sg : Nat → Nat → Int64} {H : Heap} {e : Nat → Int32} {g : Nat → Int64} (h1 : va_at D vwCl (q, .inr (1, [.ref (q + 1), .int (nI nx'), .int (nI cn)])) H) (h2 : va_at D vwCl (q + 1, .inl (cs 4, 4, .inr (.inr (.inr (.inr (fun j => some (q + 2 + 59 * j))))))) H) (h3 : ∀ i, i < 4 → i ≠ nx → StC D cs (q + 2 + 59 * i) (se i) (sg i) H) (h4 : StC D cs (q + 2 + 59 * nx) e g H) : HiC D cs q nx' cn (hsE se nx e) (hsG sg nx g) H := by
  refine ⟨h1, h2, fun i hi => ?_⟩
  unfold hsE hsG
  by_cases h : i = nx
  · subst h
    show StC D cs (q + 2 + 59 * i) (if i = i then e else se i) (if i = i then g else sg i) H
    rw [if_pos rfl, if_pos rfl]; exact h4
  · show StC D cs (q + 2 + 59 * i) (if i = nx then e else se i) (if i = nx then g else sg i) H
    rw [if_neg h, if_neg h]; exact h3 i hi h
