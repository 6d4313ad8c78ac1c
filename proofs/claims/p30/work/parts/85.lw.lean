/-! the law's engine: six arrays from a on (counts, memory, rings, moves, taken values, sets of cells), told by ONE row of numbers z, laid out as the class's state, and a row of longs g -/
def qF (z : Nat → Int32) : Nat → Int32 := fun j => if j = 0 then z 4 else if j = 1 then z 0 else if j = 2 then z 1 else z 2
def mvF (z : Nat → Int32) : Nat → Int32 := fun j => if j % 8 = 7 then (if z (80 + 10 * (j / 8) + 8) = -1000 then 0 else z (80 + 10 * (j / 8) + 8)) else z (80 + 10 * (j / 8) + j % 8)
def tkF (z : Nat → Int32) : Nat → Int32 := fun j => z (320 + 16 * (j / 8) + j % 8)
def LwC (D : va_G) (cs : Nat → ClassId) (a : Nat) (z : Nat → Int32) (g : Nat → Int64) (H : Heap) : Prop :=
  va_at D vwCl (a, .inl (cs 0, 4, .inl (qF z))) H ∧ va_at D vwCl (a + 1, .inl (cs 0, 48, .inl (fun j => z (8 + j)))) H ∧ va_at D vwCl (a + 2, .inl (cs 0, 12, .inl (fun j => z (56 + j)))) H ∧ va_at D vwCl (a + 3, .inl (cs 0, 64, .inl (mvF z))) H ∧ va_at D vwCl (a + 4, .inl (cs 0, 64, .inl (tkF z))) H ∧ va_at D vwCl (a + 5, .inl (cs 5, 16, .inr (.inl g))) H
abbrev rgL (a : Nat) : Nat → Prop := fun x => a ≤ x ∧ x < a + 6
/-- what the six arrays show of a row -/
def Tr (z z' : Nat → Int32) : Prop := (z' 4 = z 4 ∧ z' 0 = z 0 ∧ z' 1 = z 1 ∧ z' 2 = z 2) ∧ (∀ j, j < 60 → z' (8 + j) = z (8 + j)) ∧ (∀ m p, m < 8 → p < 9 → p ≠ 7 → z' (80 + 10 * m + p) = z (80 + 10 * m + p)) ∧ ∀ m i, m < 8 → i < 8 → z' (320 + 16 * m + i) = z (320 + 16 * m + i)
theorem mvF_lo (z : Nat → Int32) (m : Nat) {p : Nat} (hp : p < 7) : mvF z (8 * m + p) = z (80 + 10 * m + p) := by
  unfold mvF
  have h1 : (8 * m + p) / 8 = m := by omega
  have h2 : (8 * m + p) % 8 = p := by omega
  rw [h1, h2, if_neg (by omega)]
theorem mvF_7 (z : Nat → Int32) (m : Nat) : mvF z (8 * m + 7) = if z (80 + 10 * m + 8) = -1000 then 0 else z (80 + 10 * m + 8) := by
  unfold mvF
  have h1 : (8 * m + 7) / 8 = m := by omega
  have h2 : (8 * m + 7) % 8 = 7 := by omega
  rw [h1, if_pos h2]
theorem mvF_t (z : Nat → Int32) (m : Nat) (h : z (80 + 10 * m + 8) ≠ -1000) : mvF z (8 * m + 7) = z (80 + 10 * m + 8) := by rw [mvF_7, if_neg h]
theorem tkF_at (z : Nat → Int32) (m : Nat) {i : Nat} (hi : i < 8) : tkF z (8 * m + i) = z (320 + 16 * m + i) := by
  unfold tkF
  have h1 : (8 * m + i) / 8 = m := by omega
  have h2 : (8 * m + i) % 8 = i := by omega
  rw [h1, h2]
theorem mvF_is {z : Nat → Int32} {f : Nat → Int32} (h : ∀ m p, m < 8 → p < 7 → f (8 * m + p) = z (80 + 10 * m + p)) (h7 : ∀ m, m < 8 → f (8 * m + 7) = if z (80 + 10 * m + 8) = -1000 then 0 else z (80 + 10 * m + 8)) : ∀ j, j < 64 → f j = mvF z j := by
  intro j hj
  have e : j = 8 * (j / 8) + j % 8 := by omega
  by_cases q : j % 8 = 7
  · have e7 : j = 8 * (j / 8) + 7 := by omega
    rw [e7, mvF_7]; exact h7 _ (by omega)
  · rw [e, mvF_lo z _ (by omega)]; exact h _ _ (by omega) (by omega)
theorem tkF_is {z : Nat → Int32} {f : Nat → Int32} (h : ∀ m i, m < 8 → i < 8 → f (8 * m + i) = z (320 + 16 * m + i)) : ∀ j, j < 64 → f j = tkF z j := by
  intro j hj
  have e : j = 8 * (j / 8) + j % 8 := by omega
  rw [e, tkF_at z _ (by omega)]; exact h _ _ (by omega) (by omega)
theorem upd_ne {f : Nat → Int32} {k j : Nat} {x : Int32} (h : j ≠ k) : upd f k x j = f j := if_neg h
section LWW
variable {D : va_G} {cs : Nat → ClassId} {a : Nat} {z z' : Nat → Int32} {g g' : Nat → Int64} {H H1 : Heap}
theorem Tr.rf : Tr z z := ⟨⟨rfl, rfl, rfl, rfl⟩, fun _ _ => rfl, fun _ _ _ _ _ => rfl, fun _ _ _ _ => rfl⟩
theorem Tr.tr {y : Nat → Int32} (h : Tr z y) (h2 : Tr y z') : Tr z z' := ⟨⟨h2.1.1.trans h.1.1, h2.1.2.1.trans h.1.2.1, h2.1.2.2.1.trans h.1.2.2.1, h2.1.2.2.2.trans h.1.2.2.2⟩, fun j q => (h2.2.1 j q).trans (h.2.1 j q), fun m p q q2 q3 => (h2.2.2.1 m p q q2 q3).trans (h.2.2.1 m p q q2 q3), fun m i q q2 => (h2.2.2.2 m i q q2).trans (h.2.2.2 m i q q2)⟩
theorem Tr.low (h : ∀ j, j < 704 → z' j = z j) : Tr z z' := ⟨⟨h _ (by omega), h _ (by omega), h _ (by omega), h _ (by omega)⟩, fun j q => h _ (by omega), fun m p q q2 _ => h _ (by omega), fun m i q q2 => h _ (by omega)⟩
theorem Tr.q (h : Tr z z') : ∀ j, j < 4 → qF z j = qF z' j := by
  intro j hj; unfold qF
  rw [h.1.1, h.1.2.1, h.1.2.2.1, h.1.2.2.2]
theorem Tr.mv (h : Tr z z') : ∀ j, j < 64 → mvF z j = mvF z' j := mvF_is (fun m p hm hp => by rw [mvF_lo z m hp, h.2.2.1 m p hm (by omega) (by omega)]) (fun m hm => by rw [mvF_7, h.2.2.1 m 8 hm (by omega) (by omega)])
theorem Tr.tk (h : Tr z z') : ∀ j, j < 64 → tkF z j = tkF z' j := tkF_is (fun m i hm hi => by rw [tkF_at z m hi, h.2.2.2 m i hm hi])
theorem LwC.q (h : LwC D cs a z g H) : va_at D vwCl (a, .inl (cs 0, 4, .inl (qF z))) H := h.1
theorem LwC.me (h : LwC D cs a z g H) : va_at D vwCl (a + 1, .inl (cs 0, 48, .inl (fun j => z (8 + j)))) H := h.2.1
theorem LwC.rg (h : LwC D cs a z g H) : va_at D vwCl (a + 2, .inl (cs 0, 12, .inl (fun j => z (56 + j)))) H := h.2.2.1
theorem LwC.mv (h : LwC D cs a z g H) : va_at D vwCl (a + 3, .inl (cs 0, 64, .inl (mvF z))) H := h.2.2.2.1
theorem LwC.tk (h : LwC D cs a z g H) : va_at D vwCl (a + 4, .inl (cs 0, 64, .inl (tkF z))) H := h.2.2.2.2.1
theorem LwC.ce (h : LwC D cs a z g H) : va_at D vwCl (a + 5, .inl (cs 5, 16, .inr (.inl g))) H := h.2.2.2.2.2
theorem LwC.lt (h : LwC D cs a z g H) (x : Nat) (h1 : a ≤ x) (h2 : x < a + 6) : x < H.size := by
  have e : x = a ∨ x = a + 1 ∨ x = a + 2 ∨ x = a + 3 ∨ x = a + 4 ∨ x = a + 5 := by omega
  rcases e with rfl | rfl | rfl | rfl | rfl | rfl
  · exact h.q.lt
  · exact h.me.lt
  · exact h.rg.lt
  · exact h.mv.lt
  · exact h.tk.lt
  · exact h.ce.lt
theorem LwC.keep (h : LwC D cs a z g H) (hk : ∀ x : Nat, a ≤ x → x < a + 6 → H1[x]? = H[x]?) : LwC D cs a z g H1 :=
  ⟨h.q.kept (hk _ (by omega) (by omega)), h.me.kept (hk _ (by omega) (by omega)), h.rg.kept (hk _ (by omega) (by omega)), h.mv.kept (hk _ (by omega) (by omega)), h.tk.kept (hk _ (by omega) (by omega)), h.ce.kept (hk _ (by omega) (by omega))⟩
theorem LwC.frame {A : Nat → Prop} (h : LwC D cs a z g H) (hk : H.size ≤ H1.size ∧ ∀ q : Nat, q < H.size → ¬ A q → H1[q]? = H[q]?) (hA : ∀ x, a ≤ x → x < a + 6 → ¬ A x) : LwC D cs a z g H1 := h.keep (fun x h1 h2 => hk.2 x (h.lt x h1 h2) (hA x h1 h2))
theorem LwC.grow (h : LwC D cs a z g H) (hk : ∀ x : Nat, x < H.size → H1[x]? = H[x]?) : LwC D cs a z g H1 := h.keep (fun x h1 h2 => hk x (h.lt x h1 h2))
theorem LwC.off {b : Nat} (h : LwC D cs a z g H) (hU : Same1 b H H1) (hb : b < a ∨ a + 6 ≤ b) : LwC D cs a z g H1 := h.keep (fun x h1 h2 => hU.2 x (by omega))
theorem LwC.alike (h : LwC D cs a z g H) (e : Tr z z') : LwC D cs a z' g H :=
  ⟨at_congr h.q e.q, at_congr h.me (fun j hj => (e.2.1 j (by omega)).symm), at_congr h.rg (fun j hj => by have := e.2.1 (48 + j) (by omega); rw [show 8 + (48 + j) = 56 + j by omega] at this; exact this.symm), at_congr h.mv e.mv, at_congr h.tk e.tk, h.ce⟩
theorem LwC.put_q (h : LwC D cs a z g H) {i k : Nat} {v : Int32} (hi : (i = 0 ∧ k = 4) ∨ (i = 1 ∧ k = 0) ∨ (i = 2 ∧ k = 1) ∨ (i = 3 ∧ k = 2)) (hc : va_at D vwCl (a, .inl (cs 0, 4, .inl (upd (qF z) i v))) H1) (hU : Same1 a H H1) : LwC D cs a (upd z k v) g H1 := by
  refine ⟨at_congr hc (fun j hj => ?_), at_congr (h.me.kept (hU.2 _ (by omega))) (fun j hj => ?_), at_congr (h.rg.kept (hU.2 _ (by omega))) (fun j hj => ?_), at_congr (h.mv.kept (hU.2 _ (by omega))) (mvF_is (fun m p hm hp => ?_) (fun m hm => ?_)), at_congr (h.tk.kept (hU.2 _ (by omega))) (tkF_is (fun m i hm hi => ?_)), h.ce.kept (hU.2 _ (by omega))⟩
  · unfold qF; simp only [upd_at]
    rcases hi with ⟨rfl, rfl⟩ | ⟨rfl, rfl⟩ | ⟨rfl, rfl⟩ | ⟨rfl, rfl⟩ <;> rcases (show j = 0 ∨ j = 1 ∨ j = 2 ∨ j = 3 by omega) with rfl | rfl | rfl | rfl <;> simp
  · rw [upd_at, if_neg (by omega)]
  · rw [upd_at, if_neg (by omega)]
  · rw [mvF_lo z m hp, upd_at, if_neg (by omega)]
  · rw [mvF_7, upd_ne (by omega)]
  · rw [tkF_at z m (by omega), upd_at, if_neg (by omega)]
theorem LwC.put_me (h : LwC D cs a z g H) {i : Nat} {v : Int32} (hi : i < 48) (hc : va_at D vwCl (a + 1, .inl (cs 0, 48, .inl (upd (fun j => z (8 + j)) i v))) H1) (hU : Same1 (a + 1) H H1) : LwC D cs a (upd z (8 + i) v) g H1 := by
  refine ⟨at_congr (h.q.kept (hU.2 _ (by omega))) (fun j hj => ?_), at_congr hc (fun j hj => upd_shift), at_congr (h.rg.kept (hU.2 _ (by omega))) (fun j hj => ?_), at_congr (h.mv.kept (hU.2 _ (by omega))) (mvF_is (fun m p hm hp => ?_) (fun m hm => ?_)), at_congr (h.tk.kept (hU.2 _ (by omega))) (tkF_is (fun m i hm hi => ?_)), h.ce.kept (hU.2 _ (by omega))⟩
  · unfold qF; simp only [upd_at]; rw [if_neg (show ¬ 4 = 8 + i by omega), if_neg (show ¬ 0 = 8 + i by omega), if_neg (show ¬ 1 = 8 + i by omega), if_neg (show ¬ 2 = 8 + i by omega)]
  · rw [upd_at, if_neg (by omega)]
  · rw [mvF_lo z m hp, upd_at, if_neg (by omega)]
  · rw [mvF_7, upd_ne (by omega)]
  · rw [tkF_at z m (by omega), upd_at, if_neg (by omega)]
theorem LwC.put_rg (h : LwC D cs a z g H) {i : Nat} {v : Int32} (hi : i < 12) (hc : va_at D vwCl (a + 2, .inl (cs 0, 12, .inl (upd (fun j => z (56 + j)) i v))) H1) (hU : Same1 (a + 2) H H1) : LwC D cs a (upd z (56 + i) v) g H1 := by
  refine ⟨at_congr (h.q.kept (hU.2 _ (by omega))) (fun j hj => ?_), at_congr (h.me.kept (hU.2 _ (by omega))) (fun j hj => ?_), at_congr hc (fun j hj => upd_shift), at_congr (h.mv.kept (hU.2 _ (by omega))) (mvF_is (fun m p hm hp => ?_) (fun m hm => ?_)), at_congr (h.tk.kept (hU.2 _ (by omega))) (tkF_is (fun m i hm hi => ?_)), h.ce.kept (hU.2 _ (by omega))⟩
  · unfold qF; simp only [upd_at]; rw [if_neg (show ¬ 4 = 56 + i by omega), if_neg (show ¬ 0 = 56 + i by omega), if_neg (show ¬ 1 = 56 + i by omega), if_neg (show ¬ 2 = 56 + i by omega)]
  · rw [upd_at, if_neg (by omega)]
  · rw [mvF_lo z m hp, upd_at, if_neg (by omega)]
  · rw [mvF_7, upd_ne (by omega)]
  · rw [tkF_at z m (by omega), upd_at, if_neg (by omega)]
theorem LwC.put_mv (h : LwC D cs a z g H) {k p : Nat} {v : Int32} (hk : k < 8) (hp : p < 7) (hc : va_at D vwCl (a + 3, .inl (cs 0, 64, .inl (upd (mvF z) (8 * k + p) v))) H1) (hU : Same1 (a + 3) H H1) : LwC D cs a (upd z (80 + 10 * k + p) v) g H1 := by
  refine ⟨at_congr (h.q.kept (hU.2 _ (by omega))) (fun j hj => ?_), at_congr (h.me.kept (hU.2 _ (by omega))) (fun j hj => ?_), at_congr (h.rg.kept (hU.2 _ (by omega))) (fun j hj => ?_), at_congr hc (mvF_is (fun m p' hm hp' => ?_) (fun m hm => ?_)), at_congr (h.tk.kept (hU.2 _ (by omega))) (tkF_is (fun m i hm hi => ?_)), h.ce.kept (hU.2 _ (by omega))⟩
  · unfold qF; simp only [upd_at]; rw [if_neg (show ¬ 4 = 80 + 10 * k + p by omega), if_neg (show ¬ 0 = 80 + 10 * k + p by omega), if_neg (show ¬ 1 = 80 + 10 * k + p by omega), if_neg (show ¬ 2 = 80 + 10 * k + p by omega)]
  · rw [upd_at, if_neg (by omega)]
  · rw [upd_at, if_neg (by omega)]
  · rw [upd_at, upd_at]
    by_cases q : m = k ∧ p' = p
    · rw [if_pos (by omega), if_pos (by omega)]
    · rw [if_neg (by omega), if_neg (by omega), mvF_lo z m hp']
  · rw [upd_ne (by omega), mvF_7, upd_ne (by omega)]
  · rw [tkF_at z m (by omega), upd_at, if_neg (by omega)]
theorem LwC.put_mv7 (h : LwC D cs a z g H) {k : Nat} {v : Int32} (hk : k < 8) (hv : v ≠ -1000) (hc : va_at D vwCl (a + 3, .inl (cs 0, 64, .inl (upd (mvF z) (8 * k + 7) v))) H1) (hU : Same1 (a + 3) H H1) : LwC D cs a (upd z (80 + 10 * k + 8) v) g H1 := by
  refine ⟨at_congr (h.q.kept (hU.2 _ (by omega))) (fun j hj => ?_), at_congr (h.me.kept (hU.2 _ (by omega))) (fun j hj => ?_), at_congr (h.rg.kept (hU.2 _ (by omega))) (fun j hj => ?_), at_congr hc (mvF_is (fun m p' hm hp' => ?_) (fun m hm => ?_)), at_congr (h.tk.kept (hU.2 _ (by omega))) (tkF_is (fun m i hm hi => ?_)), h.ce.kept (hU.2 _ (by omega))⟩
  · unfold qF; simp only [upd_at]; rw [if_neg (show ¬ 4 = 80 + 10 * k + 8 by omega), if_neg (show ¬ 0 = 80 + 10 * k + 8 by omega), if_neg (show ¬ 1 = 80 + 10 * k + 8 by omega), if_neg (show ¬ 2 = 80 + 10 * k + 8 by omega)]
  · rw [upd_at, if_neg (by omega)]
  · rw [upd_at, if_neg (by omega)]
  · rw [upd_at, if_neg (by omega), mvF_lo z m hp', upd_at, if_neg (by omega)]
  · by_cases q : m = k
    · subst q; rw [upd_at, if_pos rfl, upd_at, if_pos rfl, if_neg hv]
    · rw [upd_ne (by omega), mvF_7, upd_ne (by omega)]
  · rw [tkF_at z m (by omega), upd_at, if_neg (by omega)]
theorem LwC.put_tk (h : LwC D cs a z g H) {k p : Nat} {v : Int32} (hk : k < 8) (hp : p < 8) (hc : va_at D vwCl (a + 4, .inl (cs 0, 64, .inl (upd (tkF z) (8 * k + p) v))) H1) (hU : Same1 (a + 4) H H1) : LwC D cs a (upd z (320 + 16 * k + p) v) g H1 := by
  refine ⟨at_congr (h.q.kept (hU.2 _ (by omega))) (fun j hj => ?_), at_congr (h.me.kept (hU.2 _ (by omega))) (fun j hj => ?_), at_congr (h.rg.kept (hU.2 _ (by omega))) (fun j hj => ?_), at_congr (h.mv.kept (hU.2 _ (by omega))) (mvF_is (fun m p' hm hp' => ?_) (fun m hm => ?_)), at_congr hc (tkF_is (fun m i hm hi => ?_)), h.ce.kept (hU.2 _ (by omega))⟩
  · unfold qF; simp only [upd_at]; rw [if_neg (show ¬ 4 = 320 + 16 * k + p by omega), if_neg (show ¬ 0 = 320 + 16 * k + p by omega), if_neg (show ¬ 1 = 320 + 16 * k + p by omega), if_neg (show ¬ 2 = 320 + 16 * k + p by omega)]
  · rw [upd_at, if_neg (by omega)]
  · rw [upd_at, if_neg (by omega)]
  · rw [mvF_lo z m hp', upd_at, if_neg (by omega)]
  · rw [mvF_7, upd_ne (by omega)]
  · rw [upd_at, upd_at]
    by_cases q : m = k ∧ i = p
    · rw [if_pos (by omega), if_pos (by omega)]
    · rw [if_neg (by omega), if_neg (by omega), tkF_at z m hi]
theorem LwC.put_ce (h : LwC D cs a z g H) {i : Nat} {v : Int64} (hc : va_at D vwCl (a + 5, .inl (cs 5, 16, .inr (.inl (vp_updL g i v)))) H1) (hU : Same1 (a + 5) H H1) : LwC D cs a z (vp_updL g i v) H1 :=
  ⟨h.q.kept (hU.2 _ (by omega)), h.me.kept (hU.2 _ (by omega)), h.rg.kept (hU.2 _ (by omega)), h.mv.kept (hU.2 _ (by omega)), h.tk.kept (hU.2 _ (by omega)), hc⟩
end LWW
