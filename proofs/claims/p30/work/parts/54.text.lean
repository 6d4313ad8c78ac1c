/-! the class's text of commands: bytes b, numbers nn, word at wd, length ln, place pa, fault ft -/
def TxC (D : va_G) (cs : Nat → ClassId) (q : Nat) (b nn : Nat → Int32) (wd ln pa : Nat) (ft : Int32) (H : Heap) : Prop :=
  va_at D vwCl (q, .inr (0, [.ref (q + 1), .ref (q + 2), .ref wd, .int (nI ln), .int (nI pa), .int ft])) H ∧ va_at D vwCl (q + 1, .inl (cs 1, 150, .inl b)) H ∧ va_at D vwCl (q + 2, .inl (cs 0, 5, .inl nn)) H
section TXW
variable {D : va_G} {cs : Nat → ClassId} {q : Nat} {b nn : Nat → Int32} {wd ln pa : Nat} {ft : Int32} {H H1 : Heap}
theorem TxC.obj (h : TxC D cs q b nn wd ln pa ft H) : va_at D vwCl (q, .inr (0, [.ref (q + 1), .ref (q + 2), .ref wd, .int (nI ln), .int (nI pa), .int ft])) H := h.1
theorem TxC.keep (h : TxC D cs q b nn wd ln pa ft H) (hk : ∀ x, q ≤ x → x < q + 3 → H1[x]? = H[x]?) : TxC D cs q b nn wd ln pa ft H1 :=
  ⟨h.1.kept (hk _ (by omega) (by omega)), h.2.1.kept (hk _ (by omega) (by omega)), h.2.2.kept (hk _ (by omega) (by omega))⟩
theorem TxC.lt (h : TxC D cs q b nn wd ln pa ft H) (x : Nat) (h1 : q ≤ x) (h2 : x < q + 3) : x < H.size := by
  have e2 : x = q ∨ x = q + 1 ∨ x = q + 2 := by omega
  rcases e2 with rfl | rfl | rfl
  · exact h.1.lt
  · exact h.2.1.lt
  · exact h.2.2.lt
theorem TxC.frame {P : Nat → Prop} (h : TxC D cs q b nn wd ln pa ft H) (hk : H.size ≤ H1.size ∧ ∀ x, x < H.size → ¬ P x → H1[x]? = H[x]?) (hd : ∀ x, q ≤ x → x < q + 3 → ¬ P x) : TxC D cs q b nn wd ln pa ft H1 := h.keep (fun x h1 h2 => hk.2 x (h.lt x h1 h2) (hd x h1 h2))
theorem TxC.off (h : TxC D cs q b nn wd ln pa ft H) {a : Nat} (hU : Same1 a H H1) (hb : a < q ∨ q + 3 ≤ a) : TxC D cs q b nn wd ln pa ft H1 := h.keep (fun x h1 h2 => hU.2 x (by omega))
end TXW
