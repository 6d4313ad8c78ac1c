/-! the class's text of commands: bytes b, numbers nn, word at wd, length ln, place pa, fault ft -/
def TxC (D : va_G) (cs : Nat → ClassId) (q : Nat) (b nn : Nat → Int32) (wd ln pa : Nat) (ft : Int32) (H : Heap) : Prop :=
  va_at D vwCl (q, .inr (0, [.ref (q + 1), .ref (q + 2), .ref wd, .int (nI ln), .int (nI pa), .int ft])) H ∧ va_at D vwCl (q + 1, .inl (cs 1, 150, .inl b)) H ∧ va_at D vwCl (q + 2, .inl (cs 0, 5, .inl nn)) H
section TXW
variable {D : va_G} {cs : Nat → ClassId} {q : Nat} {b nn : Nat → Int32} {wd ln pa : Nat} {ft : Int32} {H H1 : Heap}
theorem TxC.obj (h : TxC D cs q b nn wd ln pa ft H) : va_at D vwCl (q, .inr (0, [.ref (q + 1), .ref (q + 2), .ref wd, .int (nI ln), .int (nI pa), .int ft])) H := h.1
theorem TxC.keep (h : TxC D cs q b nn wd ln pa ft H) (hk : ∀ x, q ≤ x → x < q + 3 → H1[x]? = H[x]?) : TxC D cs q b nn wd ln pa ft H1 :=
  ⟨h.1.kept (hk _ (by omega) (by omega)), h.2.1.kept (hk _ (by omega) (by omega)), h.2.2.kept (hk _ (by omega) (by omega))⟩
theorem TxC.lt (h : TxC D cs q b nn wd ln pa ft H) (x : Nat) (h1 : q ≤ x) (h2 : x < q + 3) : x < H.size := by
  have e2 : x = q ∨ x = q + 1 ∨ x = q + 2 := by omega
  rcases e2 with rfl | rfl | rfl
  · exact h.1.lt
  · exact h.2.1.lt
  · exact h.2.2.lt
theorem TxC.frame {P : Nat → Prop} (h : TxC D cs q b nn wd ln pa ft H) (hk : H.size ≤ H1.size ∧ ∀ x, x < H.size → ¬ P x → H1[x]? = H[x]?) (hd : ∀ x, q ≤ x → x < q + 3 → ¬ P x) : TxC D cs q b nn wd ln pa ft H1 := h.keep (fun x h1 h2 => hk.2 x (h.lt x h1 h2) (hd x h1 h2))
theorem TxC.off (h : TxC D cs q b nn wd ln pa ft H) {a : Nat} (hU : Same1 a H H1) (hb : a < q ∨ q + 3 ≤ a) : TxC D cs q b nn wd ln pa ft H1 := h.keep (fun x h1 h2 => hU.2 x (by omega))
end TXW
abbrev rgT (q : Nat) : Nat → Prop := fun x => q ≤ x ∧ x < q + 3
/-- reading a number: what it leaves -/
def rnA (b : Nat → Int32) (n k : Nat) : Nat := if nmOk b n k = true then nmE b n k else skp b n k
def rnN (b nn : Nat → Int32) (n k w : Nat) : Nat → Int32 := if nmOk b n k = true then upd nn w (nmV b n k) else nn
def rnF (b : Nat → Int32) (n k : Nat) (ft : Int32) : Int32 := if nmOk b n k = true then ft else nI (nmFl b n k)
theorem skp_at {b : Nat → Int32} {n k : Nat} (hk : k ≤ n) : skp b n k = k ↔ ¬ bt b n k = nI 32 := by
  constructor
  · intro h q; exact skp_no (b := b) hk (by rw [h]; exact q)
  · intro h
    have := skp_is (b := b) (n := n) (k := k) (i := 0) (fun j hj => absurd hj (Nat.not_lt_zero j)) h hk
    exact this
theorem isD_in {x : Int32} : wiB x (nI 48) (nI 57) = isD x := rfl
def smA (b : Nat → Int32) (n k : Nat) : Nat := if bt b n (skp b n k) = nI 59 then skp b n k + 1 else skp b n k
def smF (b : Nat → Int32) (n k : Nat) (ft : Int32) : Int32 := if bt b n (skp b n k) = nI 59 then ft else nI (skp b n k)
theorem i2c_lo : ∀ k, k < 128 → ((nI k).toUInt32 % 65536).toInt32 = nI k := by decide +kernel
theorem nar_lo : ∀ k, k < 128 → vp_nar .char (nI k) = nI k := by decide +kernel
theorem nvI_0 (b : Nat → Int32) (k : Nat) : nvI b k 0 = nI 0 := rfl
theorem nm_no {b : Nat → Int32} {n k : Nat} (h : bt b n k = nI 32) (h0 : dgN b n (skp b n k) = 0) : nmOk b n k = false := by
  have hd : isD (bt b n (skp b n k)) = false := by
    cases q : isD (bt b n (skp b n k)) with
    | false => rfl
    | true =>
      unfold dgN at h0
      have := firstN_yes (fun i => !isD (bt b n (skp b n k + i))) 3 (by omega)
      rw [h0] at this
      simp [q] at this
  unfold nmOk; rw [hd]; simp
theorem nm_yes {b : Nat → Int32} {n k : Nat} (h : bt b n k = nI 32) (h0 : ¬ dgN b n (skp b n k) = 0) : nmOk b n k = true := by
  have hd := firstN_no (fun i => !isD (bt b n (skp b n k + i))) 3 0 (by unfold dgN at h0; omega)
  unfold nmOk; rw [decide_eq_true h]
  simpa using hd
