/-! a text of commands: where each begins, what it does -/
def cpq (b : Nat → Int32) (n : Nat) : Nat → Nat
  | 0 => skp b n 0
  | j + 1 => rdE b n (cpq b n j)
def ncv (b : Nat → Int32) (n p i : Nat) : Int32 := nmV b n (cPs b n p i)
def cmW (z b : Nat → Int32) (n p : Nat) : Nat := crW z (cKd b n p) (ncv b n p 0) (ncv b n p 1) (ncv b n p 2) (ncv b n p 3) (ncv b n p 4)
def cmF (z b : Nat → Int32) (n p : Nat) : Nat → Int32 := crF z (cKd b n p) (ncv b n p 0) (ncv b n p 1) (ncv b n p 2) (ncv b n p 3) (ncv b n p 4)
def xc (z b : Nat → Int32) (n : Nat) : Nat → Nat → Int32
  | 0 => z
  | j + 1 => cmF (xc z b n j) b n (cpq b n j)
def cgo (b : Nat → Int32) (n j : Nat) : Bool := decide (cpq b n j < n) && rdOk b n (cpq b n j)
def ccN (b : Nat → Int32) (n : Nat) : Nat := firstN 151 (fun j => !cgo b n j)
def exN (z b : Nat → Int32) (n : Nat) : Nat := firstN (ccN b n) (fun j => !decide (cmW (xc z b n j) b n (cpq b n j) = 0))
theorem cpq_0 (b : Nat → Int32) (n : Nat) : cpq b n 0 = skp b n 0 := rfl
theorem cpq_s (b : Nat → Int32) (n j : Nat) : cpq b n (j + 1) = rdE b n (cpq b n j) := rfl
theorem xc_0 (z b : Nat → Int32) (n : Nat) : xc z b n 0 = z := rfl
theorem xc_s (z b : Nat → Int32) (n j : Nat) : xc z b n (j + 1) = cmF (xc z b n j) b n (cpq b n j) := rfl
theorem cgo_iff {b : Nat → Int32} {n j : Nat} : cgo b n j = true ↔ cpq b n j < n ∧ rdOk b n (cpq b n j) = true := by
  unfold cgo; simp
theorem cpq_le {b : Nat → Int32} {n : Nat} : ∀ j, (∀ i, i < j → cgo b n i = true) → j ≤ cpq b n j ∧ cpq b n j ≤ n
  | 0, _ => ⟨Nat.zero_le _, (skp_le b (Nat.zero_le n)).2⟩
  | j + 1, h => by
    have ih := cpq_le j (fun i hi => h i (by omega))
    have hj := cgo_iff.mp (h j (by omega))
    have := rdE_le ih.2 hj.2
    rw [cpq_s]; omega
theorem ccN_is {b : Nat → Int32} {n j : Nat} (hn : n ≤ 150) (h : ∀ i, i < j → cgo b n i = true) (he : cgo b n j = false) : ccN b n = j := by
  have := cpq_le j h
  exact firstN_is (fun i hi => by rw [h i hi]; rfl) (by omega) (by rw [he]; rfl)
theorem ccN_all {b : Nat → Int32} {n i : Nat} (h : i < ccN b n) : cgo b n i = true := by
  have := firstN_no (fun j => !cgo b n j) 151 i h
  simpa using this
theorem ccN_lt {b : Nat → Int32} {n : Nat} (hn : n ≤ 150) : ccN b n < 151 ∧ cgo b n (ccN b n) = false := by
  have h1 := firstN_le (fun j => !cgo b n j) 151
  have hl := (cpq_le (b := b) (n := n) (ccN b n) (fun i hi => ccN_all hi)).1
  have hu := (cpq_le (b := b) (n := n) (ccN b n) (fun i hi => ccN_all hi)).2
  have h2 : ccN b n < 151 := by omega
  refine ⟨h2, ?_⟩
  have := firstN_yes (fun j => !cgo b n j) 151 h2
  simpa [ccN] using this
theorem cKd_8 {b : Nat → Int32} {n p : Nat} (h : rdOk b n p = true) : cKd b n p < 8 := by
  have := kdN_8 b n p (ltr b n p)
  have h8 : cKd b n p ≠ 8 := by
    intro q
    rw [(rd_no1 q).1] at h; exact absurd h (by decide)
  unfold cKd at h8 ⊢; omega
/-- the rows of a run of commands -/
theorem xc_inv {z b : Nat → Int32} {n : Nat} (hI : Inv z) : ∀ j, (∀ i, i < j → cgo b n i = true) → Inv (xc z b n j) ∧ Fr z (xc z b n j)
  | 0, _ => ⟨hI, Fr.rf⟩
  | j + 1, h => by
    have ih := xc_inv hI j (fun i hi => h i (by omega))
    have hk := cKd_8 (cgo_iff.mp (h j (by omega))).2
    rw [xc_s]; unfold cmF
    exact ⟨(ev_crF ⟨Eqv.rf, ih.1⟩ hk _ _ _ _ _).2, ih.2.tr (fr_crF ih.1 hk _ _ _ _ _)⟩
theorem ev_cmF {z y b : Nat → Int32} {n p : Nat} (h : EI z y) (hok : rdOk b n p = true) {x0 x1 x2 x3 x4 : Int32} (hx : ∀ i, i < nmC (cKd b n p) → [x0, x1, x2, x3, x4].getD i 0 = ncv b n p i) : EI (cmF z b n p) (crF y (cKd b n p) x0 x1 x2 x3 x4) ∧ crW y (cKd b n p) x0 x1 x2 x3 x4 = cmW z b n p := by
  have hk := cKd_8 hok
  have e := crF_args y hk (a := ncv b n p 0) (b := ncv b n p 1) (c := ncv b n p 2) (d := ncv b n p 3) (e := ncv b n p 4) (a' := x0) (b' := x1) (c' := x2) (d' := x3) (e' := x4) (fun q => hx 0 q) (fun q => hx 1 q) (fun q => hx 2 q) (fun q => hx 3 q) (fun q => hx 4 q)
  have e2 : crF y (cKd b n p) x0 x1 x2 x3 x4 = crF y (cKd b n p) (ncv b n p 0) (ncv b n p 1) (ncv b n p 2) (ncv b n p 3) (ncv b n p 4) := by
    unfold crF; rw [e.1, e.2]
  rw [e2, e.1]
  exact ⟨ev_crF h hk _ _ _ _ _, ev_crW h _ _ _ _ _ _⟩
theorem exN_is {z b : Nat → Int32} {n j : Nat} (h : ∀ i, i < j → cmW (xc z b n i) b n (cpq b n i) = 0) (he : j = ccN b n ∨ (j < ccN b n ∧ ¬ cmW (xc z b n j) b n (cpq b n j) = 0)) : exN z b n = j := by
  rcases he with q | ⟨q, q2⟩
  · rw [q]; exact firstN_none (fun i hi => by rw [h i (by omega)]; rfl)
  · exact firstN_is (fun i hi => by rw [h i hi]; rfl) q (by simp [q2])
/-- the next command's number, where the last was read well -/
def cnx (b : Nat → Int32) (n j : Nat) : Nat := if rdOk b n (cpq b n j) = true then j + 1 else j
theorem cnx_all {b : Nat → Int32} {n j : Nat} (h : ∀ i, i < j → cgo b n i = true) (hl : cpq b n j < n) : ∀ i, i < cnx b n j → cgo b n i = true := by
  intro i hi
  unfold cnx at hi
  split at hi
  · rename_i q
    rcases Nat.lt_succ_iff_lt_or_eq.mp hi with e | e
    · exact h i e
    · subst e; exact cgo_iff.mpr ⟨hl, q⟩
  · exact h i hi
theorem cnx_pl (b : Nat → Int32) (n j : Nat) : (if rdOk b n (cpq b n j) = true then rdE b n (cpq b n j) else rdFl b n (cpq b n j)) = if rdOk b n (cpq b n j) = true then cpq b n (cnx b n j) else rdFl b n (cpq b n (cnx b n j)) := by
  unfold cnx
  by_cases q : rdOk b n (cpq b n j) = true
  · rw [if_pos q, if_pos q, if_pos q, cpq_s]
  · rw [if_neg q, if_neg q, if_neg q]
theorem cnx_bad {b : Nat → Int32} {n j : Nat} (hl : cpq b n j < n) (q : rdOk b n (cpq b n j) = false) : cgo b n (cnx b n j) = false ∧ cpq b n (cnx b n j) < n := by
  unfold cnx
  rw [if_neg (by rw [q]; decide)]
  refine ⟨?_, hl⟩
  unfold cgo; rw [q]; simp
theorem cnx_mu {b : Nat → Int32} {n j : Nat} (h : ∀ i, i < j → cgo b n i = true) (hl : cpq b n j < n) : 2 * (n - cpq b n (cnx b n j)) + (if rdOk b n (cpq b n j) = true then 1 else 0) < 2 * (n - cpq b n j) + 1 := by
  have hle := (cpq_le j h).2
  unfold cnx
  by_cases q : rdOk b n (cpq b n j) = true
  · rw [if_pos q, if_pos q, cpq_s]
    have := rdE_le hle q
    omega
  · rw [if_neg q, if_neg q]; omega
/-- behind the state all stays but what reading leaves -/
def FrT (z y : Nat → Int32) : Prop := ∀ j, 704 ≤ j → j ≠ 4406 → j ≠ 4407 → (j < 4374 ∨ 4379 ≤ j) → y j = z j
def rcA (z b : Nat → Int32) (n : Nat) : Int32 := if cpq b n (ccN b n) < n then -10 - nI (rdFl b n (cpq b n (ccN b n))) else nI (exN (svT z) b n)
def RcP (z y b : Nat → Int32) (n : Nat) : Prop := if cpq b n (ccN b n) < n then TX (t0 z) y else EI (xc (svT z) b n (exN (svT z) b n)) y ∧ FrT (svT z) y
theorem saveF_hi (z : Nat → Int32) {v j : Nat} (hv : v ≤ 4) (h : 4224 ≤ j) (h4 : j ≠ 4404) : saveF z v j = z j := by
  have hs : svV v ≤ 3 := by unfold svV; split <;> omega
  unfold saveF
  rw [upd_at, if_neg h4, cpZ_at, if_neg (by omega)]
  unfold svA; split
  · rw [upd_at, if_neg h4, shK_out z (by omega)]
  · rfl
theorem svA_tx {z y : Nat → Int32} (h : TX z y) (v : Nat) : TX (svA z v) (svA y v) := fun j h1 h2 h3 => by
  unfold svA; split
  · rw [upd_at, upd_at]
    by_cases e : j = 4404
    · rw [if_pos e, if_pos e]
    · rw [if_neg e, if_neg e]; unfold shK
      by_cases q : 1408 ≤ j ∧ j < 1408 + 2112
      · rw [if_pos q, if_pos q]; exact h _ (by omega) (by omega) (by omega)
      · rw [if_neg q, if_neg q]; exact h j h1 h2 h3
  · exact h j h1 h2 h3
theorem saveF_tx {z y : Nat → Int32} (h : TX z y) (v : Nat) : TX (saveF z v) (saveF y v) := fun j h1 h2 h3 => by
  unfold saveF
  rw [upd_at, upd_at]
  by_cases e : j = 4404
  · rw [if_pos e, if_pos e]
  · rw [if_neg e, if_neg e, cpZ_at, cpZ_at]
    by_cases q : 1408 + svV v * 704 ≤ j ∧ j < 1408 + svV v * 704 + 704
    · rw [if_pos q, if_pos q]; exact svA_tx h v _ (by omega) (by omega) (by omega)
    · rw [if_neg q, if_neg q]; exact svA_tx h v j h1 h2 h3
