/-! a run of commands: what its second loop needs -/
theorem rd_ei {w y y1 : Nat → Int32} (h : EI w y) (ht : TX y y1) : EI w y1 := ⟨h.1.tr (Eqv.of_eq (ev_R h) (fun j hj => ht j (by omega) (by omega) (Or.inl (by omega)))), h.2⟩
theorem rd_ev {w y y1 b : Nat → Int32} {n p : Nat} (h : EI w y) (hr : RdP y y1 b n p) (hok : rdOk b n p = true) : EI (cmF w b n p) (crF y1 (cKd b n p) (y1 4374) (y1 4375) (y1 4376) (y1 4377) (y1 4378)) ∧ crW y1 (cKd b n p) (y1 4374) (y1 4375) (y1 4376) (y1 4377) (y1 4378) = cmW w b n p := by
  refine ev_cmF (rd_ei h hr.1) hok (fun i hi => ?_)
  have h5 := nmC_5 (cKd b n p)
  have h9 := (hr.2.2 hok).2 i hi
  have e : i = 0 ∨ i = 1 ∨ i = 2 ∨ i = 3 ∨ i = 4 := by omega
  rcases e with rfl | rfl | rfl | rfl | rfl <;> exact h9
theorem frt_rd {s y y1 : Nat → Int32} (hf : FrT s y) (ht : TX y y1) (hI : Inv y1) {kd : Nat} (hk : kd < 8) (a b c d e : Int32) : FrT s (crF y1 kd a b c d e) := fun j h h1 h2 h3 => (fr_crF hI hk a b c d e j h).trans ((ht j h1 h2 h3).trans (hf j h h1 h2 h3))
theorem txt_fr {y y1 b : Nat → Int32} {n : Nat} (hT : TXT y b n) (h : Fr y y1) : TXT y1 b n := ⟨fun i hi => (h _ (by omega)).trans (hT.1 i hi), (h _ (by omega)).trans hT.2.1, hT.2.2⟩
theorem txt_sv {y b : Nat → Int32} {n v : Nat} (hT : TXT y b n) (hv : v ≤ 4) : TXT (saveF y v) b n := ⟨fun i hi => (saveF_hi y hv (by omega) (by have := hT.2.2; omega)).trans (hT.1 i hi), (saveF_hi y hv (by omega) (by omega)).trans hT.2.1, hT.2.2⟩
theorem tx_ei {z y : Nat → Int32} (hI : Inv z) (h : TX z y) : EI z y := ⟨Eqv.of_eq hI (fun j hj => h j (by omega) (by omega) (Or.inl (by omega))), hI⟩
theorem tx_frt {z y : Nat → Int32} (h : TX z y) : FrT z y := fun j _ a b c => h j a b c
theorem rd_no {w y y1 b : Nat → Int32} {n p : Nat} (h : EI w y) (hr : RdP y y1 b n p) (hok : rdOk b n p = true) (hw : crW y1 (cKd b n p) (y1 4374) (y1 4375) (y1 4376) (y1 4377) (y1 4378) = cmW w b n p) (hg : ¬ cmW w b n p = 0) : EI w (crF y1 (cKd b n p) (y1 4374) (y1 4375) (y1 4376) (y1 4377) (y1 4378)) := by
  have e : crF y1 (cKd b n p) (y1 4374) (y1 4375) (y1 4376) (y1 4377) (y1 4378) = y1 := by unfold crF; rw [hw, if_neg hg]
  rw [e]; exact rd_ei h hr.1
