/-! reading a command in the class: what it leaves, case by case -/
theorem cKd_w {b : Nat → Int32} {n p : Nat} (hp : p ≤ n) : cKd b n p = wbN b p (ltr b n p) := (wb_kd (ltr_le b hp).2).symm
theorem rdc_0 {b nn : Nat → Int32} {n p k pa : Nat} {ft : Int32} (h : ¬ p < n) : RdC b n p ft nn k pa ft := ⟨fun q => absurd q h, fun q => absurd q h, fun _ => rfl⟩
theorem rdc_1 {b nn : Nat → Int32} {n p k pa : Nat} {ft : Int32} (h : p < n) (hw : ¬ wbN b p (ltr b n p) < 8) : rdOk b n p = false ∧ RdC b n p ft nn k pa (nI p) := by
  have h8 : cKd b n p = 8 := by rw [cKd_w (by omega)]; have := wbN_8 b p (ltr b n p); omega
  have := rd_no1 h8
  exact ⟨this.1, fun _ q => absurd (this.1 ▸ q) (by decide), fun _ _ => by rw [this.2], fun q => absurd h q⟩
theorem nfI_no {b : Nat → Int32} {n k C : Nat} (h : nfI b n k C < C) : nmOk b n (nps b n k (nfI b n k C)) = false := by
  have := firstN_yes (fun i => !nmOk b n (nps b n k i)) C h
  have h2 : (!nmOk b n (nps b n k (nfI b n k C))) = true := this
  cases q : nmOk b n (nps b n k (nfI b n k C)) with
  | false => rfl
  | true => rw [q] at h2; exact absurd h2 (by decide)
theorem rdc_2 {b nn : Nat → Int32} {n p k pa : Nat} {ft : Int32} (h : p < n) (hw : wbN b p (ltr b n p) < 8) (hf : ¬ nfI b n (ltr b n p) (nmC (wbN b p (ltr b n p))) = nmC (wbN b p (ltr b n p))) :
    rdOk b n p = false ∧ RdC b n p ft nn k pa (nbF b n (ltr b n p) (nmC (wbN b p (ltr b n p))) ft) := by
  have hle : nfI b n (ltr b n p) (nmC (wbN b p (ltr b n p))) ≤ nmC (wbN b p (ltr b n p)) := firstN_le _ _
  have e := cKd_w (b := b) (n := n) (p := p) (by omega)
  have h8 : cKd b n p ≠ 8 := by rw [e]; omega
  have this := rd_no2 (i := nfI b n (ltr b n p) (nmC (wbN b p (ltr b n p)))) h8 (fun j hj => by
    have := firstN_no (fun i => !nmOk b n (nps b n (ltr b n p) i)) _ j hj
    show nmOk b n (nps b n (ltr b n p) j) = true
    simpa using this) (by rw [e]; omega) (nfI_no (by omega))
  refine ⟨this.1, fun _ q => absurd (this.1 ▸ q) (by decide), fun _ _ => ?_, fun q => absurd h q⟩
  unfold nbF; rw [if_neg hf, this.2]; rfl
theorem rdc_3 {b nn : Nat → Int32} {n p k pa : Nat} {ft : Int32} (h : p < n) (hw : wbN b p (ltr b n p) < 8) (hf : nfI b n (ltr b n p) (nmC (wbN b p (ltr b n p))) = nmC (wbN b p (ltr b n p)))
    (hs : ¬ bt b n (skp b n (nps b n (ltr b n p) (nmC (wbN b p (ltr b n p))))) = nI 59) : rdOk b n p = false ∧ RdC b n p ft nn k pa (smF b n (nps b n (ltr b n p) (nmC (wbN b p (ltr b n p)))) ft) := by
  have e := cKd_w (b := b) (n := n) (p := p) (by omega)
  have h8 : cKd b n p ≠ 8 := by rw [e]; omega
  have ha : ∀ j, j < nmC (cKd b n p) → nmOk b n (cPs b n p j) = true := fun j hj => nfI_ok hf j (e ▸ hj)
  have ec : cEn b n p = skp b n (nps b n (ltr b n p) (nmC (wbN b p (ltr b n p)))) := by rw [← e]; rfl
  have this := rd_no3 h8 ha (by rw [ec]; exact hs)
  refine ⟨this.1, fun _ q => absurd (this.1 ▸ q) (by decide), fun _ _ => ?_, fun q => absurd h q⟩
  unfold smF; rw [if_neg hs, this.2, ec]
theorem rdc_4 {b nn : Nat → Int32} {n p : Nat} {ft : Int32} (h : p < n) (hw : wbN b p (ltr b n p) < 8) (hf : nfI b n (ltr b n p) (nmC (wbN b p (ltr b n p))) = nmC (wbN b p (ltr b n p)))
    (hs : bt b n (skp b n (nps b n (ltr b n p) (nmC (wbN b p (ltr b n p))))) = nI 59) : rdOk b n p = true ∧ RdC b n p ft (npN b nn n (ltr b n p) (nmC (wbN b p (ltr b n p)))) (wbN b p (ltr b n p)) (smA b n (nps b n (ltr b n p) (nmC (wbN b p (ltr b n p))))) (smF b n (nps b n (ltr b n p) (nmC (wbN b p (ltr b n p)))) ft) := by
  have e := cKd_w (b := b) (n := n) (p := p) (by omega)
  have h8 : cKd b n p ≠ 8 := by rw [e]; omega
  have ha : ∀ j, j < nmC (cKd b n p) → nmOk b n (cPs b n p j) = true := fun j hj => nfI_ok hf j (e ▸ hj)
  have ec : cEn b n p = skp b n (nps b n (ltr b n p) (nmC (wbN b p (ltr b n p)))) := by rw [← e]; rfl
  have hy := rd_yes h8 ha (by rw [ec]; exact hs)
  refine ⟨hy, fun _ _ => ⟨?_, e.symm, fun i hi => ?_, ?_⟩, fun _ q => absurd (hy ▸ q) (by decide), fun q => absurd h q⟩
  · unfold smA; rw [if_pos hs, ec]
  · rw [npN_at _ (fun j hj => nfI_ok hf j hj) i (e ▸ hi)]; rfl
  · unfold smF; rw [if_pos hs]
theorem nbP_ok {b : Nat → Int32} {n k C : Nat} (h : nfI b n k C = C) : nbP b n k C = nps b n k C := if_pos h
theorem nbF_ok {b : Nat → Int32} {n k C : Nat} {ft : Int32} (h : nfI b n k C = C) : nbF b n k C ft = ft := if_pos h
theorem nbP_le {b : Nat → Int32} {n k C : Nat} (h : k ≤ n) : nbP b n k C ≤ n := by
  unfold nbP; split
  · exact (nps_le b h _).2
  · exact rnA_le (nps_le b h _).2
theorem smA_le {b : Nat → Int32} {n k : Nat} (h : k ≤ n) : smA b n k ≤ n := by
  have := (skp_le b h).2
  unfold smA; split
  · next q =>
    rcases Nat.lt_or_ge (skp b n k) n with h2 | h2
    · omega
    · rw [bt_ge h2] at q; exact absurd q (by decide)
  · exact this
/-- what the class's text says after reading -/
theorem cpq_skp {b nn : Nat → Int32} {n r k pa1 : Nat} {ft ft1 : Int32} (hr : RdC b n (cpq b n r) ft nn k pa1 ft1) (hp : cpq b n r < n) (hok : rdOk b n (cpq b n r) = true) : skp b n pa1 = cpq b n (r + 1) := by
  rw [(hr.1 hp hok).1]; rfl
theorem ftI_is {b : Nat → Int32} {n r : Nat} (hn : n ≤ 150) (hall : ∀ i, i < r → cgo b n i = true) {ft1 : Int32} (hg : cgo b n r = false) (h1 : cpq b n r < n → rdOk b n (cpq b n r) = false → ft1 = nI (rdFl b n (cpq b n r))) (h2 : ¬ cpq b n r < n → ft1 = -1) : ft1 = ftI b n := by
  unfold ftI
  rw [ccN_is hn hall hg]
  by_cases q : cpq b n r < n
  · rw [if_pos q]
    refine h1 q ?_
    unfold cgo at hg; rw [decide_eq_true q, Bool.true_and] at hg; exact hg
  · rw [if_neg q]; exact h2 q
theorem cgo_b (b : Nat → Int32) (n r : Nat) : (decide (cpq b n r < n) && rdOk b n (cpq b n r)) = cgo b n r := rfl
theorem ff_t {b nn1 : Nat → Int32} {n r pa k1 pa1 : Nat} {ft ft1 : Int32} (hall : ∀ i, i < r → cgo b n i = true) (hs : skp b n pa = cpq b n r) (hf : ft = -1) (hr : RdC b n (skp b n pa) ft nn1 k1 pa1 ft1) (h : (decide (skp b n pa < n) && rdOk b n (skp b n pa)) = true) :
    (∀ i, i < r + 1 → cgo b n i = true) ∧ skp b n pa1 = cpq b n (r + 1) ∧ ft1 = -1 := by
  rw [hs] at hr h
  have hg : cgo b n r = true := h
  have h2 := cgo_iff.mp hg
  refine ⟨no_t hall hg, cpq_skp hr h2.1 h2.2, ((hr.1 h2.1 h2.2).2.2.2).trans hf⟩
theorem ff_f {b nn1 : Nat → Int32} {n r pa k1 pa1 : Nat} {ft ft1 : Int32} (hn : n ≤ 150) (hall : ∀ i, i < r → cgo b n i = true) (hs : skp b n pa = cpq b n r) (hf : ft = -1) (hr : RdC b n (skp b n pa) ft nn1 k1 pa1 ft1) (h : (decide (skp b n pa < n) && rdOk b n (skp b n pa)) = false) : ft1 = ftI b n := by
  rw [hs] at hr h
  have hg : cgo b n r = false := h
  exact ftI_is hn hall hg hr.2.1 (fun q => (hr.2.2 q).trans hf)
theorem ff_e {b : Nat → Int32} {n r : Nat} {ft : Int32} (hn : n ≤ 150) (hall : ∀ i, i < r → cgo b n i = true) (hr : 150 ≤ r) (hf : ft = -1) : ft = ftI b n := by
  have h1 := cpq_le r hall
  have hg : cgo b n r = false := by unfold cgo; rw [decide_eq_false (by omega)]; rfl
  exact ftI_is hn hall hg (fun q => absurd q (by omega)) (fun _ => hf)
