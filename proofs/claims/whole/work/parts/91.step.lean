/-! the steps of the law that change: what the reference's refusal number says of the class, and the relation behind them -/
section ST
variable {z e : Nat → Int32} {g : Nat → Int64} {nx cn : Nat} {se : Nat → Nat → Int32} {sg : Nat → Nat → Int64} {b : Nat → Int32} {ln : Nat}
/-- the relation behind a saved change -/
abbrev RelS (z e : Nat → Int32) (g : Nat → Int64) (nx cn : Nat) (se : Nat → Nat → Int32) (sg : Nat → Nat → Int64) (b : Nat → Int32) (ln : Nat) (e0 : Nat → Int32) (g0 : Nat → Int64) : Prop :=
  RelA z e g ((nx + 1) % 4) (min (cn + 1) 4) (hsE se nx (cfF (se nx) e0)) (hsG sg nx (cgM (sg nx) g0 (Mn e0))) b ln
theorem RelA.e_wrg (h : RelA z e g nx cn se sg b ln) (x y w : Int32) : wrg e x y w = wrg z x y w := by have q := h.why 0 x y w 0 0; rwa [crW_0, crW_0] at q
theorem RelA.e_wmv (h : RelA z e g nx cn se sg b ln) (x y w u v : Int32) : wmv e x y w u v = wmv z x y w u v := by have q := h.why 1 x y w u v; rwa [crW_1, crW_1] at q
theorem RelA.e_wsg (h : RelA z e g nx cn se sg b ln) (x : Int32) : wsg e x = wsg z x := by have q := h.why 2 x 0 0 0 0; rwa [crW_2, crW_2] at q
theorem RelA.e_wst (h : RelA z e g nx cn se sg b ln) (x : Int32) (y : Bool) : wst e x (bI y) = wst z x (bI y) := by
  cases y with
  | true => have q := h.why 3 x 0 0 0 0; rwa [crW_3, crW_3] at q
  | false => have q := h.why 4 x 0 0 0 0; rwa [crW_4, crW_4] at q
theorem RelA.e_wwr (h : RelA z e g nx cn se sg b ln) (x y : Int32) : wwr e x y = wwr z x y := by have q := h.why 5 x y 0 0 0; rwa [crW_5, crW_5] at q
theorem RelA.e_wtk (h : RelA z e g nx cn se sg b ln) (x : Int32) : wtk e x = wtk z x := by have q := h.why 7 x 0 0 0 0; rwa [crW_7, crW_7] at q
theorem RelA.sAddRing (h : RelA z e g nx cn se sg b ln) {x y w : Int32} (hw : wrg z x y w = 0) : wrg e x y w = 0 ∧ Rn e < 6 ∧ Rn e = Rn z ∧ RelS (prF (svT z) x y w) (prF e x y w) g nx cn se sg b ln e g := by
  have he := (h.e_wrg x y w).trans hw
  have hs := (h.save.e_wrg x y w).symm.trans he
  have q := h.cmd (k := 0) (by decide) x y w 0 0
  rw [cr0 hs, cr0 he, cgN (Or.inl (by decide))] at q
  exact ⟨he, wrg_0 (ev_R h.1) he, h.1.R, q⟩
theorem RelA.sMove (h : RelA z e g nx cn se sg b ln) {x y w u v : Int32} (hw : wmv z x y w u v = 0) : ∃ qf qa qt qb qn, x = nI qf ∧ y = nI qa ∧ w = nI qt ∧ u = nI qb ∧ v = nI qn ∧ qf < Rn e ∧ qt < Rn e ∧ qa ≤ 99 ∧ qb ≤ 99 ∧ qn ≤ 16 ∧ Mn e < 24 ∧ wmv e x y w u v = 0 ∧ Mn e = Mn z ∧ RelS (pmF (svT z) x y w u v) (pmF e x y w u v) (pmG e g qf qa qt qb qn) nx cn se sg b ln e g := by
  have he := (h.e_wmv x y w u v).trans hw
  have hs := (h.save.e_wmv x y w u v).symm.trans he
  have hI := ev_R h.1
  have h6 := hI.R6
  obtain ⟨qf, qa, qt, qb, qn, e1, e2, e3, e4, e5, hf, ht, ha, hb, hn⟩ := wmv_nat hI he
  have q := h.cmd (k := 1) (by decide) x y w u v
  rw [cr1 hs, cr1 he, cg1 (by omega) (by omega) (by omega) (by omega) (by omega) e1 e2 e3 e4 e5 he] at q
  exact ⟨qf, qa, qt, qb, qn, e1, e2, e3, e4, e5, hf, ht, ha, hb, hn, wmv_0 hI he, he, h.1.M, q⟩
theorem RelA.fc (h : RelA z e g nx cn se sg b ln) (r : Nat) : fcN e r = fcN z r := h.1.1.fc r
theorem RelA.sSign (h : RelA z e g nx cn se sg b ln) {x : Int32} (hw : wsg z x = 0) : ∃ r, x = nI r ∧ r < Rn e ∧ fcN e r < Mn e ∧ wsg e x = 0 ∧ fcN e r = fcN z r ∧ RelS (signF (svT z) (fcN z r)) (signF e (fcN e r)) g nx cn se sg b ln e g := by
  have he := (h.e_wsg x).trans hw
  have hs := (h.save.e_wsg x).symm.trans he
  have hI := ev_R h.1
  have h6 := hI.R6
  obtain ⟨r, hr, er, hf⟩ := wsg_0 hI he
  have q := h.cmd (k := 2) (by decide) x 0 0 0 0
  rw [cr2 (by omega) er hs, cr2 (by omega) er he, cgN (Or.inl (by decide))] at q
  have e1 : fcN (svT z) r = fcN z r := (h.save.fc r).symm.trans (h.fc r)
  rw [e1] at q
  exact ⟨r, er, hr, hf, he, h.fc r, q⟩
theorem RelA.sWrite (h : RelA z e g nx cn se sg b ln) {x y : Int32} (hw : wwr z x y = 0) : ∃ r, x = nI r ∧ r < 48 ∧ wwr e x y = 0 ∧ e (8 + r) = z (8 + r) ∧ RelS (upd (svT z) (8 + r) y) (upd e (8 + r) y) g nx cn se sg b ln e g := by
  have he := (h.e_wwr x y).trans hw
  have hs := (h.save.e_wwr x y).symm.trans he
  obtain ⟨r, hr, er⟩ := wwr_0 he
  have q := h.cmd (k := 5) (by decide) x y 0 0 0
  rw [cr5 (by omega) er hs, cr5 (by omega) er he, cgN (Or.inl (by decide))] at q
  exact ⟨r, er, hr, he, h.1.1.1 _ (by omega), q⟩
theorem RelA.sSet (h : RelA z e g nx cn se sg b ln) {x y : Int32} (hw : wse x y = 0) : ∃ r, x = nI r ∧ r < 2 ∧ e (1 + r) = z (1 + r) ∧ RelS (upd (svT z) (1 + r) y) (upd e (1 + r) y) g nx cn se sg b ln e g := by
  obtain ⟨r, hr, er⟩ := wse_0 hw
  have q := h.cmd (k := 6) (by decide) x y 0 0 0
  rw [cr6 (by omega) er hw, cr6 (by omega) er hw, cgN (Or.inl (by decide))] at q
  exact ⟨r, er, hr, h.1.1.1 _ (by omega), q⟩
theorem RelA.sPass (h : RelA z e g nx cn se sg b ln) {x : Int32} (hw : wtk z x = 0) : ∃ r, x = nI r ∧ r ≤ 50 ∧ wtk e x = 0 ∧ psN e r = psN (svT z) r ∧ RelS (psF (svT z) r) (psF e r) g nx cn se sg b ln e g := by
  have he := (h.e_wtk x).trans hw
  have hs := (h.save.e_wtk x).symm.trans he
  obtain ⟨r, hr, er⟩ := wtk_0 he
  have q := h.cmd (k := 7) (by decide) x 0 0 0 0
  rw [cr7 (by omega) er hs, cr7 (by omega) er he, cgN (Or.inl (by decide))] at q
  exact ⟨r, er, hr, he, ev_psN h.save.1 r, q⟩
theorem RelA.sStrike (h : RelA z e g nx cn se sg b ln) {x : Int32} {y : Bool} (hw : wst z x (bI y) = 0) : ∃ r, x = nI r ∧ r < Rn e ∧ wst e x (bI y) = 0 ∧ cpN e r = cpN z r ∧ RelS (upd (svT z) (56 + 4 * r + 3) (bI y)) (upd e (56 + 4 * r + 3) (bI y)) g nx cn se sg b ln e g := by
  have he := (h.e_wst x y).trans hw
  have hs := (h.save.e_wst x y).symm.trans he
  have hI := ev_R h.1
  have h6 := hI.R6
  obtain ⟨r, hr, er⟩ := wst_0 hI he
  refine ⟨r, er, hr, he, h.1.1.cp r, ?_⟩
  cases y with
  | true =>
    have q := h.cmd (k := 3) (by decide) x 0 0 0 0
    rw [cr3 (by omega) er hs, cr3 (by omega) er he, cgN (Or.inl (by decide))] at q
    exact q
  | false =>
    have q := h.cmd (k := 4) (by decide) x 0 0 0 0
    rw [cr4 (by omega) er hs, cr4 (by omega) er he, cgN (Or.inl (by decide))] at q
    exact q
end ST
