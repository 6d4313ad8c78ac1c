/-! what is looked at, under the relation -/
section LK
variable {z e e1 : Nat → Int32}
theorem ev_wpt (h : EI z e) (x y : Int32) : wpt e x y = wpt z x y := by unfold wpt; rw [h.R]
theorem ev_mwN (h : EI z e) (x : Int32) : mwN e x = mwN z x := by unfold mwN; rw [h.M]
theorem kpZ_ei (hI : Inv z) : EI z (kpt z) := ⟨Eqv.of_eq hI (fun j hj => kpt_lo z hj), hI⟩
theorem EI.sym {z y : Nat → Int32} (h : EI z y) : EI y z := by
  refine ⟨⟨fun j hj => (h.1.1 j hj).symm, fun r pt hr hp => (h.1.2.1 r pt (by rw [h.R] at hr; exact hr) hp).symm, fun m pt hm hp => (h.1.2.2.1 m pt (by rw [h.M] at hm; exact hm) hp).symm, fun m i hm hs hi => ?_⟩, ev_R h⟩
  have hm2 : m < Mn z := by rw [h.M] at hm; exact hm
  rw [h.1.mS hm2] at hs
  rw [h.1.mC hm2] at hi
  exact (h.1.2.2.2 m i hm2 hs hi).symm
/-- the two looks ahead start alike -/
theorem ahead_ei (h : EI z e) (t : Nat → Int32) : EI (kpt z) (cfF t e) := (kpZ_ei h.2).sym.tr (h.tr (cf_ev t (ev_R h)))
theorem ev_ct {u v : Nat → Int32} (h : EI u v) {q : Nat} (hq : q < Mn u) : ctI v q = ctI u q := by
  have hs : ∀ k, mS (psF v k) q = mS (psF u k) q := fun k => (ev_ps h k).1.mS (by rw [(psF_si h.2 k).1.M]; exact hq)
  have hk : ctK v q = ctK u q := by unfold ctK; exact congrArg (firstN 300) (funext fun k => by rw [hs k])
  unfold ctI; rw [hk, hs]
theorem ci_ct (z : Nat → Int32) (q : Nat) : ciI z q = ctI (kpt z) q := rfl
theorem ev_ci (h : EI z e) (t : Nat → Int32) {q : Nat} (hq : q < Mn z) : ctI (cfF t e) q = ciI z q := by
  rw [ci_ct]
  exact ev_ct (ahead_ei h t) (by rw [(kpZ_ei h.2).M]; exact hq)
theorem ev_sk (h : EI z e) (t : Nat → Int32) : stI (cfF t e) e = skI z := by
  have h0 : ∀ s, msN (t0 z) s = msN z s := fun s => (Eqv.of_eq h.2 (fun j hj => t0_at z (by omega))).ms s
  have he : ∀ s, msN e s = msN z s := fun s => h.1.ms s
  have hp : msN (psF (cfF t e) 60) 0 = msN (psF (kpt z) 60) 0 := (ev_ps (ahead_ei h t) 60).1.ms 0
  unfold stI skI skB
  rw [he, he, hp, h0, h0]
  by_cases a : msN z 0 = 0
  · simp [a]
  · by_cases b : msN z 1 = 0
    · simp [a, b]
    · simp [a, b]
theorem ev_fin (h : EI z e) (t : Nat → Int32) {c : Nat} (hc : c < 48) : fnF (cfF t e) (8 + c) = finF (kpt z) (8 + c) := by
  have hA := ahead_ei h t
  rw [fn_fin (ev_R hA) (by omega) (by omega)]
  exact (ev_finF hA).1.1 (8 + c) (by omega)
/-- a run of commands under the relation -/
theorem ev_xc (h : EI z e) {b : Nat → Int32} {n : Nat} : ∀ j, (∀ i, i < j → cgo b n i = true) → EI (xc z b n j) (xc e b n j)
  | 0, _ => h
  | j + 1, hg => by
    have ih := ev_xc h j (fun i hi => hg i (by omega))
    have h2 := cgo_iff.mp (hg j (by omega))
    rw [xc_s, xc_s]
    exact ev_crF ih (cKd_8 h2.2) _ _ _ _ _
theorem ev_exN (h : EI z e) {b : Nat → Int32} {n : Nat} (hn : n ≤ 150) : exN e b n = exN z b n := by
  unfold exN
  have : ∀ j, j ≤ ccN b n → (firstN j (fun j => !decide (cmW (xc e b n j) b n (cpq b n j) = 0))) = firstN j (fun j => !decide (cmW (xc z b n j) b n (cpq b n j) = 0)) := fun j hj => by
    refine firstN_cong (fun i hi => ?_)
    have hx := ev_xc h (b := b) (n := n) i (fun k hk => ccN_all (by omega))
    unfold cmW
    rw [ev_crW hx]
  exact this _ (Nat.le_refl _)
end LK
