/-! alike rows stay alike -/
theorem foldN_relI {α β : Type} {P : α → β → Prop} {g : Nat → α → α} {g' : Nat → β → β} {a : α} {b : β} : ∀ (n : Nat), P a b → (∀ k x y, k < n → P x y → P (g k x) (g' k y)) → P (foldN n g a) (foldN n g' b)
  | 0, h, _ => h
  | n + 1, h, hs => hs n _ _ (Nat.lt_succ_self n) (foldN_relI n h (fun k x y hk => hs k x y (Nat.lt_succ_of_lt hk)))
theorem ev_mk2 {z y z' y' : Nat → Int32} (h : Eqv z y) (hI : Inv z) (sz : Stay z z') (sy : Stay y y')
    (ha : ∀ j, j < 56 → j ≠ 1 → j ≠ 3 → j ≠ 4 → y' j = z' j)
    (hb : ∀ m pt, m < Mn z → 5 ≤ pt → pt < 10 → y' (80 + 10 * m + pt) = z' (80 + 10 * m + pt))
    (hd : ∀ m i, m < Mn z → mS z' m = 1 → i < mC z m → y' (320 + 16 * m + i) = z' (320 + 16 * m + i)) : Eqv z' y' := by
  have h6 := hI.R6; have h24 := hI.M24
  refine ⟨fun j hj => ?_, fun r pt hr hp => ?_, fun m pt hm hp => ?_, fun m i hm hs hi => ?_⟩
  · by_cases e1 : j = 1
    · subst e1; rw [sz.1, sy.1]; exact h.1 1 (by omega)
    · by_cases e3 : j = 3
      · subst e3; rw [sz.2.1, sy.2.1]; exact h.1 3 (by omega)
      · by_cases e4 : j = 4
        · subst e4; rw [sz.2.2.1, sy.2.2.1]; exact h.1 4 (by omega)
        · exact ha j hj e1 e3 e4
  · rw [sz.R] at hr
    rw [sz.2.2.2.1 r pt (by omega) hp, sy.2.2.2.1 r pt (by omega) hp]; exact h.2.1 r pt hr hp
  · rw [sz.M] at hm
    rcases Nat.lt_or_ge pt 5 with q | q
    · rw [sz.2.2.2.2 m pt (by omega) q, sy.2.2.2.2 m pt (by omega) q]; exact h.2.2.1 m pt hm hp
    · exact hb m pt hm q hp
  · rw [sz.M] at hm
    rw [sz.c (by omega)] at hi
    exact hd m i hm hs hi
theorem ev_sign {z y : Nat → Int32} (h : Eqv z y) (hI : Inv z) {k : Nat} (hk24 : k < 24) : Eqv (signF z k) (signF y k) := by
  have h24 := hI.M24
  refine ev_mk2 h hI (signF_stay z) (signF_stay y) (fun j hj _ _ _ => ?_) (fun m pt hm h5 hp => ?_) (fun m i hm hs hi => ?_)
  · rw [signF_at, signF_at]
    rw [h.1 6 (by omega), if_neg (show ¬ j = 80 + 10 * k + 9 by omega), if_neg (show ¬ j = 80 + 10 * k + 5 by omega), if_neg (show ¬ j = 80 + 10 * k + 9 by omega), if_neg (show ¬ j = 80 + 10 * k + 5 by omega), h.1 j hj]
  · rw [signF_at, signF_at, h.1 0 (by omega), h.1 6 (by omega), h.2.2.1 m pt hm hp]
  · have hc := hI.c16 hm
    have hk : mS z m = 1 := by
      have e : mS (signF z k) m = nn (signF z k (80 + 10 * m + 5)) := rfl
      rw [e, signF_at, if_neg (by omega), if_neg (by omega)] at hs
      by_cases q : m = k
      · subst q; rw [if_pos rfl] at hs; exact absurd hs (by decide)
      · rw [if_neg (by omega)] at hs; exact hs
    rw [signF_at, signF_at, if_neg (by omega), if_neg (by omega), if_neg (by omega), if_neg (by omega), if_neg (by omega), if_neg (by omega)]
    exact h.2.2.2 m i hm hk hi
theorem ev_start {z y : Nat → Int32} (h : Eqv z y) (hI : Inv z) {k : Nat} (hk : k < Mn z) : Eqv (startF z k) (startF y k) := by
  have h24 := hI.M24
  have hck := hI.c16 hk
  refine ev_mk2 h hI (startK_stay z _) (startK_stay y _) (fun j hj _ _ _ => ?_) (fun m pt hm h5 hp => ?_) (fun m i hm hs hi => ?_)
  · rw [startF, startF, startK_lo z (by omega) (by omega) (by omega), startK_lo y (by omega) (by omega) (by omega), h.1 j hj]
  · unfold startF startK
    rw [if_neg (show ¬ (320 + 16 * k ≤ 80 + 10 * m + pt ∧ 80 + 10 * m + pt < 320 + 16 * k + mC y k) by omega), if_neg (show ¬ (320 + 16 * k ≤ 80 + 10 * m + pt ∧ 80 + 10 * m + pt < 320 + 16 * k + mC z k) by omega), h.1 0 (by omega), h.2.2.1 m pt hm hp]
  · have hc := hI.c16 hm
    have hcy := h.mC hk
    by_cases q : m = k
    · subst q
      unfold startF startK
      rw [if_pos (by omega), if_pos (by omega), show 320 + 16 * m + i - (320 + 16 * m) = i by omega, h.src hI hm]
      exact h.1 _ (by have := hI.src48 hm i; omega)
    · have hk1 : mS z m = 1 := by
        have e : mS (startF z k) m = nn (startF z k (80 + 10 * m + 5)) := rfl
        rw [e, startF, startK_lo z (by omega) (by omega) (by omega)] at hs
        exact hs
      unfold startF startK
      rw [if_neg (by omega), if_neg (by omega), if_neg (by omega), if_neg (by omega), if_neg (by omega), if_neg (by omega)]
      exact h.2.2.2 m i hm hk1 hi
theorem ev_mtv {z y : Nat → Int32} (h : Eqv z y) {k : Nat} (hk : k < Mn z) (w : Nat) : mt y k w = mt z k w := by
  unfold mt
  rw [h.mW hk, h.mC hk]
theorem ev_wrk {z y : Nat → Int32} (h : Eqv z y) (hI : Inv z) {k : Nat} (hk : k < Mn z) (h1 : mS z k = 1) (t : Nat) {j : Nat} (hj : j < 56) : ∀ n, t + n ≤ mC z k → wrK y k t n j = wrK z k t n j
  | 0, _ => h.1 j hj
  | n + 1, hn => by
    show upd (wrK y k t n) (8 + tgtC y k (t + n)) (y (320 + 16 * k + (t + n))) j = upd (wrK z k t n) (8 + tgtC z k (t + n)) (z (320 + 16 * k + (t + n))) j
    rw [upd_at, upd_at, h.tgt hI hk, h.2.2.2 k (t + n) hk h1 (by omega), ev_wrk h hI hk h1 t hj n (by omega)]
theorem ev_writes {z y : Nat → Int32} (h : Eqv z y) (hI : Inv z) {k : Nat} (hk : k < Mn z) (h1 : mS z k = 1) (w : Nat) : Eqv (writesF z k w) (writesF y k w) := by
  have h24 := hI.M24
  have hJ := h.inv hI
  have hky : k < Mn y := by rw [h.M]; exact hk
  refine ev_mk2 h hI (writesF_stay hI hk w) (writesF_stay hJ hky w) (fun j hj _ _ _ => ?_) (fun m pt hm h5 hp => ?_) (fun m i hm hs hi => ?_)
  · unfold writesF
    rw [upd_at, upd_at, if_neg (by omega), if_neg (by omega), ev_mtv h hk, h.mW hk]
    exact ev_wrk h hI hk h1 _ hj _ (by have := mt_le hI hk w; omega)
  · by_cases e : 80 + 10 * m + pt = 80 + 10 * k + 6
    · unfold writesF
      rw [upd_at, upd_at, if_pos e, if_pos e, ev_mtv h hk]
    · rw [writesF_out hI hk w (by omega) e, writesF_out hJ hky w (by omega) e]
      exact h.2.2.1 m pt hm hp
  · have hc := hI.c16 hm
    rw [writesF_out hI hk w (by omega) (by omega), writesF_out hJ hky w (by omega) (by omega)]
    refine h.2.2.2 m i hm ?_ hi
    have e : mS (writesF z k w) m = mS z m := acc_eq _ (writesF_out hI hk w (by omega) (by omega))
    rw [← e]; exact hs
/-- a write of one number that nothing counts by -/
theorem ev_lowU {z y : Nat → Int32} (h : Eqv z y) (i : Nat) (v w : Int32) (hi : i < 56) (h3 : i ≠ 3) (h4 : i ≠ 4) (hv : w = v) : Eqv (upd z i v) (upd y i w) := by
  subst hv
  have eR : Rn (upd z i w) = Rn z := acc_eq 3 (by rw [upd_at, if_neg (by omega)])
  have eM : Mn (upd z i w) = Mn z := acc_eq 4 (by rw [upd_at, if_neg (by omega)])
  refine ⟨fun j hj => ?_, fun r pt hr hp => ?_, fun m pt hm hp => ?_, fun m q hm hs hq => ?_⟩
  · rw [upd_at, upd_at, h.1 j hj]
  · rw [eR] at hr
    rw [upd_at, upd_at, if_neg (by omega), if_neg (by omega)]; exact h.2.1 r pt hr hp
  · rw [eM] at hm
    rw [upd_at, upd_at, if_neg (by omega), if_neg (by omega)]; exact h.2.2.1 m pt hm hp
  · rw [eM] at hm
    have e5 : mS (upd z i w) m = mS z m := acc_eq _ (by rw [upd_at, if_neg (by omega)])
    have e4 : mC (upd z i w) m = mC z m := acc_eq _ (by rw [upd_at, if_neg (by omega)])
    rw [e5] at hs; rw [e4] at hq
    rw [upd_at, upd_at, if_neg (by omega), if_neg (by omega)]; exact h.2.2.2 m q hm hs hq
theorem ev_R {z y : Nat → Int32} (h : Eqv z y ∧ Inv z) : Inv y := h.1.inv h.2
/-- both go one step on -/
def EI (z y : Nat → Int32) : Prop := Eqv z y ∧ Inv z
theorem EI.M {z y : Nat → Int32} (h : EI z y) : Mn y = Mn z := Eqv.M h.1
theorem EI.R {z y : Nat → Int32} (h : EI z y) : Rn y = Rn z := Eqv.R h.1
theorem ev_sgS {z y : Nat → Int32} (h : EI z y) {r m : Nat} (hr : r < Rn z) (hm : m < Mn z) : EI (sgS r m z) (sgS r m y) := by
  have h24 := h.2.M24
  have e : sgC y r m = sgC z r m := by
    unfold sgC isC
    rw [h.1.mT hm, h.1.mS hm, h.1.1 0 (by omega), h.1.2.2.1 m 8 hm (by omega), h.1.2.1 r 2 hr (by omega)]
  refine ⟨?_, (sgS_si h.2 r m).2⟩
  unfold sgS; rw [e]; split
  · exact ev_sign h.1 h.2 (by omega)
  · exact h.1
theorem ev_sgR {z y : Nat → Int32} (h : EI z y) {r k n : Nat} (hr : r < Rn z) (hk : k ≤ Mn z) : EI (sgR r k z) (sgR r k y) := by
  refine (foldN_relI (P := fun a b => EI a b ∧ SI z a) k ⟨h, SI.rf h.2⟩ (fun m a b hm q => ?_)).1
  exact ⟨ev_sgS q.1 (by rw [q.2.1.R]; exact hr) (by rw [q.2.1.M]; omega), q.2.tr (sgS_si q.2.2 r m)⟩
theorem ev_sgF {z y : Nat → Int32} (h : EI z y) : EI (sgF z) (sgF y) := by
  unfold sgF sgK; rw [h.R, h.M]
  refine (foldN_relI (P := fun a b => EI a b ∧ SI z a) (Rn z) ⟨h, SI.rf h.2⟩ (fun r a b hr q => ?_)).1
  have e : sgOn b r = sgOn a r := by
    unfold sgOn
    rw [q.1.1.2.1 r 2 (by rw [q.2.1.R]; exact hr) (by omega), q.1.1.2.1 r 3 (by rw [q.2.1.R]; exact hr) (by omega)]
  unfold sgT; rw [e]; split
  · exact ⟨ev_sgR (n := 0) q.1 (by rw [q.2.1.R]; exact hr) (by rw [q.2.1.M]; exact Nat.le_refl _), q.2.tr (sgR_si q.2.2 r _)⟩
  · exact q
theorem ev_stF {z y : Nat → Int32} (h : EI z y) : EI (stK z (Mn z)) (stK y (Mn y)) := by
  unfold stK; rw [h.M]
  refine (foldN_relI (P := fun a b => EI a b ∧ SI z a) (Mn z) ⟨h, SI.rf h.2⟩ (fun m a b hm q => ?_)).1
  have hma : m < Mn a := by rw [q.2.1.M]; exact hm
  unfold stS; rw [q.1.1.mS hma, q.1.1.wo q.1.2 hma, q.1.1.1 2 (by omega), q.1.1.ms]
  split
  · exact ⟨⟨ev_start q.1.1 q.1.2 hma, (startF_si q.1.2 m).2⟩, q.2.tr (startF_si q.2.2 m)⟩
  · exact q
theorem ev_phase {z y : Nat → Int32} (h : Eqv z y) (hI : Inv z) {m : Nat} (hm : m < Mn z) (hs : mS z m = 1) (v : Int32) : Eqv (upd (upd z (80 + 10 * m + 5) (nI 2)) (80 + 10 * m + 8) v) (upd (upd y (80 + 10 * m + 5) (nI 2)) (80 + 10 * m + 8) v) := by
  have h24 := hI.M24
  have s (x : Nat → Int32) : Stay x (upd (upd x (80 + 10 * m + 5) (nI 2)) (80 + 10 * m + 8) v) := by
    refine ⟨?_, ?_, ?_, fun r pt _ _ => ?_, fun k pt _ _ => ?_⟩ <;> rw [upd_at, if_neg (by omega), upd_at, if_neg (by omega)]
  refine ev_mk2 h hI (s z) (s y) (fun j hj _ _ _ => ?_) (fun k pt hk h5 hp => ?_) (fun k i hk hs1 hi => ?_)
  · simp only [upd_at]; rw [h.1 j hj]
  · simp only [upd_at]; rw [h.2.2.1 k pt hk hp]
  · have hc := hI.c16 hk
    have hk1 : mS z k = 1 := by
      by_cases q : k = m
      · rw [q]; exact hs
      · rw [← hs1]; exact (acc_eq (z' := upd (upd z (80 + 10 * m + 5) (nI 2)) (80 + 10 * m + 8) v) (80 + 10 * k + 5) (by rw [upd_at, if_neg (by omega), upd_at, if_neg (by omega)])).symm
    rw [upd_at, if_neg (by omega), upd_at, if_neg (by omega), upd_at, if_neg (by omega), upd_at, if_neg (by omega)]
    exact h.2.2.2 k i hk hk1 hi
theorem ev_cyS {z y : Nat → Int32} (h : EI z y) {m : Nat} (hm : m < Mn z) : EI (cyS m z) (cyS m y) := by
  refine ⟨?_, (cyS_si h.2 hm).2⟩
  unfold cyS; rw [h.1.mS hm, h.1.S, ev_mtv h.1 hm, h.1.mC hm, h.1.1 0 (by omega)]
  split
  · rename_i h1
    have hw := ev_writes h.1 h.2 hm h1 (Sp z)
    split
    · have hM2 : m < Mn (writesF z m (Sp z)) := by rw [(writesF_stay h.2 hm _).M]; exact hm
      refine ev_phase hw (writesF_inv h.2 hm _) hM2 ?_ _
      have h24 := h.2.M24
      rw [← h1]; exact acc_eq _ (writesF_out h.2 hm _ (by omega) (by omega))
    · exact hw
  · exact h.1
theorem ev_cyK {z y : Nat → Int32} (h : EI z y) : ∀ k, k ≤ Mn z → EI (cyK z k) (cyK y k)
  | 0, _ => h
  | k + 1, hk => ev_cyS (ev_cyK h k (by omega)) (by rw [(cyK_si h.2 k (by omega)).1.M]; omega)
theorem ev_cyN {z y : Nat → Int32} (h : EI z y) (k : Nat) (hk : k ≤ Mn z) : cyN y k = cyN z k := by
  unfold cyN
  refine foldN_cong _ (fun q n hq => ?_)
  have hk' := ev_cyK h q (by omega)
  have hm : q < Mn (cyK z q) := by rw [(cyK_si h.2 q (by omega)).1.M]; omega
  unfold cyD; rw [hk'.1.mS hm, hk'.1.S, ev_mtv hk'.1 hm, hk'.1.mC hm]
theorem ev_tkA {z y : Nat → Int32} (h : EI z y) : EI (tkA z) (tkA y) := by
  have h1 := ev_sgF h
  have h2 := ev_stF h1
  unfold tkA
  rw [h.M, ← (sgF_si h.2).1.M]
  rw [h1.M] at h2; exact h2
theorem ev_tkB {z y : Nat → Int32} (h : EI z y) : EI (tkB z) (tkB y) := by
  have h1 := ev_tkA h
  unfold tkB; rw [h.M]; exact ev_cyK h1 _ (by rw [(tkA_si h.2).1.M]; exact Nat.le_refl _)
theorem ev_tickN {z y : Nat → Int32} (h : EI z y) : tickN y = tickN z := by
  unfold tickN; rw [h.M]; exact ev_cyN (ev_tkA h) _ (by rw [(tkA_si h.2).1.M]; exact Nat.le_refl _)
theorem ev_tick {z y : Nat → Int32} (h : EI z y) : EI (tickF z) (tickF y) := by
  refine ⟨?_, (tickF_si h.2).2⟩
  have hb := ev_tkB h
  unfold tickF; rw [ev_tickN h]
  exact ev_lowU (ev_lowU hb.1 5 _ _ (by omega) (by omega) (by omega) (by rw [hb.1.1 5 (by omega)])) 0 _ _ (by omega) (by omega) (by omega) (by rw [hb.1.1 0 (by omega)])
theorem ev_ps {z y : Nat → Int32} (h : EI z y) (k : Nat) : EI (psF z k) (psF y k) := foldN_relI (P := EI) k h (fun _ _ _ _ q => ev_tick q)
theorem ev_psN {z y : Nat → Int32} (h : EI z y) (k : Nat) : psN y k = psN z k := foldN_cong _ (fun i n _ => by rw [ev_tickN (ev_ps h i)])
