/-! bounds of the law's rows: three rings of at most eight cells, eight moves; moves' numbers by their states -/
def LMv (z : Nat → Int32) (m : Nat) : Prop := mC z m ≤ 8 ∧ (mS z m = 0 → mW z m = 0) ∧ (mS z m = 1 → mW z m < mC z m) ∧ (mS z m < 2 → z (80 + 10 * m + 8) = -1000) ∧ (2 ≤ mS z m → z (80 + 10 * m + 8) ≠ -1000)
def LB (z : Nat → Int32) : Prop := Rn z = 3 ∧ Mn z ≤ 8 ∧ (∀ r, r < 3 → rL z r ≤ 8) ∧ (∀ m, m < Mn z → LMv z m) ∧ ∀ m, Mn z ≤ m → m < 8 → z (80 + 10 * m + 8) = 0
section LBS
variable {z y : Nat → Int32} {m k : Nat}
theorem LB.R (h : LB z) : Rn z = 3 := h.1
theorem LB.M8 (h : LB z) : Mn z ≤ 8 := h.2.1
theorem LB.l8 (h : LB z) {r : Nat} (hr : r < 3) : rL z r ≤ 8 := h.2.2.1 r hr
theorem LB.c8 (h : LB z) (hm : m < Mn z) : mC z m ≤ 8 := (h.2.2.2.1 m hm).1
theorem LB.w0 (h : LB z) (hm : m < Mn z) (h0 : mS z m = 0) : mW z m = 0 := (h.2.2.2.1 m hm).2.1 h0
theorem LB.w1 (h : LB z) (hm : m < Mn z) (h1 : mS z m = 1) : mW z m < mC z m := (h.2.2.2.1 m hm).2.2.1 h1
theorem LB.no (h : LB z) (hm : m < Mn z) (h1 : mS z m < 2) : z (80 + 10 * m + 8) = -1000 := (h.2.2.2.1 m hm).2.2.2.1 h1
theorem LB.ye (h : LB z) (hm : m < Mn z) (h1 : 2 ≤ mS z m) : z (80 + 10 * m + 8) ≠ -1000 := (h.2.2.2.1 m hm).2.2.2.2 h1
theorem LB.nil (h : LB z) (hm : Mn z ≤ m) (h8 : m < 8) : z (80 + 10 * m + 8) = 0 := h.2.2.2.2 m hm h8
/-- one move's numbers have changed, at most -/
theorem LB.one (h : LB z) (hs : Stay z y) (hk : k < Mn z) (ho : ∀ m p, m < 8 → m ≠ k → 4 ≤ p → p < 9 → p ≠ 7 → y (80 + 10 * m + p) = z (80 + 10 * m + p)) (hn : LMv y k) : LB y := by
  have h8 := h.M8
  refine ⟨hs.R.trans h.R, by rw [hs.M]; exact h8, fun r hr => by rw [hs.rl (by omega)]; exact h.l8 hr, fun m hm => ?_, fun m hm hm8 => ?_⟩
  · rw [hs.M] at hm
    by_cases q : m = k
    · rw [q]; exact hn
    · obtain ⟨a, b, c, d, f⟩ := h.2.2.2.1 m hm
      have e4 : mC y m = mC z m := acc_eq _ (ho m 4 (by omega) q (by omega) (by omega) (by omega))
      have e5 : mS y m = mS z m := acc_eq _ (ho m 5 (by omega) q (by omega) (by omega) (by omega))
      have e6 : mW y m = mW z m := acc_eq _ (ho m 6 (by omega) q (by omega) (by omega) (by omega))
      have e8 := ho m 8 (by omega) q (by omega) (by omega) (by omega)
      unfold LMv
      rw [e4, e5, e6, e8]; exact ⟨a, b, c, d, f⟩
  · rw [hs.M] at hm
    rw [ho m 8 hm8 (by omega) (by omega) (by omega) (by omega)]; exact h.nil hm hm8
/-- no move's number has changed -/
theorem LB.alike (h : LB z) (hs : Stay z y) (ho : ∀ m p, m < 8 → 4 ≤ p → p < 9 → p ≠ 7 → y (80 + 10 * m + p) = z (80 + 10 * m + p)) : LB y := by
  have h8 := h.M8
  refine ⟨hs.R.trans h.R, by rw [hs.M]; exact h8, fun r hr => by rw [hs.rl (by omega)]; exact h.l8 hr, fun m hm => ?_, fun m hm hm8 => ?_⟩
  · rw [hs.M] at hm
    obtain ⟨a, b, c, d, f⟩ := h.2.2.2.1 m hm
    have e4 : mC y m = mC z m := acc_eq _ (ho m 4 (by omega) (by omega) (by omega) (by omega))
    have e5 : mS y m = mS z m := acc_eq _ (ho m 5 (by omega) (by omega) (by omega) (by omega))
    have e6 : mW y m = mW z m := acc_eq _ (ho m 6 (by omega) (by omega) (by omega) (by omega))
    have e8 := ho m 8 (by omega) (by omega) (by omega) (by omega)
    unfold LMv
    rw [e4, e5, e6, e8]; exact ⟨a, b, c, d, f⟩
  · rw [hs.M] at hm
    rw [ho m 8 hm8 (by omega) (by omega) (by omega)]; exact h.nil hm hm8
theorem lb_sign (hI : Inv z) (h : LB z) (hk : k < Mn z) (h2 : mS z k = 2) : LB (signF z k) := by
  have h8 := h.M8
  refine h.one (signF_stay z) hk (fun m p hm hmk h4 h9 h7 => ?_) ?_
  · rw [signF_at, if_neg (by omega), if_neg (by omega), if_neg (by omega)]
  · obtain ⟨a, b, c, d, f⟩ := h.2.2.2.1 k hk
    have e4 : mC (signF z k) k = mC z k := acc_eq _ (by rw [signF_at, if_neg (by omega), if_neg (by omega), if_neg (by omega)])
    have e5 : mS (signF z k) k = 3 := by unfold mS; rw [signF_at, if_neg (by omega), if_neg (by omega), if_pos rfl]; rfl
    have e8 : signF z k (80 + 10 * k + 8) = z (80 + 10 * k + 8) := by rw [signF_at, if_neg (by omega), if_neg (by omega), if_neg (by omega)]
    unfold LMv; rw [e4, e5, e8]
    exact ⟨a, fun q => by omega, fun q => by omega, fun q => by omega, fun _ => f (by omega)⟩
theorem lb_sg (hI : Inv z) (h : LB z) : LB (sgF z) := by
  refine (foldN_inv (P := fun y => SI z y ∧ LB y) (Rn z) ⟨SI.rf hI, h⟩ (fun r y _ hy => ?_)).2
  unfold sgT
  by_cases q : sgOn y r = true
  · rw [if_pos q]
    refine foldN_inv (P := fun x => SI z x ∧ LB x) (Mn z) hy (fun m x hm hx => ?_)
    have hx2 := sgS_si hx.1.2 r m
    refine ⟨hx.1.tr hx2, ?_⟩
    unfold sgS
    by_cases q2 : sgC x r m = true
    · rw [if_pos q2]
      refine lb_sign hx.1.2 hx.2 (by rw [hx.1.1.M]; exact hm) ?_
      unfold sgC isC at q2
      simp only [Bool.and_eq_true, decide_eq_true_eq] at q2
      exact q2.1.2
    · rw [if_neg q2]; exact hx.2
  · rw [if_neg q]; exact hy
theorem lb_start (hI : Inv z) (h : LB z) (hk : k < Mn z) (h0 : mS z k = 0) : LB (startF z k) := by
  have h8 := h.M8
  have hlo {j : Nat} (a : j < 320) (b : j ≠ 80 + 10 * k + 5) (c : j ≠ 80 + 10 * k + 7) : startF z k j = z j := by unfold startF; exact startK_lo z a b c
  refine h.one (startF_si hI k).1 hk (fun m p hm hmk h4 h9 h7 => hlo (by omega) (by omega) (by omega)) ?_
  obtain ⟨a, b, c, d, f⟩ := h.2.2.2.1 k hk
  have e4 : mC (startF z k) k = mC z k := acc_eq _ (hlo (by omega) (by omega) (by omega))
  have e6 : mW (startF z k) k = mW z k := acc_eq _ (hlo (by omega) (by omega) (by omega))
  have e5 : mS (startF z k) k = 1 := startF_mS k (by omega)
  have e8 : startF z k (80 + 10 * k + 8) = z (80 + 10 * k + 8) := hlo (by omega) (by omega) (by omega)
  have h1 := hI.c1 hk
  unfold LMv; rw [e4, e5, e6, e8]
  exact ⟨a, fun q => by omega, fun _ => by rw [b h0]; omega, fun _ => d (by omega), fun q => by omega⟩
theorem lb_stK (hI : Inv z) (h : LB z) (hk : k ≤ Mn z) : LB (stK z k) := by
  refine (foldN_inv (P := fun y => SI z y ∧ LB y) k ⟨SI.rf hI, h⟩ (fun m y hm hy => ?_)).2
  unfold stS
  by_cases q : mS y m = 0 ∧ woN y m = 0 ∧ ¬ y 2 ≤ nI (msN y 1)
  · rw [if_pos q]; exact ⟨hy.1.tr (startF_si hy.1.2 m), lb_start hy.1.2 hy.2 (by rw [hy.1.1.M]; omega) q.1⟩
  · rw [if_neg q]; exact hy
theorem nI_no {T : Nat} (h : T < 2 ^ 31) : nI T ≠ -1000 := fun e => by
  have h1 := congrArg Int32.toInt e
  rw [nI_toInt h] at h1
  have h2 : (-1000 : Int32).toInt = -1000 := by decide
  omega
theorem writesF_6 (z : Nat → Int32) (m w : Nat) : writesF z m w (80 + 10 * m + 6) = nI (mt z m w) := by unfold writesF; rw [upd_at, if_pos rfl]
theorem mt_16 (hI : Inv z) (hm : m < Mn z) (w : Nat) : mt z m w ≤ 16 := Nat.le_trans (mt_le hI hm w).2 (hI.c16 hm)
theorem lb_cyS (hI : Inv z) (h : LB z) (hk : k < Mn z) {T : Nat} (hT : z 0 = nI T) (hT9 : T < 2 ^ 31) : LB (cyS k z) := by
  have h8 := h.M8
  obtain ⟨a, b, c, d, f⟩ := h.2.2.2.1 k hk
  have hw {j : Nat} (a : j < 8 ∨ 56 ≤ j) (b : j ≠ 80 + 10 * k + 6) := writesF_out hI hk (Sp z) a b
  have h6 := writesF_6 z k (Sp z)
  have hmt := mt_le hI hk (Sp z)
  have h16 := mt_16 hI hk (Sp z)
  have e4 : mC (writesF z k (Sp z)) k = mC z k := acc_eq _ (hw (Or.inr (by omega)) (by omega))
  have e6 : mW (writesF z k (Sp z)) k = mt z k (Sp z) := by unfold mW; rw [h6, nn_nI (by omega)]
  have e5 : mS (writesF z k (Sp z)) k = mS z k := acc_eq _ (hw (Or.inr (by omega)) (by omega))
  have e8 : writesF z k (Sp z) (80 + 10 * k + 8) = z (80 + 10 * k + 8) := hw (Or.inr (by omega)) (by omega)
  have hsi := cyS_si hI hk
  unfold cyS at hsi ⊢
  by_cases q1 : mS z k = 1
  · rw [if_pos q1] at hsi ⊢
    by_cases q2 : mt z k (Sp z) = mC z k
    · rw [if_pos q2] at hsi ⊢
      refine h.one hsi.1 hk (fun m p hm hmk h4 h9 h7 => ?_) ?_
      · rw [upd_at, if_neg (by omega), upd_at, if_neg (by omega)]; exact hw (Or.inr (by omega)) (by omega)
      · have g4 : mC (upd (upd (writesF z k (Sp z)) (80 + 10 * k + 5) (nI 2)) (80 + 10 * k + 8) (z 0)) k = mC z k := (acc_eq _ (by rw [upd_at, if_neg (by omega), upd_at, if_neg (by omega)])).trans e4
        have g5 : mS (upd (upd (writesF z k (Sp z)) (80 + 10 * k + 5) (nI 2)) (80 + 10 * k + 8) (z 0)) k = 2 := by unfold mS; rw [upd_at, if_neg (by omega), upd_at, if_pos rfl]; rfl
        unfold LMv; rw [g4, g5, upd_at, if_pos rfl, hT]
        exact ⟨a, fun q => by omega, fun q => by omega, fun q => by omega, fun _ => nI_no hT9⟩
    · rw [if_neg q2] at hsi ⊢
      refine h.one hsi.1 hk (fun m p hm hmk h4 h9 h7 => hw (Or.inr (by omega)) (by omega)) ?_
      unfold LMv; rw [e4, e5, e6, e8]
      exact ⟨a, fun q => by omega, fun _ => by omega, d, f⟩
  · rw [if_neg q1]; exact h
theorem cyS_lo (hI : Inv z) (hk : k < Mn z) {j : Nat} (hj : j < 8) : cyS k z j = z j := by
  have hw := writesF_out hI hk (Sp z) (j := j) (Or.inl hj) (by omega)
  unfold cyS
  split
  · split
    · rw [upd_at, if_neg (by omega), upd_at, if_neg (by omega)]; exact hw
    · exact hw
  · rfl
theorem cyK_lo (hI : Inv z) {j : Nat} (hj : j < 8) : ∀ k, k ≤ Mn z → cyK z k j = z j
  | 0, _ => rfl
  | k + 1, h => by
    have hs := cyK_si hI k (by omega)
    show cyS k (cyK z k) j = _
    rw [cyS_lo hs.2 (by rw [hs.1.M]; omega) hj, cyK_lo hI hj k (by omega)]
theorem lb_cyK (hI : Inv z) (h : LB z) {T : Nat} (hT : z 0 = nI T) (hT9 : T < 2 ^ 31) : ∀ k, k ≤ Mn z → LB (cyK z k)
  | 0, _ => h
  | k + 1, hk => by
    have hs := cyK_si hI k (by omega)
    exact lb_cyS hs.2 (lb_cyK hI h hT hT9 k (by omega)) (show k < Mn (cyK z k) by rw [hs.1.M]; omega) ((cyK_lo hI (by omega) k (by omega)).trans hT) hT9
theorem sgF_lo (hI : Inv z) {j : Nat} (hj : j < 80) (h6 : j ≠ 6) : sgF z j = z j := by
  refine foldN_inv (P := fun y : Nat → Int32 => y j = z j) (Rn z) rfl (fun r y _ hy => ?_)
  unfold sgT
  split
  · refine foldN_inv (P := fun x : Nat → Int32 => x j = z j) (Mn z) hy (fun m x hm hx => ?_)
    unfold sgS; split
    · rw [signF_at, if_neg h6, if_neg (by omega), if_neg (by omega)]; exact hx
    · exact hx
  · exact hy
theorem stK_lo (z : Nat → Int32) {j : Nat} (hj : j < 80) (k : Nat) : stK z k j = z j := by
  refine foldN_inv (P := fun y : Nat → Int32 => y j = z j) k rfl (fun m y _ hy => ?_)
  unfold stS; split
  · unfold startF; rw [startK_lo y (by omega) (by omega) (by omega)]; exact hy
  · exact hy
theorem lb_tkA (hI : Inv z) (h : LB z) : LB (tkA z) := by
  have hs := sgF_si hI
  exact lb_stK hs.2 (lb_sg hI h) (by rw [hs.1.M]; exact Nat.le_refl _)
theorem tkA_lo (hI : Inv z) {j : Nat} (hj : j < 80) (h6 : j ≠ 6) : tkA z j = z j := (stK_lo _ hj _).trans (sgF_lo hI hj h6)
theorem tkB_0 (hI : Inv z) {j : Nat} (hj : j < 8) (h6 : j ≠ 6) : tkB z j = z j := by
  have hs := tkA_si hI
  unfold tkB
  rw [cyK_lo hs.2 hj _ (by rw [hs.1.M]; exact Nat.le_refl _)]; exact tkA_lo hI (by omega) h6
theorem tick_0 (hI : Inv z) : tickF z 0 = z 0 + nI 1 := by unfold tickF; rw [upd_at, if_pos rfl, tkB_0 hI (by omega) (by omega)]
theorem lb_tick (hI : Inv z) (h : LB z) {T : Nat} (hT : z 0 = nI T) (hT9 : T < 2 ^ 31) : LB (tickF z) := by
  have hs := tkA_si hI
  have hA := lb_tkA hI h
  have hB : LB (tkB z) := lb_cyK hs.2 hA ((tkA_lo hI (by omega) (by omega)).trans hT) hT9 (Mn z) (by rw [hs.1.M]; exact Nat.le_refl _)
  refine hB.alike ?_ (fun m p hm h4 h9 h7 => ?_)
  · unfold tickF
    refine ⟨?_, ?_, ?_, fun r pt _ _ => ?_, fun k pt _ _ => ?_⟩ <;> rw [upd_at, if_neg (by omega), upd_at, if_neg (by omega)]
  · unfold tickF; rw [upd_at, if_neg (by omega), upd_at, if_neg (by omega)]
theorem ps_LB (hI : Inv z) (h : LB z) {T : Nat} (hT : z 0 = nI T) (hT9 : T < 2 ^ 20) : ∀ k, k < 2 ^ 20 → LB (psF z k) ∧ psF z k 0 = nI (T + k)
  | 0, _ => ⟨h, hT⟩
  | k + 1, hk => by
    have ih := ps_LB hI h hT hT9 k (by omega)
    have hs := psF_si hI k
    refine ⟨lb_tick hs.2 ih.1 ih.2 (by omega), ?_⟩
    show tickF (psF z k) 0 = _
    rw [tick_0 hs.2, ih.2, nI_add, Nat.add_assoc]
end LBS
/-! the law's first pass: moves that sign by themselves, move by move -/
def lgB (y : Nat → Int32) (m : Nat) : Bool := decide (mS y m = 2) && (decide (y (56 + 4 * mT y m + 3) = 0) && (!decide (y (56 + 4 * mT y m + 2) ≤ 0) && !decide (y 0 - y (80 + 10 * m + 8) < y (56 + 4 * mT y m + 2))))
def lgS (m : Nat) (y : Nat → Int32) : Nat → Int32 := if lgB y m = true then upd y (80 + 10 * m + 5) (nI 3) else y
def lgK (z : Nat → Int32) (k : Nat) : Nat → Int32 := foldN k lgS z
section LG
variable {z y : Nat → Int32}
theorem lgK_s (z : Nat → Int32) (k : Nat) : lgK z (k + 1) = lgS k (lgK z k) := rfl
theorem lgS_o (m : Nat) (y : Nat → Int32) {j : Nat} (h : j ≠ 80 + 10 * m + 5) : lgS m y j = y j := by unfold lgS; split; exact if_neg h; rfl
theorem lgK_o (z : Nat → Int32) {j : Nat} : ∀ k, (∀ m, m < k → j ≠ 80 + 10 * m + 5) → lgK z k j = z j
  | 0, _ => rfl
  | k + 1, h => by rw [lgK_s, lgS_o k _ (h k (by omega))]; exact lgK_o z k (fun m hm => h m (by omega))
theorem lgB_k (hI : Inv z) {k m : Nat} (hk : k ≤ m) (hm : m < Mn z) : lgB (lgK z k) m = lgB z m := by
  have h24 := hI.M24
  have hmt := hI.mt hm
  have h6 := hI.R6
  have e (j : Nat) (hj : ∀ q, q < k → j ≠ 80 + 10 * q + 5) : lgK z k j = z j := lgK_o z k hj
  have e2 : mT (lgK z k) m = mT z m := acc_eq _ (e _ (fun q _ => by omega))
  have e5 : mS (lgK z k) m = mS z m := acc_eq _ (e _ (fun q _ => by omega))
  unfold lgB
  rw [e2, e5, e (56 + 4 * mT z m + 3) (fun q _ => by omega), e (56 + 4 * mT z m + 2) (fun q _ => by omega), e 0 (fun q _ => by omega), e (80 + 10 * m + 8) (fun q _ => by omega)]
theorem lgK_5 (hI : Inv z) {m : Nat} (hm : m < Mn z) : ∀ k, lgK z k (80 + 10 * m + 5) = if m < k ∧ lgB z m = true then nI 3 else z (80 + 10 * m + 5)
  | 0 => by rw [if_neg (fun q => absurd q.1 (Nat.not_lt_zero m))]; rfl
  | k + 1 => by
    rw [lgK_s]
    by_cases q : m = k
    · subst q
      unfold lgS
      rw [lgB_k hI (Nat.le_refl m) hm]
      by_cases q2 : lgB z m = true
      · rw [if_pos q2, upd_at, if_pos rfl, if_pos ⟨by omega, q2⟩]
      · rw [if_neg q2, if_neg (fun q => q2 q.2)]; exact lgK_o z m (fun q _ => by omega)
    · rw [lgS_o k _ (by omega), lgK_5 hI hm k]
      have e : (m < k + 1 ∧ lgB z m = true) ↔ (m < k ∧ lgB z m = true) := by constructor <;> (intro ⟨a, b⟩; exact ⟨by omega, b⟩)
      simp only [e]
theorem sgR_o (r : Nat) (y : Nat → Int32) {j : Nat} (h6 : j ≠ 6) : ∀ n, (∀ m, m < n → j ≠ 80 + 10 * m + 5 ∧ j ≠ 80 + 10 * m + 9) → sgR r n y j = y j
  | 0, _ => rfl
  | n + 1, h => by
    show sgS r n (sgR r n y) j = y j
    have ih := sgR_o r y h6 n (fun m hm => h m (by omega))
    unfold sgS; split
    · rw [signF_at, if_neg h6, if_neg (h n (by omega)).2, if_neg (h n (by omega)).1]; exact ih
    · exact ih
theorem sgC_o (r : Nat) (y : Nat → Int32) {n m : Nat} (hr : r < 6) (hm : n ≤ m) : sgC (sgR r n y) r m = sgC y r m := by
  have e (j : Nat) (h6 : j ≠ 6) (hj : ∀ q, q < n → j ≠ 80 + 10 * q + 5 ∧ j ≠ 80 + 10 * q + 9) : sgR r n y j = y j := sgR_o r y h6 n hj
  have e2 : mT (sgR r n y) m = mT y m := acc_eq _ (e _ (by omega) (fun q _ => by omega))
  have e5 : mS (sgR r n y) m = mS y m := acc_eq _ (e _ (by omega) (fun q _ => by omega))
  unfold sgC isC
  rw [e2, e5, e 0 (by omega) (fun q _ => by omega), e (80 + 10 * m + 8) (by omega) (fun q _ => by omega), e (56 + 4 * r + 2) (by omega) (fun q _ => by omega)]
theorem sgR_5 (r : Nat) (y : Nat → Int32) (hr : r < 6) {m : Nat} : ∀ n, sgR r n y (80 + 10 * m + 5) = if m < n ∧ sgC y r m = true then nI 3 else y (80 + 10 * m + 5)
  | 0 => by rw [if_neg (fun q => absurd q.1 (Nat.not_lt_zero m))]; rfl
  | n + 1 => by
    show sgS r n (sgR r n y) (80 + 10 * m + 5) = _
    unfold sgS
    rw [sgC_o r y hr (Nat.le_refl n)]
    by_cases q : m = n
    · subst q
      by_cases q2 : sgC y r m = true
      · rw [if_pos q2, signF_at, if_neg (by omega), if_neg (by omega), if_pos rfl, if_pos ⟨by omega, q2⟩]
      · rw [if_neg q2, if_neg (fun q => q2 q.2)]; exact sgR_o r y (by omega) m (fun q _ => by omega)
    · have e : (m < n + 1 ∧ sgC y r m = true) ↔ (m < n ∧ sgC y r m = true) := by constructor <;> (intro ⟨a, b⟩; exact ⟨by omega, b⟩)
      have ih := sgR_5 r y hr (m := m) n
      by_cases q2 : sgC y r n = true
      · rw [if_pos q2, signF_at, if_neg (by omega), if_neg (by omega), if_neg (by omega), ih]; simp only [e]
      · rw [if_neg q2, ih]; simp only [e]
/-- what the rings' passes leave, all but the states, the signing ticks and the count of signed moves -/
theorem sgK_o (hI : Inv z) {j : Nat} (h6 : j ≠ 6) (h : ∀ m, m < Mn z → j ≠ 80 + 10 * m + 5 ∧ j ≠ 80 + 10 * m + 9) (k : Nat) : sgK z k j = z j := by
  refine foldN_inv (P := fun y : Nat → Int32 => y j = z j) k rfl (fun r y _ hy => ?_)
  unfold sgT; split
  · rw [sgR_o r y h6 _ h]; exact hy
  · exact hy
theorem lgB_is (z : Nat → Int32) (m : Nat) : lgB z m = (sgOn z (mT z m) && sgC z (mT z m) m) := by
  unfold lgB sgOn sgC isC
  cases decide (mS z m = 2) <;> cases decide (z (56 + 4 * mT z m + 3) = 0) <;> cases decide (z (56 + 4 * mT z m + 2) ≤ 0) <;> simp
theorem sgK_5 (hI : Inv z) {m : Nat} (hm : m < Mn z) : ∀ k, k ≤ Rn z → sgK z k (80 + 10 * m + 5) = if mT z m < k ∧ lgB z m = true then nI 3 else z (80 + 10 * m + 5)
  | 0, _ => by rw [if_neg (fun q => absurd q.1 (Nat.not_lt_zero _))]; rfl
  | k + 1, hk => by
    have h24 := hI.M24
    have h6 := hI.R6
    have ih := sgK_5 hI hm k (by omega)
    have o {j : Nat} (h6 : j ≠ 6) (h : ∀ m, m < Mn z → j ≠ 80 + 10 * m + 5 ∧ j ≠ 80 + 10 * m + 9) := sgK_o hI h6 h k
    show sgT (Mn z) k (sgK z k) (80 + 10 * m + 5) = _
    have eon : sgOn (sgK z k) k = sgOn z k := by unfold sgOn; rw [o (by omega) (fun q _ => by omega), o (by omega) (fun q _ => by omega)]
    have e2 : mT (sgK z k) m = mT z m := acc_eq _ (o (by omega) (fun q _ => by omega))
    have e0 : sgK z k 0 = z 0 := o (by omega) (fun q _ => by omega)
    have e8 : sgK z k (80 + 10 * m + 8) = z (80 + 10 * m + 8) := o (by omega) (fun q _ => by omega)
    have er : sgK z k (56 + 4 * k + 2) = z (56 + 4 * k + 2) := o (by omega) (fun q _ => by omega)
    unfold sgT
    rw [eon]
    by_cases qk : mT z m = k
    · have eS : sgK z k (80 + 10 * m + 5) = z (80 + 10 * m + 5) := by rw [ih, if_neg (fun q => by omega)]
      have e5 : mS (sgK z k) m = mS z m := acc_eq _ eS
      have eC : sgC (sgK z k) k m = sgC z k m := by unfold sgC isC; rw [e2, e5, e0, e8, er]
      rw [lgB_is z m, qk]
      by_cases q1 : sgOn z k = true
      · rw [if_pos q1, sgR_5 k _ (by omega), eC, eS, q1, Bool.true_and]
        have e : (m < Mn z ∧ sgC z k m = true) ↔ (k < k + 1 ∧ sgC z k m = true) := ⟨fun q => ⟨by omega, q.2⟩, fun q => ⟨hm, q.2⟩⟩
        simp only [e]
      · rw [if_neg q1, eS, if_neg (fun q => q1 (by have := q.2; simp only [Bool.and_eq_true] at this; exact this.1))]
    · have eC : sgC (sgK z k) k m = false := by unfold sgC isC; rw [e2, decide_eq_false qk]; rfl
      have e : (mT z m < k + 1 ∧ lgB z m = true) ↔ (mT z m < k ∧ lgB z m = true) := by constructor <;> (intro ⟨a, b⟩; exact ⟨by omega, b⟩)
      simp only [e]
      by_cases q1 : sgOn z k = true
      · rw [if_pos q1, sgR_5 k _ (by omega), eC, if_neg (fun q => absurd q.2 (by decide)), ih]
      · rw [if_neg q1, ih]
/-- the law's first pass and the class's show the same -/
theorem lg_tr (hI : Inv z) : Tr (lgK z (Mn z)) (sgF z) := by
  have h24 := hI.M24
  have o {j : Nat} (h6 : j ≠ 6) (h : ∀ m, j ≠ 80 + 10 * m + 5 ∧ j ≠ 80 + 10 * m + 9) : sgF z j = lgK z (Mn z) j := (sgK_o hI h6 (fun m _ => h m) _).trans (lgK_o z _ (fun m _ => (h m).1)).symm
  refine ⟨⟨o (by omega) (fun q => by omega), o (by omega) (fun q => by omega), o (by omega) (fun q => by omega), o (by omega) (fun q => by omega)⟩, fun j hj => o (by omega) (fun q => by omega), fun m p hm hp h7 => ?_, fun m i hm hi => ?_⟩
  · by_cases q : p = 5
    · subst q
      by_cases hM : m < Mn z
      · have ht := hI.mt hM
        show sgK z (Rn z) _ = _
        rw [sgK_5 hI hM _ (Nat.le_refl _), lgK_5 hI hM]
        have e : (mT z m < Rn z ∧ lgB z m = true) ↔ (m < Mn z ∧ lgB z m = true) := ⟨fun q => ⟨hM, q.2⟩, fun q => ⟨ht, q.2⟩⟩
        simp only [e]
      · rw [lgK_o z _ (fun q hq => by omega)]; exact sgK_o hI (by omega) (fun q hq => by omega) _
    · exact o (by omega) (fun q => by omega)
  · by_cases q : 320 + 16 * m + i < 80 + 10 * Mn z
    · omega
    · rw [lgK_o z _ (fun q hq => by omega)]; exact sgK_o hI (by omega) (fun q hq => by omega) _
end LG
