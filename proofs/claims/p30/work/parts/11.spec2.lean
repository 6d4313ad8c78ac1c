/-! what the methods do to the row of numbers -/
theorem acc_eq {z z' : Nat → Int32} (j : Nat) (h : z' j = z j) : nn (z' j) = nn (z j) := by rw [h]
theorem Inv_mk {z z' : Nat → Int32} (h : Inv z) (h1 : z' 1 = z 1) (h3 : z' 3 = z 3) (h4 : z' 4 = z 4) (hr : ∀ r pt, r < 6 → pt < 4 → pt ≠ 2 → z' (56 + 4 * r + pt) = z (56 + 4 * r + pt)) (hm : ∀ m pt, m < 24 → pt < 5 → z' (80 + 10 * m + pt) = z (80 + 10 * m + pt))
    (h5 : ∀ m, m < Mn z → ∃ k, z' (80 + 10 * m + 5) = nI k ∧ k ≤ 3) (h6 : ∀ m, m < Mn z → ∃ k, z' (80 + 10 * m + 6) = nI k ∧ k ≤ mC z m) : Inv z' := by
  have eR : Rn z' = Rn z := acc_eq 3 h3
  have eM : Mn z' = Mn z := acc_eq 4 h4
  have eS : Sp z' = Sp z := acc_eq 1 h1
  refine ⟨⟨by rw [h3, eR]; exact h.z3, by rw [eR]; exact h.R6⟩, ⟨by rw [h4, eM]; exact h.z4, by rw [eM]; exact h.M24⟩, ⟨by rw [h1, eS]; exact h.z1, by rw [eS]; exact h.S1, by rw [eS]; exact h.S8⟩, fun r hr' => ?_, fun m hm' => ?_⟩
  · rw [eR] at hr'
    have h6' := h.R6
    have a0 := hr r 0 (by omega) (by omega) (by omega)
    have a1 := hr r 1 (by omega) (by omega) (by omega)
    have a3 := hr r 3 (by omega) (by omega) (by omega)
    have e0 : rF z' r = rF z r := acc_eq _ a0
    have e1 : rL z' r = rL z r := acc_eq _ a1
    refine ⟨?_, ?_, ?_, ?_, ?_, ?_⟩
    · rw [a0, e0]; exact h.r0 hr'
    · rw [a1, e1]; exact h.r1 hr'
    · rw [e1]; exact h.l2 hr'
    · rw [e1]; exact h.l16 hr'
    · rw [e0, e1]; exact h.l48 hr'
    · rw [a3]; exact h.r3 hr'
  · rw [eM] at hm'
    have h24 := h.M24
    have a (pt : Nat) (hp : pt < 5) := hm m pt (by omega) hp
    have e0 : mF z' m = mF z m := acc_eq _ (a 0 (by omega))
    have e1 : mA z' m = mA z m := acc_eq _ (a 1 (by omega))
    have e2 : mT z' m = mT z m := acc_eq _ (a 2 (by omega))
    have e3 : mB z' m = mB z m := acc_eq _ (a 3 (by omega))
    have e4 : mC z' m = mC z m := acc_eq _ (a 4 (by omega))
    obtain ⟨k5, q5, g5⟩ := h5 m hm'
    obtain ⟨k6, q6, g6⟩ := h6 m hm'
    have hc16 := h.c16 hm'
    have e5 : mS z' m = k5 := by show nn (z' (80 + 10 * m + 5)) = k5; rw [q5]; exact nn_nI (by omega)
    have e6 : mW z' m = k6 := by show nn (z' (80 + 10 * m + 6)) = k6; rw [q6]; exact nn_nI (by omega)
    refine ⟨⟨?_, ?_⟩, ⟨?_, ?_⟩, ⟨?_, ?_⟩, ⟨?_, ?_⟩, ⟨?_, ?_, ?_⟩, ⟨?_, ?_⟩, ?_, ?_⟩
    · rw [a 0 (by omega), e0]; exact h.m0 hm'
    · rw [e0, eR]; exact h.mf hm'
    · rw [a 1 (by omega), e1]; exact h.m1 hm'
    · rw [e1]; exact h.ma hm'
    · rw [a 2 (by omega), e2]; exact h.m2 hm'
    · rw [e2, eR]; exact h.mt hm'
    · rw [a 3 (by omega), e3]; exact h.m3 hm'
    · rw [e3]; exact h.mb hm'
    · rw [a 4 (by omega), e4]; exact h.m4 hm'
    · rw [e4]; exact h.c1 hm'
    · rw [e4]; exact h.c16 hm'
    · rw [q5, e5]
    · rw [e5]; exact g5
    · rw [q6, e6]
    · rw [e6, e4]; exact g6
/-- what stays: the counts, the speed, rings, and of moves all but their state and what they have written -/
def Stay (z z' : Nat → Int32) : Prop := z' 1 = z 1 ∧ z' 3 = z 3 ∧ z' 4 = z 4 ∧ (∀ r pt, r < 6 → pt < 4 → z' (56 + 4 * r + pt) = z (56 + 4 * r + pt)) ∧ ∀ m pt, m < 24 → pt < 5 → z' (80 + 10 * m + pt) = z (80 + 10 * m + pt)
section STAY
variable {z z' z2 : Nat → Int32}
theorem Stay.rf : Stay z z := ⟨rfl, rfl, rfl, fun _ _ _ _ => rfl, fun _ _ _ _ => rfl⟩
theorem Stay.tr (h : Stay z z') (h2 : Stay z' z2) : Stay z z2 := ⟨h2.1.trans h.1, h2.2.1.trans h.2.1, h2.2.2.1.trans h.2.2.1, fun r pt a b => (h2.2.2.2.1 r pt a b).trans (h.2.2.2.1 r pt a b), fun m pt a b => (h2.2.2.2.2 m pt a b).trans (h.2.2.2.2 m pt a b)⟩
theorem Stay.R (h : Stay z z') : Rn z' = Rn z := acc_eq 3 h.2.1
theorem Stay.M (h : Stay z z') : Mn z' = Mn z := acc_eq 4 h.2.2.1
theorem Stay.S (h : Stay z z') : Sp z' = Sp z := acc_eq 1 h.1
theorem Stay.f (h : Stay z z') {m : Nat} (hm : m < 24) : mF z' m = mF z m := acc_eq _ (h.2.2.2.2 m 0 hm (by omega))
theorem Stay.a (h : Stay z z') {m : Nat} (hm : m < 24) : mA z' m = mA z m := acc_eq _ (h.2.2.2.2 m 1 hm (by omega))
theorem Stay.t (h : Stay z z') {m : Nat} (hm : m < 24) : mT z' m = mT z m := acc_eq _ (h.2.2.2.2 m 2 hm (by omega))
theorem Stay.b (h : Stay z z') {m : Nat} (hm : m < 24) : mB z' m = mB z m := acc_eq _ (h.2.2.2.2 m 3 hm (by omega))
theorem Stay.c (h : Stay z z') {m : Nat} (hm : m < 24) : mC z' m = mC z m := acc_eq _ (h.2.2.2.2 m 4 hm (by omega))
theorem Stay.rf0 (h : Stay z z') {r : Nat} (hr : r < 6) : rF z' r = rF z r := acc_eq _ (h.2.2.2.1 r 0 hr (by omega))
theorem Stay.rl (h : Stay z z') {r : Nat} (hr : r < 6) : rL z' r = rL z r := acc_eq _ (h.2.2.2.1 r 1 hr (by omega))
theorem Stay.src (h : Stay z z') (hI : Inv z) {m : Nat} (hm : m < Mn z) (i : Nat) : srcC z' m i = srcC z m i := by
  have h24 := hI.M24; have h6 := hI.R6; have hf := hI.mf hm
  unfold srcC; rw [h.f (by omega), h.a (by omega), h.rf0 (by omega), h.rl (by omega)]
theorem Stay.tgt (h : Stay z z') (hI : Inv z) {m : Nat} (hm : m < Mn z) (i : Nat) : tgtC z' m i = tgtC z m i := by
  have h24 := hI.M24; have h6 := hI.R6; have hf := hI.mt hm
  unfold tgtC; rw [h.t (by omega), h.b (by omega), h.rf0 (by omega), h.rl (by omega)]
theorem Stay.inv (h : Stay z z') (hI : Inv z) (h5 : ∀ m, m < Mn z → ∃ k, z' (80 + 10 * m + 5) = nI k ∧ k ≤ 3) (h6 : ∀ m, m < Mn z → ∃ k, z' (80 + 10 * m + 6) = nI k ∧ k ≤ mC z m) : Inv z' :=
  Inv_mk hI h.1 h.2.1 h.2.2.1 (fun r pt a b _ => h.2.2.2.1 r pt a b) h.2.2.2.2 h5 h6
/-- the moves' states and what they have written stay too -/
theorem Stay.inv0 (h : Stay z z') (hI : Inv z) (h5 : ∀ m, m < Mn z → z' (80 + 10 * m + 5) = z (80 + 10 * m + 5)) (h6 : ∀ m, m < Mn z → z' (80 + 10 * m + 6) = z (80 + 10 * m + 6)) : Inv z' :=
  h.inv hI (fun m hm => ⟨mS z m, by rw [h5 m hm]; exact hI.m5 hm, hI.s3 hm⟩) (fun m hm => ⟨mW z m, by rw [h6 m hm]; exact hI.m6 hm, hI.wc hm⟩)
end STAY
/-! signing -/
theorem signF_at (z : Nat → Int32) (m j : Nat) : signF z m j = if j = 6 then z 6 + nI 1 else if j = 80 + 10 * m + 9 then z 0 else if j = 80 + 10 * m + 5 then nI 3 else z j := rfl
theorem signF_stay (z : Nat → Int32) {m : Nat} : Stay z (signF z m) := by
  refine ⟨?_, ?_, ?_, fun r pt _ _ => ?_, fun k pt _ _ => ?_⟩ <;> (rw [signF_at]; repeat rw [if_neg (by omega)])
theorem signF_inv {z : Nat → Int32} (hI : Inv z) (m : Nat) : Inv (signF z m) := by
  have h24 := hI.M24
  refine (signF_stay z).inv hI (fun k hk => ?_) (fun k hk => ?_)
  · by_cases e : k = m
    · exact ⟨3, by subst e; rw [signF_at, if_neg (by omega), if_neg (by omega), if_pos rfl], by omega⟩
    · exact ⟨mS z k, by rw [signF_at, if_neg (by omega), if_neg (by omega), if_neg (by omega)]; exact hI.m5 hk, hI.s3 hk⟩
  · exact ⟨mW z k, by rw [signF_at, if_neg (by omega), if_neg (by omega), if_neg (by omega)]; exact hI.m6 hk, hI.wc hk⟩
def sgC (y : Nat → Int32) (r m : Nat) : Bool := isC y r m && !decide (y 0 - y (80 + 10 * m + 8) < y (56 + 4 * r + 2))
def sgOn (y : Nat → Int32) (r : Nat) : Bool := decide (y (56 + 4 * r + 3) = 0) && !decide (y (56 + 4 * r + 2) ≤ 0)
def sgS (r m : Nat) (y : Nat → Int32) : Nat → Int32 := if sgC y r m = true then signF y m else y
def sgR (r k : Nat) (y : Nat → Int32) : Nat → Int32 := foldN k (sgS r) y
def sgT (n r : Nat) (y : Nat → Int32) : Nat → Int32 := if sgOn y r = true then sgR r n y else y
def sgK (z : Nat → Int32) (k : Nat) : Nat → Int32 := foldN k (sgT (Mn z)) z
def sgF (z : Nat → Int32) : Nat → Int32 := sgK z (Rn z)
def SI (z y : Nat → Int32) : Prop := Stay z y ∧ Inv y
theorem SI.rf {z : Nat → Int32} (h : Inv z) : SI z z := ⟨Stay.rf, h⟩
theorem SI.tr {z y x : Nat → Int32} (h : SI z y) (h2 : SI y x) : SI z x := ⟨h.1.tr h2.1, h2.2⟩
theorem sgS_si {z : Nat → Int32} (hI : Inv z) (r m : Nat) : SI z (sgS r m z) := by
  unfold sgS; split
  · exact ⟨signF_stay z, signF_inv hI m⟩
  · exact SI.rf hI
theorem sgR_si {z : Nat → Int32} (hI : Inv z) (r k : Nat) : SI z (sgR r k z) := foldN_inv (P := fun y => SI z y) k (SI.rf hI) (fun m y _ h => h.tr (sgS_si h.2 r m))
theorem sgK_si {z : Nat → Int32} (hI : Inv z) (k : Nat) : SI z (sgK z k) := foldN_inv (P := fun y => SI z y) k (SI.rf hI) (fun r y _ h => by
  unfold sgT; split
  · exact h.tr (sgR_si h.2 r _)
  · exact h)
theorem sgF_si {z : Nat → Int32} (hI : Inv z) : SI z (sgF z) := sgK_si hI _
/-! starting -/
def startK (z : Nat → Int32) (m k : Nat) : Nat → Int32 := fun j => if 320 + 16 * m ≤ j ∧ j < 320 + 16 * m + k then z (8 + srcC z m (j - (320 + 16 * m))) else if j = 80 + 10 * m + 7 then z 0 else if j = 80 + 10 * m + 5 then nI 1 else z j
def startF (z : Nat → Int32) (m : Nat) : Nat → Int32 := startK z m (mC z m)
theorem startK_0 (z : Nat → Int32) (m : Nat) : upd (upd z (80 + 10 * m + 5) (nI 1)) (80 + 10 * m + 7) (z 0) = startK z m 0 := by
  funext j; unfold startK; rw [if_neg (by omega)]; rfl
theorem startK_s (z : Nat → Int32) {m : Nat} (hm : m < 24) (k : Nat) : upd (startK z m k) (320 + 16 * m + k) (z (8 + srcC z m k)) = startK z m (k + 1) := by
  funext j
  rw [upd_at]
  by_cases e : j = 320 + 16 * m + k
  · rw [if_pos e]; unfold startK; rw [if_pos (by omega), show j - (320 + 16 * m) = k by omega]
  · rw [if_neg e]; unfold startK
    by_cases e2 : 320 + 16 * m ≤ j ∧ j < 320 + 16 * m + k
    · rw [if_pos e2, if_pos (by omega)]
    · rw [if_neg e2, if_neg (show ¬ (320 + 16 * m ≤ j ∧ j < 320 + 16 * m + (k + 1)) by omega)]
theorem startK_lo (z : Nat → Int32) {m k j : Nat} (h : j < 320) (h5 : j ≠ 80 + 10 * m + 5) (h7 : j ≠ 80 + 10 * m + 7) : startK z m k j = z j := by
  unfold startK; rw [if_neg (by omega), if_neg h7, if_neg h5]
theorem startK_stay (z : Nat → Int32) {m : Nat} (k : Nat) : Stay z (startK z m k) := by
  refine ⟨?_, ?_, ?_, fun r pt _ _ => ?_, fun k pt _ _ => ?_⟩ <;> exact startK_lo z (by omega) (by omega) (by omega)
theorem startK_inv {z : Nat → Int32} (hI : Inv z) (m k : Nat) : Inv (startK z m k) := by
  have h24 := hI.M24
  refine (startK_stay z k).inv hI (fun q hq => ?_) (fun q hq => ?_)
  · by_cases e : q = m
    · exact ⟨1, by subst e; unfold startK; rw [if_neg (by omega), if_neg (by omega), if_pos rfl], by omega⟩
    · exact ⟨mS z q, by rw [startK_lo z (by omega) (by omega) (by omega)]; exact hI.m5 hq, hI.s3 hq⟩
  · exact ⟨mW z q, by rw [startK_lo z (by omega) (by omega) (by omega)]; exact hI.m6 hq, hI.wc hq⟩
theorem startF_si {z : Nat → Int32} (hI : Inv z) (m : Nat) : SI z (startF z m) := ⟨startK_stay z _, startK_inv hI m _⟩
/-! writing -/
def mt (z : Nat → Int32) (m w : Nat) : Nat := if mW z m + w < mC z m then mW z m + w else mC z m
def wrK (z : Nat → Int32) (m t n : Nat) : Nat → Int32 := foldN n (fun i y => upd y (8 + tgtC z m (t + i)) (z (320 + 16 * m + (t + i)))) z
def writesF (z : Nat → Int32) (m w : Nat) : Nat → Int32 := upd (wrK z m (mW z m) (mt z m w - mW z m)) (80 + 10 * m + 6) (nI (mt z m w))
theorem mt_le {z : Nat → Int32} {m : Nat} (hI : Inv z) (hm : m < Mn z) (w : Nat) : mW z m ≤ mt z m w ∧ mt z m w ≤ mC z m := by
  have := hI.wc hm; unfold mt; split <;> omega
theorem wrK_out {z : Nat → Int32} {m : Nat} (hI : Inv z) (hm : m < Mn z) (t : Nat) {j : Nat} (h : j < 8 ∨ 56 ≤ j) : ∀ n, wrK z m t n j = z j
  | 0 => rfl
  | n + 1 => by
    show upd (wrK z m t n) _ _ j = z j
    have := hI.tgt48 hm (t + n)
    rw [upd_at, if_neg (by omega)]; exact wrK_out hI hm t h n
theorem wrK_stay {z : Nat → Int32} {m : Nat} (hI : Inv z) (hm : m < Mn z) (t n : Nat) : Stay z (wrK z m t n) := by
  refine ⟨?_, ?_, ?_, fun r pt _ _ => ?_, fun k pt _ _ => ?_⟩ <;> exact wrK_out hI hm t (by omega) n
theorem wrK_inv {z : Nat → Int32} {m : Nat} (hI : Inv z) (hm : m < Mn z) (t n : Nat) : Inv (wrK z m t n) :=
  (wrK_stay hI hm t n).inv0 hI (fun k _ => wrK_out hI hm t (by omega) n) (fun k _ => wrK_out hI hm t (by omega) n)
theorem writesF_out {z : Nat → Int32} {m : Nat} (hI : Inv z) (hm : m < Mn z) (w : Nat) {j : Nat} (h : j < 8 ∨ 56 ≤ j) (h6 : j ≠ 80 + 10 * m + 6) : writesF z m w j = z j := by
  unfold writesF; rw [upd_at, if_neg h6]; exact wrK_out hI hm _ h _
theorem writesF_stay {z : Nat → Int32} {m : Nat} (hI : Inv z) (hm : m < Mn z) (w : Nat) : Stay z (writesF z m w) := by
  refine ⟨?_, ?_, ?_, fun r pt _ _ => ?_, fun k pt _ _ => ?_⟩ <;> exact writesF_out hI hm w (by omega) (by omega)
theorem writesF_inv {z : Nat → Int32} {m : Nat} (hI : Inv z) (hm : m < Mn z) (w : Nat) : Inv (writesF z m w) := by
  refine (writesF_stay hI hm w).inv hI (fun k hk => ⟨mS z k, ?_, hI.s3 hk⟩) (fun k hk => ?_)
  · rw [writesF_out hI hm w (by omega) (by omega)]; exact hI.m5 hk
  · by_cases e : k = m
    · subst e
      exact ⟨mt z k w, by unfold writesF; rw [upd_at, if_pos rfl], (mt_le hI hm w).2⟩
    · exact ⟨mW z k, by rw [writesF_out hI hm w (by omega) (by omega)]; exact hI.m6 hk, hI.wc hk⟩
theorem writesF_si {z : Nat → Int32} {m : Nat} (hI : Inv z) (hm : m < Mn z) (w : Nat) : SI z (writesF z m w) := ⟨writesF_stay hI hm w, writesF_inv hI hm w⟩
/-! a tick -/
def stS (m : Nat) (y : Nat → Int32) : Nat → Int32 := if mS y m = 0 ∧ woN y m = 0 ∧ ¬ y 2 ≤ nI (msN y 1) then startF y m else y
def stK (z : Nat → Int32) (k : Nat) : Nat → Int32 := foldN k stS z
theorem stK_si {z : Nat → Int32} (hI : Inv z) (k : Nat) : SI z (stK z k) := foldN_inv (P := fun y => SI z y) k (SI.rf hI) (fun m y _ h => by
  unfold stS; split
  · exact h.tr (startF_si h.2 m)
  · exact h)
def cyD (y : Nat → Int32) (m : Nat) : Bool := decide (mS y m = 1) && decide (mt y m (Sp y) = mC y m)
def cyS (m : Nat) (y : Nat → Int32) : Nat → Int32 := if mS y m = 1 then (if mt y m (Sp y) = mC y m then upd (upd (writesF y m (Sp y)) (80 + 10 * m + 5) (nI 2)) (80 + 10 * m + 8) (y 0) else writesF y m (Sp y)) else y
def cyK (z : Nat → Int32) (k : Nat) : Nat → Int32 := foldN k cyS z
def cyN (z : Nat → Int32) (k : Nat) : Nat := foldN k (fun m n => n + if cyD (cyK z m) m = true then 1 else 0) 0
theorem cyS_si {z : Nat → Int32} (hI : Inv z) {m : Nat} (hm : m < Mn z) : SI z (cyS m z) := by
  have h24 := hI.M24
  unfold cyS; split
  · have h := writesF_si hI hm (Sp z)
    split
    · refine h.tr ?_
      have h2 : Stay (writesF z m (Sp z)) (upd (upd (writesF z m (Sp z)) (80 + 10 * m + 5) (nI 2)) (80 + 10 * m + 8) (z 0)) := by
        refine ⟨?_, ?_, ?_, fun r pt _ _ => ?_, fun k pt _ _ => ?_⟩ <;> rw [upd_at, if_neg (by omega), upd_at, if_neg (by omega)]
      refine ⟨h2, h2.inv h.2 (fun k hk => ?_) (fun k hk => ⟨mW _ k, ?_, h.2.wc hk⟩)⟩
      · by_cases e : k = m
        · subst e; exact ⟨2, by rw [upd_at, if_neg (by omega), upd_at, if_pos rfl], by omega⟩
        · exact ⟨mS _ k, by rw [upd_at, if_neg (by omega), upd_at, if_neg (by omega)]; exact h.2.m5 hk, h.2.s3 hk⟩
      · rw [upd_at, if_neg (by omega), upd_at, if_neg (by omega)]; exact h.2.m6 hk
    · exact h
  · exact SI.rf hI
theorem cyK_si {z : Nat → Int32} (hI : Inv z) : ∀ (k : Nat), k ≤ Mn z → SI z (cyK z k)
  | 0, _ => SI.rf hI
  | k + 1, h => by
    have ih := cyK_si hI k (by omega)
    exact ih.tr (cyS_si ih.2 (by rw [ih.1.M]; omega))
def tkA (z : Nat → Int32) : Nat → Int32 := stK (sgF z) (Mn z)
def tkB (z : Nat → Int32) : Nat → Int32 := cyK (tkA z) (Mn z)
def tickN (z : Nat → Int32) : Nat := cyN (tkA z) (Mn z)
def tickF (z : Nat → Int32) : Nat → Int32 := upd (upd (tkB z) 5 (tkB z 5 + nI (tickN z))) 0 (tkB z 0 + nI 1)
theorem tkA_si {z : Nat → Int32} (hI : Inv z) : SI z (tkA z) := (sgF_si hI).tr (stK_si (sgF_si hI).2 _)
theorem tkB_si {z : Nat → Int32} (hI : Inv z) : SI z (tkB z) := (tkA_si hI).tr (cyK_si (tkA_si hI).2 _ (by rw [(tkA_si hI).1.M]; exact Nat.le_refl _))
theorem tickF_si {z : Nat → Int32} (hI : Inv z) : SI z (tickF z) := by
  have h := tkB_si hI
  have h2 : Stay (tkB z) (tickF z) := by
    unfold tickF
    refine ⟨?_, ?_, ?_, fun r pt _ _ => ?_, fun k pt _ _ => ?_⟩ <;> rw [upd_at, if_neg (by omega), upd_at, if_neg (by omega)]
  refine h.tr ⟨h2, h2.inv0 h.2 (fun k _ => ?_) (fun k _ => ?_)⟩ <;> (unfold tickF; rw [upd_at, if_neg (by omega), upd_at, if_neg (by omega)])
def psF (z : Nat → Int32) (k : Nat) : Nat → Int32 := foldN k (fun _ y => tickF y) z
def psN (z : Nat → Int32) (k : Nat) : Nat := foldN k (fun i n => n + tickN (psF z i)) 0
theorem psF_si {z : Nat → Int32} (hI : Inv z) (k : Nat) : SI z (psF z k) := foldN_inv (P := fun y => SI z y) k (SI.rf hI) (fun _ y _ h => h.tr (tickF_si h.2))
theorem woK_lt (z : Nat → Int32) (l : Nat) : ∀ k, woK z l k < 2 ^ k
  | 0 => by show 0 < 2 ^ 0; decide
  | k + 1 => by
    rw [woK_s]
    have h := woK_lt z l k
    refine Nat.or_lt_two_pow (Nat.lt_of_lt_of_le h (Nat.pow_le_pow_right (by decide) (Nat.le_succ k))) ?_
    split
    · exact Nat.pow_lt_pow_right (by decide) (Nat.lt_succ_self k)
    · exact Nat.two_pow_pos _
theorem woN_lt (z : Nat → Int32) {l : Nat} (h : l ≤ 24) : woN z l < 2 ^ 24 := by
  unfold woN; split
  · exact Nat.lt_of_lt_of_le (woK_lt z l l) (Nat.pow_le_pow_right (by decide) h)
  · decide
theorem sg_exit {y : Nat → Int32} {k j n : Nat} (h1 : j = 0 ∨ sgOn y k = true) (h2 : sgOn y k = false ∨ j = n) : sgT n k y = sgR k j y := by
  unfold sgT
  rcases h2 with q | q
  · rcases h1 with h | h
    · subst h; rw [if_neg (by rw [q]; decide)]; rfl
    · rw [h] at q; cases q
  · subst q
    split
    · rfl
    · rename_i h
      rcases h1 with h1 | h1
      · subst h1; rfl
      · exact absurd h1 h
theorem cyN_s (z : Nat → Int32) (k : Nat) : cyN z (k + 1) = cyN z k + if cyD (cyK z k) k = true then 1 else 0 := rfl
theorem cyN_le (z : Nat → Int32) : ∀ k, cyN z k ≤ k
  | 0 => Nat.le_refl 0
  | k + 1 => by rw [cyN_s]; have := cyN_le z k; split <;> omega
/-! tables' rows: rings and moves told -/
def ovB (z : Nat → Int32) (f ln : Int32) (r : Nat) : Bool := !decide (nI (rF z r + rL z r) ≤ f) && !decide (f + ln ≤ nI (rF z r))
def wrgK (z : Nat → Int32) (f ln : Int32) (k : Nat) : Nat := foldN k (fun r w => if ovB z f ln r = true then 3 else w) (if Rn z = 6 then 3 else 0)
def wrg (z : Nat → Int32) (f ln pt : Int32) : Nat := if wiB f (nI 0) (nI 47) = false then 1 else if wiB ln (nI 2) (nI 16) = false ∨ wiB pt (nI 0) (nI 50) = false ∨ ¬ f + ln ≤ nI 48 then 2 else wrgK z f ln (Rn z)
theorem wrgK_s (z : Nat → Int32) (f ln : Int32) (k : Nat) : wrgK z f ln (k + 1) = if ovB z f ln k = true then 3 else wrgK z f ln k := rfl
def prF (z : Nat → Int32) (f ln pt : Int32) : Nat → Int32 := upd (upd (upd (upd (upd z (56 + 4 * Rn z + 0) f) (56 + 4 * Rn z + 1) ln) (56 + 4 * Rn z + 2) pt) (56 + 4 * Rn z + 3) (nI 0)) 3 (nI (Rn z + 1))
def wmv (z : Nat → Int32) (f fp t tp n : Int32) : Nat := if lsB f (Rn z) = false ∨ lsB t (Rn z) = false then 1 else if wiB fp (nI 0) (nI 99) = false ∨ wiB tp (nI 0) (nI 99) = false ∨ n < nI 1 ∨ nI (rL z (nn f)) < n ∨ ¬ n ≤ nI (rL z (nn t)) then 2 else if Mn z = 24 then 3 else 0
def pmF (z : Nat → Int32) (f fp t tp n : Int32) : Nat → Int32 := upd (upd (upd (upd (upd (upd (upd (upd (upd (upd (upd z (80 + 10 * Mn z + 0) f) (80 + 10 * Mn z + 1) fp) (80 + 10 * Mn z + 2) t) (80 + 10 * Mn z + 3) tp) (80 + 10 * Mn z + 4) n) (80 + 10 * Mn z + 5) (nI 0)) (80 + 10 * Mn z + 6) (nI 0)) (80 + 10 * Mn z + 7) (-1000)) (80 + 10 * Mn z + 8) (-1000)) (80 + 10 * Mn z + 9) (-1000)) 4 (nI (Mn z + 1))
/-! copies of the whole state -/
def cpZ (z : Nat → Int32) (src dst : Nat) : Nat → Int32 := va_cpy z z src dst 704
theorem cpZ_at (z : Nat → Int32) (src dst j : Nat) : cpZ z src dst j = if dst ≤ j ∧ j < dst + 704 then z (src + (j - dst)) else z j := rfl
def shK (z : Nat → Int32) (k : Nat) : Nat → Int32 := fun j => if 1408 ≤ j ∧ j < 1408 + k then z (j + 704) else z j
theorem shK_s (z : Nat → Int32) (k : Nat) : upd (shK z k) (1408 + k) (z (1408 + (k + 704))) = shK z (k + 1) := by
  funext j
  rw [upd_at]
  unfold shK
  by_cases e : j = 1408 + k
  · rw [if_pos e, if_pos (by omega), e]; exact congrArg z (by omega)
  · rw [if_neg e]
    by_cases e2 : 1408 ≤ j ∧ j < 1408 + k
    · rw [if_pos e2, if_pos (by omega)]
    · rw [if_neg e2, if_neg (by omega)]
theorem shK_0 (z : Nat → Int32) : shK z 0 = z := by
  funext j; unfold shK; rw [if_neg (by omega)]
theorem shK_out (z : Nat → Int32) {k j : Nat} (h : 1408 + k ≤ j) : shK z k j = z j := by unfold shK; rw [if_neg (by omega)]
def svA (z : Nat → Int32) (v : Nat) : Nat → Int32 := if v = 4 then upd (shK z 2112) 4404 (nI 3) else z
def svV (v : Nat) : Nat := if v = 4 then 3 else v
def saveF (z : Nat → Int32) (v : Nat) : Nat → Int32 := upd (cpZ (svA z v) 0 (1408 + svV v * 704)) 4404 (nI (svV v + 1))
section MCP
variable {D : va_G} {cI : ClassId} {a : Nat} {z : Nat → Int32} {H H1 : Heap}
end MCP
theorem cpy_0 {f g : Nat → Int32} {sp dp : Nat} : va_cpy f g sp dp 0 = g := by
  funext j; unfold va_cpy; rw [if_neg (by omega)]
theorem cpy_s {f g : Nat → Int32} {sp dp k : Nat} : upd (va_cpy f g sp dp k) (dp + k) (f (sp + k)) = va_cpy f g sp dp (k + 1) := by
  funext j
  rw [upd_at]; unfold va_cpy
  by_cases e : j = dp + k
  · rw [if_pos e, if_pos (by omega), e]; exact congrArg f (by omega)
  · rw [if_neg e]
    by_cases e2 : dp ≤ j ∧ j < dp + k
    · rw [if_pos e2, if_pos (by omega)]
    · rw [if_neg e2, if_neg (by omega)]
theorem cyK_0 (z : Nat → Int32) : cyK z 0 = z := rfl
theorem stK_0 (z : Nat → Int32) : stK z 0 = z := rfl
theorem sgK_0 (z : Nat → Int32) : sgK z 0 = z := rfl
theorem psF_0 (z : Nat → Int32) : psF z 0 = z := rfl
