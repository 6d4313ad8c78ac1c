/-! the law's tick, in plain words -/
theorem lgK_0 (z : Nat → Int32) : lgK z 0 = z := rfl
theorem msK_0 (z : Nat → Int32) (s : Nat) : msK z s 0 = 0 := rfl
theorem cyN_0 (z : Nat → Int32) : cyN z 0 = 0 := rfl
section TKP
variable {z y : Nat → Int32} {m k i : Nat}
theorem lgS_si (hI : Inv y) (m : Nat) : SI y (lgS m y) := by
  have h24 := hI.M24
  have hs : Stay y (lgS m y) := by
    refine ⟨?_, ?_, ?_, fun r pt _ _ => ?_, fun k pt _ _ => ?_⟩ <;> exact lgS_o m y (by omega)
  refine ⟨hs, hs.inv hI (fun q hq => ?_) (fun q hq => ⟨mW y q, by rw [lgS_o m y (by omega)]; exact hI.m6 hq, hI.wc hq⟩)⟩
  by_cases e : lgB y m = true ∧ q = m
  · obtain ⟨e1, rfl⟩ := e
    exact ⟨3, by unfold lgS; rw [if_pos e1, upd_at, if_pos rfl], by omega⟩
  · refine ⟨mS y q, ?_, hI.s3 hq⟩
    rw [← hI.m5 hq]
    unfold lgS
    by_cases e1 : lgB y m = true
    · rw [if_pos e1, upd_ne (fun q9 => e ⟨e1, by omega⟩)]
    · rw [if_neg e1]
theorem lgK_si (hI : Inv z) (k : Nat) : SI z (lgK z k) := foldN_inv (P := fun y => SI z y) k (SI.rf hI) (fun m y _ h => h.tr (lgS_si h.2 m))
theorem lg_ye (hB : LB z) (hk : k < Mn z) (h : mS (lgK z k) k = 2) : lgK z k (80 + 10 * k + 8) ≠ -1000 := by
  rw [lgK_o z k (fun q _ => by omega)]
  have e5 : mS (lgK z k) k = mS z k := acc_eq _ (lgK_o z k (fun q _ => by omega))
  exact hB.ye hk (by omega)
/-- a move's copying within a tick, cell by cell -/
def cpP (y : Nat → Int32) (m i : Nat) : Nat → Int32 := if mS y m = 1 then (if mt y m i = mC y m then upd (upd (writesF y m i) (80 + 10 * m + 5) (nI 2)) (80 + 10 * m + 8) (y 0) else writesF y m i) else y
def cdN (y : Nat → Int32) (m i : Nat) : Nat := if mS y m = 1 ∧ mt y m i = mC y m then 1 else 0
theorem wr_0 (hI : Inv y) (hm : m < Mn y) (h : mW y m < mC y m) : writesF y m 0 = y := by
  have e : mt y m 0 = mW y m := by unfold mt; rw [if_pos (by omega)]; omega
  unfold writesF
  rw [e, Nat.sub_self]
  funext j
  rw [upd_at]
  by_cases q : j = 80 + 10 * m + 6
  · rw [if_pos q, q]; exact (hI.m6 hm).symm
  · rw [if_neg q]; rfl
theorem cpP_0 (hI : Inv y) (hB : LB y) (hm : m < Mn y) : cpP y m 0 = y ∧ cdN y m 0 = 0 := by
  unfold cpP cdN
  by_cases q : mS y m = 1
  · have h := hB.w1 hm q
    have e : mt y m 0 = mW y m := by unfold mt; rw [if_pos (by omega)]; omega
    rw [if_pos q, if_neg (by omega), if_neg (by omega)]
    exact ⟨wr_0 hI hm h, rfl⟩
  · rw [if_neg q, if_neg (fun h => q h.1)]; exact ⟨rfl, rfl⟩
theorem ph_si {x : Nat → Int32} (h : SI y x) (hm : m < Mn y) (v : Int32) : SI y (upd (upd x (80 + 10 * m + 5) (nI 2)) (80 + 10 * m + 8) v) := by
  refine h.tr ?_
  have h2 : Stay x (upd (upd x (80 + 10 * m + 5) (nI 2)) (80 + 10 * m + 8) v) := by
    refine ⟨?_, ?_, ?_, fun r pt _ _ => ?_, fun k pt _ _ => ?_⟩ <;> rw [upd_ne (by omega), upd_ne (by omega)]
  refine ⟨h2, h2.inv h.2 (fun k hk => ?_) (fun k hk => ⟨mW x k, by rw [upd_ne (by omega), upd_ne (by omega)]; exact h.2.m6 hk, h.2.wc hk⟩)⟩
  by_cases q : k = m
  · subst q; exact ⟨2, by rw [upd_ne (by omega), upd_at, if_pos rfl], by omega⟩
  · exact ⟨mS x k, by rw [upd_ne (by omega), upd_ne (by omega)]; exact h.2.m5 hk, h.2.s3 hk⟩
theorem cpP_si (hI : Inv y) (hm : m < Mn y) (i : Nat) : SI y (cpP y m i) := by
  have h := writesF_si hI hm i
  unfold cpP
  split
  · split
    · exact ph_si h hm _
    · exact h
  · exact SI.rf hI
theorem cpP_one (hI : Inv y) (hm : m < Mn y) (i : Nat) : mS (cpP y m i) m = 1 ↔ mS y m = 1 ∧ ¬ mt y m i = mC y m := by
  have h24 := hI.M24
  unfold cpP
  by_cases q : mS y m = 1
  · rw [if_pos q]
    by_cases q2 : mt y m i = mC y m
    · rw [if_pos q2]
      have e : mS (upd (upd (writesF y m i) (80 + 10 * m + 5) (nI 2)) (80 + 10 * m + 8) (y 0)) m = 2 := by unfold mS; rw [upd_ne (by omega), upd_at, if_pos rfl]; rfl
      rw [e]
      exact ⟨fun h => absurd h (by decide), fun h => absurd q2 h.2⟩
    · rw [if_neg q2]
      have e : mS (writesF y m i) m = mS y m := acc_eq _ (writesF_out hI hm i (Or.inr (by omega)) (by omega))
      rw [e]; exact ⟨fun _ => ⟨q, q2⟩, fun _ => q⟩
  · rw [if_neg q]; exact ⟨fun h => absurd h q, fun h => absurd h.1 q⟩
theorem cpP_run (h1 : mS y m = 1) (h2 : ¬ mt y m i = mC y m) : cpP y m i = writesF y m i ∧ cdN y m i = 0 ∧ mt y m i = mW y m + i ∧ mW y m + i < mC y m := by
  have e : mW y m + i < mC y m := by
    by_cases q : mW y m + i < mC y m
    · exact q
    · unfold mt at h2; rw [if_neg q] at h2; exact absurd rfl h2
  unfold cpP cdN
  rw [if_pos h1, if_neg h2, if_neg (fun q => h2 q.2)]
  exact ⟨rfl, rfl, by unfold mt; rw [if_pos e], e⟩
theorem cpP_stop {j : Nat} (h : ¬ (mS y m = 1 ∧ ¬ mt y m i = mC y m)) (hij : i ≤ j) : cpP y m j = cpP y m i ∧ cdN y m j = cdN y m i := by
  unfold cpP cdN
  by_cases q : mS y m = 1
  · have q2 : mt y m i = mC y m := Classical.byContradiction (fun q2 => h ⟨q, q2⟩)
    have q3 : ¬ mW y m + i < mC y m ∨ mW y m + i = mC y m := by
      by_cases q4 : mW y m + i < mC y m
      · unfold mt at q2; rw [if_pos q4] at q2; exact Or.inr q2
      · exact Or.inl q4
    have e : mt y m j = mC y m := by unfold mt; rw [if_neg (by omega)]
    have ew : writesF y m j = writesF y m i := by unfold writesF; rw [e, q2]
    rw [if_pos q, if_pos q, if_pos e, if_pos q2, if_pos ⟨q, e⟩, if_pos ⟨q, q2⟩, ew]
    exact ⟨rfl, rfl⟩
  · rw [if_neg q, if_neg q, if_neg (fun h => q h.1), if_neg (fun h => q h.1)]; exact ⟨rfl, rfl⟩
theorem wr_mw (hI : Inv y) (hm : m < Mn y) (i : Nat) : mW (writesF y m i) m = mt y m i := by
  have h16 := mt_16 hI hm i
  unfold mW; rw [writesF_6, nn_nI (by omega)]
theorem wr_6si (hI : Inv y) (hm : m < Mn y) (h : mW y m + i < mC y m) : SI y (upd (writesF y m i) (80 + 10 * m + 6) (nI (mW y m + i + 1))) := by
  have hw := writesF_si hI hm i
  refine hw.tr ?_
  have h2 : Stay (writesF y m i) (upd (writesF y m i) (80 + 10 * m + 6) (nI (mW y m + i + 1))) := by
    refine ⟨?_, ?_, ?_, fun r pt _ _ => ?_, fun k pt _ _ => ?_⟩ <;> rw [upd_ne (by omega)]
  refine ⟨h2, h2.inv hw.2 (fun k hk => ⟨mS (writesF y m i) k, by rw [upd_ne (by omega)]; exact hw.2.m5 hk, hw.2.s3 hk⟩) (fun k hk => ?_)⟩
  by_cases q : k = m
  · subst q
    refine ⟨mW y k + i + 1, by rw [upd_at, if_pos rfl], ?_⟩
    have h24 := hI.M24
    rw [hw.1.c (by omega)]; omega
  · exact ⟨mW (writesF y m i) k, by rw [upd_ne (by omega)]; exact hw.2.m6 hk, hw.2.wc hk⟩
theorem wr_step (hI : Inv y) (hm : m < Mn y) (h : mW y m + i < mC y m) : upd (upd (writesF y m i) (80 + 10 * m + 6) (nI (mW y m + i + 1))) (8 + tgtC y m (mW y m + i)) (y (320 + 16 * m + (mW y m + i))) = writesF y m (i + 1) := by
  have e : mt y m i = mW y m + i := by unfold mt; rw [if_pos h]
  have e1 : mt y m (i + 1) = mW y m + i + 1 := by unfold mt; split <;> omega
  have ht := hI.tgt48 hm (mW y m + i)
  unfold writesF
  rw [e, e1, show mW y m + i - mW y m = i by omega, show mW y m + i + 1 - mW y m = i + 1 by omega]
  funext j
  show _ = upd (upd (wrK y m (mW y m) i) (8 + tgtC y m (mW y m + i)) (y (320 + 16 * m + (mW y m + i)))) (80 + 10 * m + 6) (nI (mW y m + i + 1)) j
  simp only [upd_at]
  by_cases q : j = 80 + 10 * m + 6
  · rw [if_neg (by omega), if_pos q, if_pos q]
  · rw [if_neg q, if_neg q, if_neg q]
theorem cpP_next (h1 : mS y m = 1) (h : mW y m + i < mC y m) : (mW y m + i + 1 = mC y m → cpP y m (i + 1) = upd (upd (writesF y m (i + 1)) (80 + 10 * m + 5) (nI 2)) (80 + 10 * m + 8) (y 0) ∧ cdN y m (i + 1) = 1) ∧ (¬ mW y m + i + 1 = mC y m → cpP y m (i + 1) = writesF y m (i + 1) ∧ cdN y m (i + 1) = 0) := by
  have e1 : mt y m (i + 1) = mW y m + i + 1 := by unfold mt; split <;> omega
  unfold cpP cdN
  rw [if_pos h1, e1]
  refine ⟨fun q => ?_, fun q => ?_⟩
  · rw [if_pos q, if_pos ⟨h1, q⟩]; exact ⟨rfl, rfl⟩
  · rw [if_neg q, if_neg (fun q2 => q q2.2)]; exact ⟨rfl, rfl⟩
theorem cpP_end (y : Nat → Int32) (m : Nat) : cpP y m (Sp y) = cyS m y := rfl
theorem cdN_end (y : Nat → Int32) (m : Nat) : cdN y m (Sp y) = if cyD y m = true then 1 else 0 := by
  unfold cdN cyD
  by_cases q : mS y m = 1 <;> by_cases q2 : mt y m (Sp y) = mC y m <;> simp [q, q2]
theorem st_tr (y : Nat → Int32) {k : Nat} (hk : k < 8) : Tr (upd y (80 + 10 * k + 5) (nI 1)) (startK y k 0) := by
  rw [← startK_0]
  refine ⟨⟨upd_ne (by omega), upd_ne (by omega), upd_ne (by omega), upd_ne (by omega)⟩, fun j hj => upd_ne (by omega), fun m p hm hp h7 => upd_ne (by omega), fun m i hm hi => upd_ne ?_⟩
  omega
theorem tk_tr (z : Nat → Int32) : Tr (upd (tkB z) 0 (tkB z 0 + nI 1)) (tickF z) := by
  have o {j : Nat} (h : j ≠ 5) : tickF z j = upd (tkB z) 0 (tkB z 0 + nI 1) j := by
    unfold tickF
    simp only [upd_at]
    by_cases q : j = 0
    · rw [if_pos q, if_pos q]
    · rw [if_neg q, if_neg q, if_neg h]
  exact ⟨⟨o (by omega), o (by omega), o (by omega), o (by omega)⟩, fun j hj => o (by omega), fun m p hm hp h7 => o (by omega), fun m i hm hi => o (by omega)⟩
end TKP
