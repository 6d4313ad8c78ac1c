/-! two rows of numbers that are alike where it counts -/
def Eqv (z y : Nat → Int32) : Prop := (∀ j, j < 56 → y j = z j) ∧ (∀ r pt, r < Rn z → pt < 4 → y (56 + 4 * r + pt) = z (56 + 4 * r + pt)) ∧ (∀ m pt, m < Mn z → pt < 10 → y (80 + 10 * m + pt) = z (80 + 10 * m + pt)) ∧ ∀ m i, m < Mn z → mS z m = 1 → i < mC z m → y (320 + 16 * m + i) = z (320 + 16 * m + i)
theorem Eqv.of_eq {z y : Nat → Int32} (hI : Inv z) (h : ∀ j, j < 704 → y j = z j) : Eqv z y := by
  have h6 := hI.R6; have h24 := hI.M24
  refine ⟨fun j hj => h j (by omega), fun r pt hr hp => h _ (by omega), fun m pt hm hp => h _ (by omega), fun m i hm _ hi => h _ ?_⟩
  have := hI.c16 hm; omega
theorem Eqv.rf {z : Nat → Int32} : Eqv z z := ⟨fun _ _ => rfl, fun _ _ _ _ => rfl, fun _ _ _ _ => rfl, fun _ _ _ _ _ => rfl⟩
section EQV
variable {z y x : Nat → Int32}
theorem Eqv.R (h : Eqv z y) : Rn y = Rn z := acc_eq 3 (h.1 3 (by omega))
theorem Eqv.M (h : Eqv z y) : Mn y = Mn z := acc_eq 4 (h.1 4 (by omega))
theorem Eqv.S (h : Eqv z y) : Sp y = Sp z := acc_eq 1 (h.1 1 (by omega))
theorem Eqv.rF (h : Eqv z y) {r : Nat} (hr : r < Rn z) : rF y r = rF z r := acc_eq _ (h.2.1 r 0 hr (by omega))
theorem Eqv.rL (h : Eqv z y) {r : Nat} (hr : r < Rn z) : rL y r = rL z r := acc_eq _ (h.2.1 r 1 hr (by omega))
theorem Eqv.mF (h : Eqv z y) {m : Nat} (hm : m < Mn z) : mF y m = mF z m := acc_eq _ (h.2.2.1 m 0 hm (by omega))
theorem Eqv.mA (h : Eqv z y) {m : Nat} (hm : m < Mn z) : mA y m = mA z m := acc_eq _ (h.2.2.1 m 1 hm (by omega))
theorem Eqv.mT (h : Eqv z y) {m : Nat} (hm : m < Mn z) : mT y m = mT z m := acc_eq _ (h.2.2.1 m 2 hm (by omega))
theorem Eqv.mB (h : Eqv z y) {m : Nat} (hm : m < Mn z) : mB y m = mB z m := acc_eq _ (h.2.2.1 m 3 hm (by omega))
theorem Eqv.mC (h : Eqv z y) {m : Nat} (hm : m < Mn z) : mC y m = mC z m := acc_eq _ (h.2.2.1 m 4 hm (by omega))
theorem Eqv.mS (h : Eqv z y) {m : Nat} (hm : m < Mn z) : mS y m = mS z m := acc_eq _ (h.2.2.1 m 5 hm (by omega))
theorem Eqv.mW (h : Eqv z y) {m : Nat} (hm : m < Mn z) : mW y m = mW z m := acc_eq _ (h.2.2.1 m 6 hm (by omega))
theorem Eqv.tr (h : Eqv z y) (h2 : Eqv y x) : Eqv z x := by
  refine ⟨fun j hj => (h2.1 j hj).trans (h.1 j hj), fun r pt hr hp => (h2.2.1 r pt (by rw [h.R]; exact hr) hp).trans (h.2.1 r pt hr hp), fun m pt hm hp => (h2.2.2.1 m pt (by rw [h.M]; exact hm) hp).trans (h.2.2.1 m pt hm hp), fun m i hm hs hi => ?_⟩
  exact (h2.2.2.2 m i (by rw [h.M]; exact hm) (by rw [h.mS hm]; exact hs) (by rw [h.mC hm]; exact hi)).trans (h.2.2.2 m i hm hs hi)
theorem Eqv.symm (h : Eqv z y) : Eqv y z := by
  refine ⟨fun j hj => (h.1 j hj).symm, fun r pt hr hp => (h.2.1 r pt (by rw [← h.R]; exact hr) hp).symm, fun m pt hm hp => (h.2.2.1 m pt (by rw [← h.M]; exact hm) hp).symm, fun m i hm hs hi => ?_⟩
  have hm' : m < Mn z := by rw [← h.M]; exact hm
  exact (h.2.2.2 m i hm' (by rw [← h.mS hm']; exact hs) (by rw [← h.mC hm']; exact hi)).symm
theorem Eqv.inv (h : Eqv z y) (hI : Inv z) : Inv y := by
  have eR := h.R; have eM := h.M; have eS := h.S
  refine ⟨⟨by rw [h.1 3 (by omega), eR]; exact hI.z3, by rw [eR]; exact hI.R6⟩, ⟨by rw [h.1 4 (by omega), eM]; exact hI.z4, by rw [eM]; exact hI.M24⟩, ⟨by rw [h.1 1 (by omega), eS]; exact hI.z1, by rw [eS]; exact hI.S1, by rw [eS]; exact hI.S8⟩, fun r hr => ?_, fun m hm => ?_⟩
  · rw [eR] at hr
    refine ⟨?_, ?_, ?_, ?_, ?_, ?_⟩
    · rw [h.2.1 r 0 hr (by omega), h.rF hr]; exact hI.r0 hr
    · rw [h.2.1 r 1 hr (by omega), h.rL hr]; exact hI.r1 hr
    · rw [h.rL hr]; exact hI.l2 hr
    · rw [h.rL hr]; exact hI.l16 hr
    · rw [h.rF hr, h.rL hr]; exact hI.l48 hr
    · rw [h.2.1 r 3 hr (by omega)]; exact hI.r3 hr
  · rw [eM] at hm
    have a (pt : Nat) (hp : pt < 10) := h.2.2.1 m pt hm hp
    refine ⟨⟨?_, ?_⟩, ⟨?_, ?_⟩, ⟨?_, ?_⟩, ⟨?_, ?_⟩, ⟨?_, ?_, ?_⟩, ⟨?_, ?_⟩, ?_, ?_⟩
    · rw [a 0 (by omega), h.mF hm]; exact hI.m0 hm
    · rw [h.mF hm, eR]; exact hI.mf hm
    · rw [a 1 (by omega), h.mA hm]; exact hI.m1 hm
    · rw [h.mA hm]; exact hI.ma hm
    · rw [a 2 (by omega), h.mT hm]; exact hI.m2 hm
    · rw [h.mT hm, eR]; exact hI.mt hm
    · rw [a 3 (by omega), h.mB hm]; exact hI.m3 hm
    · rw [h.mB hm]; exact hI.mb hm
    · rw [a 4 (by omega), h.mC hm]; exact hI.m4 hm
    · rw [h.mC hm]; exact hI.c1 hm
    · rw [h.mC hm]; exact hI.c16 hm
    · rw [a 5 (by omega), h.mS hm]; exact hI.m5 hm
    · rw [h.mS hm]; exact hI.s3 hm
    · rw [a 6 (by omega), h.mW hm]; exact hI.m6 hm
    · rw [h.mW hm, h.mC hm]; exact hI.wc hm
theorem Eqv.src (h : Eqv z y) (hI : Inv z) {m : Nat} (hm : m < Mn z) (i : Nat) : srcC y m i = srcC z m i := by
  unfold srcC; rw [h.mF hm, h.mA hm, h.rF (hI.mf hm), h.rL (hI.mf hm)]
theorem Eqv.tgt (h : Eqv z y) (hI : Inv z) {m : Nat} (hm : m < Mn z) (i : Nat) : tgtC y m i = tgtC z m i := by
  unfold tgtC; rw [h.mT hm, h.mB hm, h.rF (hI.mt hm), h.rL (hI.mt hm)]
theorem Eqv.rd (h : Eqv z y) (hI : Inv z) {m : Nat} (hm : m < Mn z) (q : Nat) : rdB y m q = rdB z m q := by
  unfold rdB; rw [h.mC hm]; exact anyN_cong (fun k _ => by rw [h.src hI hm])
theorem Eqv.wr (h : Eqv z y) (hI : Inv z) {m : Nat} (hm : m < Mn z) (q : Nat) : wrB y m q = wrB z m q := by
  unfold wrB; rw [h.mC hm]; exact anyN_cong (fun k _ => by rw [h.tgt hI hm])
theorem Eqv.ho (h : Eqv z y) (hI : Inv z) {m : Nat} (hm : m < Mn z) (q : Nat) : hoB y m q = hoB z m q := by
  unfold hoB; rw [h.mS hm, h.rd hI hm]
theorem Eqv.rs (h : Eqv z y) (hI : Inv z) (q : Nat) : rsC y q = rsC z q := by
  unfold rsC rsK; rw [h.M]
  refine congrArg (· % 4) (foldN_cong _ (fun m b hm => ?_))
  have e : rsM y m q = rsM z m q := by unfold rsM; rw [h.ho hI hm, h.mS hm, h.rd hI hm, h.wr hI hm]
  rw [e]
theorem Eqv.wa (h : Eqv z y) (hI : Inv z) {l e : Nat} (hl : l < Mn z) (he : e < Mn z) : waB y l e = waB z l e := by
  unfold waB waK; rw [h.mS he, h.mC he]
  split
  · rfl
  · exact anyN_cong (fun k _ => by rw [h.src hI he, h.tgt hI he, h.wr hI hl, h.wr hI hl, h.rd hI hl])
theorem Eqv.wo (h : Eqv z y) (hI : Inv z) {l : Nat} (hl : l < Mn z) : woN y l = woN z l := by
  unfold woN woK; rw [h.mS hl]
  split
  · exact foldN_cong _ (fun m b hm => by rw [h.wa hI hl (by omega)])
  · rfl
theorem Eqv.ms (h : Eqv z y) (s : Nat) : msN y s = msN z s := by
  unfold msN msK; rw [h.M]; exact foldN_cong _ (fun m n hm => by rw [h.mS hm])
theorem Eqv.cp (h : Eqv z y) (r : Nat) : cpN y r = cpN z r := by
  unfold cpN cpK; rw [h.M]; exact foldN_cong _ (fun m n hm => by rw [h.mS hm, h.mT hm])
theorem firstN_cong {p q : Nat → Bool} : ∀ {n : Nat}, (∀ k, k < n → p k = q k) → firstN n p = firstN n q
  | 0, _ => rfl
  | n + 1, h => by unfold firstN; rw [firstN_cong (fun k hk => h k (Nat.lt_succ_of_lt hk)), h n (Nat.lt_succ_self n)]
theorem Eqv.fc (h : Eqv z y) (r : Nat) : fcN y r = fcN z r := by
  unfold fcN; rw [h.M]; exact firstN_cong (fun m hm => by unfold isC; rw [h.mS hm, h.mT hm])
theorem Eqv.fci (h : Eqv z y) (r : Nat) : fcI y r = fcI z r := by
  unfold fcI; rw [h.fc, h.M]
end EQV
/-! what more there is to ask -/
def hgN (z : Nat → Int32) (m : Nat) : Nat := if mS z m = 1 then mC z m - mW z m else 0
def uFK (z : Nat → Int32) (r k : Nat) : Nat := foldN k (fun m n => n + if mF z m = r then (if mS z m = 3 then 0 else 1) else 0) 0
def uTK (z : Nat → Int32) (r k : Nat) : Nat := foldN k (fun m n => n + if mT z m = r then (if mS z m = 3 then 0 else 1) else 0) 0
def smK (z : Nat → Int32) (b k : Nat) : Int32 := foldN k (fun i s => s + z (8 + b + i)) (nI 0)
def rvI (z : Nat → Int32) (r w : Nat) : Int32 := if w = 4 then nI (uFK z r (Mn z)) else if w = 5 then nI (uTK z r (Mn z)) else if w = 6 then nI (cpN z r) else if w = 7 then smK z (rF z r) (rL z r) else z (56 + 4 * r + w)
def hcM (z : Nat → Int32) (q k b : Nat) : Nat := foldN k (fun m b => b ||| (if hoB z m q = true then 2 ^ q else 0)) b
def hcK (z : Nat → Int32) (k : Nat) : Nat := foldN k (fun q b => hcM z q (Mn z) b) 0
def hcN (z : Nat → Int32) : Nat := hcK z 48
def ppK (b k : Nat) : Nat := foldN k (fun q n => n + if b / 2 ^ q % 2 = 1 then 1 else 0) 0
def wvI (z : Nat → Int32) (w : Nat) : Int32 := if w = 0 then nI (Rn z) else if w = 1 then nI (Mn z) else if w < 6 then nI (msN z (w - 2)) else if w = 6 then nI (Sp z) else if w = 7 then z 2 else if w = 8 then z 0 else if w = 9 then nI (ppK (hcN z) 48) else if w = 10 then z 5 else if w = 11 then z 6 else if w = 12 then z 7 else if w = 13 then smK z 0 48 else z 4405
def dpV (z : Nat → Int32) (t : Nat → Nat) (m k : Nat) : Nat := foldN k (fun e d => if (if woN z m / 2 ^ e % 2 = 1 then t e + 1 else 0) ≤ d then d else (if woN z m / 2 ^ e % 2 = 1 then t e + 1 else 0)) 0
def dpT (z : Nat → Int32) : Nat → Nat → Nat
  | 0 => fun _ => 0
  | k + 1 => fun j => if j = k then dpV z (dpT z k) k k else dpT z k j
def dpN (z : Nat → Int32) (m : Nat) : Nat := dpT z (m + 1) m
def finS (m : Nat) (y : Nat → Int32) : Nat → Int32 := if mS y m = 0 then writesF (startF y m) m 16 else if mS y m = 1 then writesF y m 16 else y
def finK (z : Nat → Int32) (k : Nat) : Nat → Int32 := foldN k finS z
def finF (z : Nat → Int32) : Nat → Int32 := finK z (Mn z)
theorem startF_mS {z : Nat → Int32} (m : Nat) (h : m < 24) : mS (startF z m) m = 1 := by
  show nn (startK z m (mC z m) (80 + 10 * m + 5)) = 1
  unfold startK; rw [if_neg (by omega), if_neg (by omega), if_pos rfl]; rfl
theorem finS_si {z : Nat → Int32} (hI : Inv z) {m : Nat} (hm : m < Mn z) : SI z (finS m z) := by
  unfold finS; split
  · have h := startF_si hI m
    exact h.tr (writesF_si h.2 (by rw [h.1.M]; exact hm) 16)
  · split
    · exact writesF_si hI hm 16
    · exact SI.rf hI
theorem finK_si {z : Nat → Int32} (hI : Inv z) : ∀ (k : Nat), k ≤ Mn z → SI z (finK z k)
  | 0, _ => SI.rf hI
  | k + 1, h => by
    have ih := finK_si hI k (by omega)
    exact ih.tr (finS_si ih.2 (by rw [ih.1.M]; omega))
theorem finK_0 (z : Nat → Int32) : finK z 0 = z := rfl
theorem uFK_s (z : Nat → Int32) (r k : Nat) : uFK z r (k + 1) = uFK z r k + if mF z k = r then (if mS z k = 3 then 0 else 1) else 0 := rfl
theorem uTK_s (z : Nat → Int32) (r k : Nat) : uTK z r (k + 1) = uTK z r k + if mT z k = r then (if mS z k = 3 then 0 else 1) else 0 := rfl
theorem ppK_s (b k : Nat) : ppK b (k + 1) = ppK b k + if b / 2 ^ k % 2 = 1 then 1 else 0 := rfl
theorem hcM_lt (z : Nat → Int32) {q n : Nat} (hq : q < n) : ∀ k b, b < 2 ^ n → hcM z q k b < 2 ^ n
  | 0, b, h => h
  | k + 1, b, h => by
    show hcM z q k b ||| _ < 2 ^ n
    refine Nat.or_lt_two_pow (hcM_lt z hq k b h) ?_
    split
    · exact Nat.pow_lt_pow_right (by decide) hq
    · exact Nat.two_pow_pos _
theorem hcK_lt (z : Nat → Int32) : ∀ k, k ≤ 48 → hcK z k < 2 ^ 48
  | 0, _ => by show 0 < 2 ^ 48; decide
  | k + 1, h => hcM_lt z (by omega) _ _ (hcK_lt z k (by omega))
theorem hcN_lt (z : Nat → Int32) : hcN z < 2 ^ 48 := hcK_lt z 48 (by omega)
theorem dpV_s (z : Nat → Int32) (t : Nat → Nat) (m k : Nat) : dpV z t m (k + 1) = if (if woN z m / 2 ^ k % 2 = 1 then t k + 1 else 0) ≤ dpV z t m k then dpV z t m k else (if woN z m / 2 ^ k % 2 = 1 then t k + 1 else 0) := rfl
theorem dpV_le (z : Nat → Int32) {t : Nat → Nat} {m n : Nat} : ∀ k, (∀ e, e < k → t e < n) → dpV z t m k ≤ n
  | 0, _ => Nat.zero_le n
  | k + 1, h => by
    rw [dpV_s]
    have ih := dpV_le (n := n) (m := m) z k (fun e he => h e (by omega))
    have := h k (by omega)
    have hX : (if woN z m / 2 ^ k % 2 = 1 then t k + 1 else 0) ≤ n := by split <;> omega
    generalize (if woN z m / 2 ^ k % 2 = 1 then t k + 1 else 0) = X at hX ⊢
    split
    · exact ih
    · exact hX
theorem dpT_le (z : Nat → Int32) : ∀ k j, dpT z k j ≤ j
  | 0, j => Nat.zero_le j
  | k + 1, j => by
    show (if j = k then dpV z (dpT z k) k k else dpT z k j) ≤ j
    split
    · rename_i h; subst h
      exact dpV_le z _ (fun e he => Nat.lt_of_le_of_lt (dpT_le z j e) he)
    · exact dpT_le z k j
def dzK (z : Nat → Int32) (k : Nat) : Nat → Int32 := fun j => if 4379 ≤ j ∧ j < 4379 + k then nI (dpT z k (j - 4379)) else z j
/-- inside a row: the k-th depth is being found, e of the earlier ones are seen -/
def dzE (z : Nat → Int32) (k e : Nat) : Nat → Int32 := fun j => if j = 4379 + k then nI (dpV z (dpT z k) k e) else dzK z k j
theorem dzK_0 (z : Nat → Int32) : dzK z 0 = z := by funext j; unfold dzK; rw [if_neg (by omega)]
theorem dzE_0 (z : Nat → Int32) (k : Nat) : upd (dzK z k) (4379 + k) (nI 0) = dzE z k 0 := rfl
theorem dzE_s (z : Nat → Int32) (k e : Nat) : upd (dzE z k e) (4379 + k) (nI (dpV z (dpT z k) k (e + 1))) = dzE z k (e + 1) := by
  funext j; rw [upd_at]; unfold dzE
  by_cases h : j = 4379 + k
  · rw [if_pos h, if_pos h]
  · rw [if_neg h, if_neg h, if_neg h]
theorem dzE_end (z : Nat → Int32) (k : Nat) : dzE z k k = dzK z (k + 1) := by
  funext j; unfold dzE dzK
  by_cases h : j = 4379 + k
  · rw [if_pos h, if_pos (by omega)]
    show _ = nI (if j - 4379 = k then dpV z (dpT z k) k k else dpT z k (j - 4379))
    rw [if_pos (by omega)]
  · rw [if_neg h]
    by_cases h2 : 4379 ≤ j ∧ j < 4379 + k
    · rw [if_pos h2, if_pos (by omega)]
      show _ = nI (if j - 4379 = k then dpV z (dpT z k) k k else dpT z k (j - 4379))
      rw [if_neg (by omega)]
    · rw [if_neg h2, if_neg (by omega)]
theorem dzE_lo (z : Nat → Int32) (k e : Nat) {j : Nat} (h : j < 4379) : dzE z k e j = z j := by unfold dzE dzK; rw [if_neg (by omega), if_neg (by omega)]
theorem dzK_lo (z : Nat → Int32) (k : Nat) {j : Nat} (h : j < 4379) : dzK z k j = z j := by unfold dzK; rw [if_neg (by omega)]
theorem dzE_in (z : Nat → Int32) {k e j : Nat} (h : j < k) : dzE z k e (4379 + j) = nI (dpT z k j) := by
  unfold dzE dzK; rw [if_neg (by omega), if_pos (by omega), show 4379 + j - 4379 = j by omega]
theorem dzE_at (z : Nat → Int32) (k e : Nat) : dzE z k e (4379 + k) = nI (dpV z (dpT z k) k e) := by unfold dzE; rw [if_pos rfl]
/-! longs that are naturals -/
theorem lN_bit : ∀ k, k < 63 → lN 1 <<< ((nI k).toInt64 &&& 63) = lN (2 ^ k) := by decide +kernel
theorem lN_sm : ∀ k, k < 63 → (((nI k).toInt64 &&& 63).toBitVec.smod 64).toNat = k := by decide +kernel
theorem lN_or (a b : Nat) : lN a ||| lN b = lN (a ||| b) := by
  apply Int64.toBitVec_inj.1
  show BitVec.ofNat 64 a ||| BitVec.ofNat 64 b = BitVec.ofNat 64 (a ||| b)
  apply BitVec.eq_of_getLsbD_eq
  intro i hi
  simp [hi]
theorem lN_and (a b : Nat) : lN a &&& lN b = lN (a &&& b) := by
  apply Int64.toBitVec_inj.1
  show BitVec.ofNat 64 a &&& BitVec.ofNat 64 b = BitVec.ofNat 64 (a &&& b)
  apply BitVec.eq_of_getLsbD_eq
  intro i hi
  simp [hi]
theorem lN_shr {a d : Nat} {D : Int64} (hD : (D.toBitVec.smod 64).toNat = d) (h : a < 2 ^ 62) : lN a >>> D = lN (a / 2 ^ d) := by
  have hd : a / 2 ^ d ≤ a := Nat.div_le_self _ _
  apply Int64.toInt_inj.mp
  have e : (lN a >>> D).toInt = (lN a).toInt >>> d := by
    rw [← hD]
    exact BitVec.toInt_sshiftRight ..
  rw [e, Int.shiftRight_eq_div_pow, pk_lT (by omega), pk_lT (by omega)]
  rfl
theorem lg_cmp0 (x y : Int64) : lg_cmp x y = 0 ↔ x = y := by
  unfold lg_cmp
  by_cases h : x = y
  · subst h
    have : ¬ x > x := by rw [gt_iff_lt, Int64.lt_iff_toInt_lt]; omega
    rw [if_neg this, if_pos rfl]; simp
  · split
    · simp [h]
    · simp [h]
section KL
variable {p : Program} {l : Launch} {e : Env} {R : Room} {s : State} {m : MethodId} {args : Array Value} {below : List Frame} {meth : Method} {c : Code} {H : Heap} {locs : List Loc} {cells slots : Nat} {Q : State → Prop} {cc : ByteArray} {pc : Nat} {ls : Array Slot} {rest : List Value}
theorem kl_or (hexec : p.tables.exec = Jvm.exec) (hb : c.code = cc) {i j : Nat} (hdg : decode cc pc = .ok (.lor, 1)) (k : W p l e R s m args below meth c H locs cells slots Q (F0 m (pc + 1) ls (.long (lN (i ||| j)) :: rest))) : W p l e R s m args below meth c H locs cells slots Q (F0 m pc ls (.long (lN j) :: .long (lN i) :: rest)) := lv_lor hexec hb hdg (by rw [lN_or]; exact k)
theorem kl_and (hexec : p.tables.exec = Jvm.exec) (hb : c.code = cc) {i j : Nat} (hdg : decode cc pc = .ok (.land, 1)) (k : W p l e R s m args below meth c H locs cells slots Q (F0 m (pc + 1) ls (.long (lN (i &&& j)) :: rest))) : W p l e R s m args below meth c H locs cells slots Q (F0 m pc ls (.long (lN j) :: .long (lN i) :: rest)) := lv_land hexec hb hdg (by rw [lN_and]; exact k)
theorem kl_bit (hexec : p.tables.exec = Jvm.exec) (hb : c.code = cc) {j : Nat} (hj : j < 63) (hdg : decode cc pc = .ok (.lshl, 1)) (k : W p l e R s m args below meth c H locs cells slots Q (F0 m (pc + 1) ls (.long (lN (2 ^ j)) :: rest))) : W p l e R s m args below meth c H locs cells slots Q (F0 m pc ls (.int (nI j) :: .long (lN 1) :: rest)) := lv_lshl hexec hb hdg (lN_bit j hj) k
theorem kl_shr (hexec : p.tables.exec = Jvm.exec) (hb : c.code = cc) {i j : Nat} (hi : i < 2 ^ 62) (hj : j < 63) (hdg : decode cc pc = .ok (.lshr, 1)) (k : W p l e R s m args below meth c H locs cells slots Q (F0 m (pc + 1) ls (.long (lN (i / 2 ^ j)) :: rest))) : W p l e R s m args below meth c H locs cells slots Q (F0 m pc ls (.int (nI j) :: .long (lN i) :: rest)) := lv_lshr hexec hb hdg (lN_shr (lN_sm j hj) hi) k
theorem kl_if_ne (hexec : p.tables.exec = Jvm.exec) (hb : c.code = cc) {x y : Int64} {off : Int} {tgt : Nat} (hdg : decode cc pc = .ok (.ifCond .ne off, 3)) (ht : (pc : Int) + off = (tgt : Int)) (kt : ¬ x = y → W p l e R s m args below meth c H locs cells slots Q (F0 m tgt ls rest)) (kf : x = y → W p l e R s m args below meth c H locs cells slots Q (F0 m (pc + 3) ls rest)) : W p l e R s m args below meth c H locs cells slots Q (F0 m pc ls (.int (lg_cmp x y) :: rest)) := lv_if_ne hexec hb hdg ht (fun h => kt (fun h' => h ((lg_cmp0 x y).mpr h'))) (fun h => kf ((lg_cmp0 x y).mp h))
theorem kl_if_eq (hexec : p.tables.exec = Jvm.exec) (hb : c.code = cc) {x y : Int64} {off : Int} {tgt : Nat} (hdg : decode cc pc = .ok (.ifCond .eq off, 3)) (ht : (pc : Int) + off = (tgt : Int)) (kt : x = y → W p l e R s m args below meth c H locs cells slots Q (F0 m tgt ls rest)) (kf : ¬ x = y → W p l e R s m args below meth c H locs cells slots Q (F0 m (pc + 3) ls rest)) : W p l e R s m args below meth c H locs cells slots Q (F0 m pc ls (.int (lg_cmp x y) :: rest)) := lv_if_eq hexec hb hdg ht (fun h => kt ((lg_cmp0 x y).mp h)) (fun h => kf (fun h' => h ((lg_cmp0 x y).mpr h')))
end KL
theorem dz_ret (z : Nat → Int32) (m : Nat) : dzK z (m + 1) (4379 + m) = nI (dpN z m) := by
  unfold dzK; rw [if_pos (by omega), show 4379 + m - 4379 = m by omega]; rfl
theorem svA_v (z : Nat → Int32) {v : Nat} (hv : z 4404 = nI v) : svA z v 4404 = nI (svV v) := by
  unfold svA svV
  by_cases h : v = 4
  · rw [if_pos h, if_pos h, upd_at, if_pos rfl]
  · rw [if_neg h, if_neg h, hv]
theorem cell_of {x : Int32} (h : wiB x (nI 0) (nI 47) = true) : ∃ q, q < 48 ∧ x = nI q := by
  have := (lsB_iff (x := x) (n := 48) (by decide)).mp h
  exact this
