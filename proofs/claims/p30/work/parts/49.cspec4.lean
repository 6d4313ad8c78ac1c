/-! sweeping, finishing, depths -/
/-! all moves at once -/
/-- alike but for number 5 and for moves below k -/
def FR (k : Nat) (a b : Nat → Int32) : Prop := (∀ j, j < 56 → j ≠ 5 → a j = b j) ∧ (∀ r pt, r < 6 → pt < 4 → a (56 + 4 * r + pt) = b (56 + 4 * r + pt)) ∧ ∀ m, k ≤ m → m < 24 → (∀ pt, pt < 10 → a (80 + 10 * m + pt) = b (80 + 10 * m + pt)) ∧ ∀ i, i < 16 → a (320 + 16 * m + i) = b (320 + 16 * m + i)
theorem FR.src {k : Nat} {a b : Nat → Int32} (h : FR k a b) (hI : Inv b) {m : Nat} (hk : k ≤ m) (hm : m < Mn b) (i : Nat) : srcC a m i = srcC b m i := by
  have h24 := hI.M24; have h6 := hI.R6; have hf := hI.mf hm
  have q := (h.2.2 m hk (by omega)).1
  have e0 : mF a m = mF b m := acc_eq _ (q 0 (by omega))
  have e1 : mA a m = mA b m := acc_eq _ (q 1 (by omega))
  have r0 : rF a (mF b m) = rF b (mF b m) := acc_eq _ (h.2.1 _ 0 (by omega) (by omega))
  have r1 : rL a (mF b m) = rL b (mF b m) := acc_eq _ (h.2.1 _ 1 (by omega) (by omega))
  unfold srcC; rw [e0, e1, r0, r1]
theorem FR.tgt {k : Nat} {a b : Nat → Int32} (h : FR k a b) (hI : Inv b) {m : Nat} (hk : k ≤ m) (hm : m < Mn b) (i : Nat) : tgtC a m i = tgtC b m i := by
  have h24 := hI.M24; have h6 := hI.R6; have hf := hI.mt hm
  have q := (h.2.2 m hk (by omega)).1
  have e0 : mT a m = mT b m := acc_eq _ (q 2 (by omega))
  have e1 : mB a m = mB b m := acc_eq _ (q 3 (by omega))
  have r0 : rF a (mT b m) = rF b (mT b m) := acc_eq _ (h.2.1 _ 0 (by omega) (by omega))
  have r1 : rL a (mT b m) = rL b (mT b m) := acc_eq _ (h.2.1 _ 1 (by omega) (by omega))
  unfold tgtC; rw [e0, e1, r0, r1]
theorem FR.wr {k : Nat} {a b : Nat → Int32} (h : FR k a b) (hI : Inv b) (hk : k < Mn b) (t : Nat) {j : Nat} (hj : j < 56) (h5 : j ≠ 5) : ∀ n, t + n ≤ mC b k → wrK a k t n j = wrK b k t n j
  | 0, _ => h.1 j hj h5
  | n + 1, hn => by
    have h24 := hI.M24
    have hc := hI.c16 hk
    show upd (wrK a k t n) (8 + tgtC a k (t + n)) (a (320 + 16 * k + (t + n))) j = upd (wrK b k t n) (8 + tgtC b k (t + n)) (b (320 + 16 * k + (t + n))) j
    rw [upd_at, upd_at, h.tgt hI (Nat.le_refl k) hk, (h.2.2 k (Nat.le_refl k) (by omega)).2 (t + n) (by omega), FR.wr h hI hk t hj h5 n (by omega)]
/-! depths -/
def dcK (e : Nat → Int32) (k : Nat) : Nat → Int32 := fun j => if 704 ≤ j ∧ j < 704 + k then nI (dpT e k (j - 704)) else e j
theorem dcK_0 (e : Nat → Int32) : dcK e 0 = e := by funext j; unfold dcK; rw [if_neg (by omega)]
theorem dcK_lo (e : Nat → Int32) (k : Nat) {j : Nat} (h : j < 704) : dcK e k j = e j := by unfold dcK; rw [if_neg (by omega)]
theorem dcK_in (e : Nat → Int32) {k j : Nat} (h : j < k) : dcK e k (704 + j) = nI (dpT e k j) := by
  unfold dcK; rw [if_pos (by omega), show 704 + j - 704 = j by omega]
theorem dcK_s (e : Nat → Int32) (k : Nat) : upd (dcK e k) (704 + k) (nI (dpV e (dpT e k) k k)) = dcK e (k + 1) := by
  funext j; rw [upd_at]; unfold dcK
  by_cases h : j = 704 + k
  · rw [if_pos h, if_pos (by omega)]
    show _ = nI (if j - 704 = k then dpV e (dpT e k) k k else dpT e k (j - 704))
    rw [if_pos (by omega)]
  · rw [if_neg h]
    by_cases h2 : 704 ≤ j ∧ j < 704 + k
    · rw [if_pos h2, if_pos (by omega)]
      show _ = nI (if j - 704 = k then dpV e (dpT e k) k k else dpT e k (j - 704))
      rw [if_neg (by omega)]
    · rw [if_neg h2, if_neg (by omega)]
theorem dc_ei {e : Nat → Int32} (hI : Inv e) (k : Nat) : EI e (dcK e k) := ⟨Eqv.of_eq hI (fun j hj => dcK_lo e k hj), hI⟩
theorem dp_bit (a x : Nat) : (¬ a &&& 2 ^ x = 0) ↔ a / 2 ^ x % 2 = 1 := by
  rw [and_bit, Nat.testBit_eq_decide_div_mod_eq]; simp
theorem dpV_max (z : Nat → Int32) (t : Nat → Nat) (m k : Nat) : dpV z t m (k + 1) = if ¬ woN z m &&& 2 ^ k = 0 then max (dpV z t m k) (1 + t k) else dpV z t m k := by
  rw [dpV_s]
  by_cases h : woN z m / 2 ^ k % 2 = 1
  · rw [if_pos h, if_pos ((dp_bit _ _).mpr h), Nat.add_comm (t k) 1]
    rcases Nat.le_total (1 + t k) (dpV z t m k) with q | q
    · rw [if_pos q, Nat.max_eq_left q]
    · rw [Nat.max_eq_right q]; split
      · omega
      · rfl
  · rw [if_neg h, if_neg (fun q => h ((dp_bit _ _).mp q)), if_pos (Nat.zero_le _)]
theorem cy5_si {y : Nat → Int32} (hI : Inv y) {k : Nat} (hk : k ≤ Mn y) : SI y (cy5 y k) := by
  have h := cyK_si hI k hk
  have h2 : Stay (cyK y k) (cy5 y k) := by
    unfold cy5
    refine ⟨?_, ?_, ?_, fun r pt _ _ => ?_, fun k pt _ _ => ?_⟩ <;> rw [upd_at, if_neg (by omega)]
  exact h.tr ⟨h2, h2.inv0 h.2 (fun k _ => by unfold cy5; rw [upd_at, if_neg (by omega)]) (fun k _ => by unfold cy5; rw [upd_at, if_neg (by omega)])⟩
