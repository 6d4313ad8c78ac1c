/-! sets of cells as bits -/
theorem rdB_iff {z : Nat → Int32} {m x : Nat} : rdB z m x = true ↔ ∃ i, i < mC z m ∧ srcC z m i = x := by unfold rdB; rw [anyN_iff]; simp
theorem wrB_iff {z : Nat → Int32} {m x : Nat} : wrB z m x = true ↔ ∃ i, i < mC z m ∧ tgtC z m i = x := by unfold wrB; rw [anyN_iff]; simp
theorem csK_s (z : Nat → Int32) (t : Bool) (m k : Nat) : csK z t m (k + 1) = csK z t m k ||| 2 ^ (if t = true then tgtC z m k else srcC z m k) := rfl
theorem csK_0 (z : Nat → Int32) (t : Bool) (m : Nat) : csK z t m 0 = 0 := rfl
theorem csK_bit (z : Nat → Int32) (t : Bool) (m x : Nat) : ∀ k, (csK z t m k).testBit x = anyN k (fun i => decide ((if t = true then tgtC z m i else srcC z m i) = x))
  | 0 => by rw [csK_0, Nat.zero_testBit]; rfl
  | k + 1 => by rw [csK_s, Nat.testBit_or, csK_bit z t m x k, Nat.testBit_two_pow, anyN_s]
theorem csN_src (z : Nat → Int32) (m x : Nat) : (csN z false m).testBit x = rdB z m x := by
  unfold csN rdB; rw [csK_bit]; exact anyN_cong (fun k _ => by rw [if_neg (by decide)])
theorem csN_tgt (z : Nat → Int32) (m x : Nat) : (csN z true m).testBit x = wrB z m x := by
  unfold csN wrB; rw [csK_bit]; exact anyN_cong (fun k _ => by rw [if_pos rfl])
theorem csK_lt {z : Nat → Int32} (hI : Inv z) {m : Nat} (hm : m < Mn z) (t : Bool) : ∀ k, csK z t m k < 2 ^ 48
  | 0 => by rw [csK_0]; decide
  | k + 1 => by
    rw [csK_s]
    refine Nat.or_lt_two_pow (csK_lt hI hm t k) (Nat.pow_lt_pow_right (by decide) ?_)
    have h1 := hI.src48 hm k
    have h2 := hI.tgt48 hm k
    split
    · exact h2
    · exact h1
theorem csN_lt {z : Nat → Int32} (hI : Inv z) {m : Nat} (hm : m < Mn z) (t : Bool) : csN z t m < 2 ^ 48 := csK_lt hI hm t _
theorem and_ne {a b : Nat} : ¬ a &&& b = 0 ↔ ∃ x, a.testBit x = true ∧ b.testBit x = true := by
  constructor
  · intro h
    refine Classical.byContradiction fun hn => h (Nat.eq_of_testBit_eq fun i => ?_)
    rw [Nat.testBit_and, Nat.zero_testBit]
    cases ha : a.testBit i with
    | false => rfl
    | true =>
      cases hb : b.testBit i with
      | false => rfl
      | true => exact absurd ⟨i, ha, hb⟩ hn
  · rintro ⟨x, h1, h2⟩ e
    have h := congrArg (fun n => n.testBit x) e
    simp [Nat.testBit_and, h1, h2] at h
theorem and_bit {a x : Nat} : ¬ a &&& 2 ^ x = 0 ↔ a.testBit x = true := by
  rw [and_ne]
  constructor
  · rintro ⟨y, h1, h2⟩
    rw [Nat.testBit_two_pow] at h2
    have e : x = y := by simpa using h2
    rw [e]; exact h1
  · intro h
    exact ⟨x, h, by rw [Nat.testBit_two_pow]; simp⟩
def wmB (z : Nat → Int32) (l e : Nat) : Bool := (!decide (mS z e = 3) && !decide (csN z false e &&& csN z true l = 0)) || (decide (mS z e ≤ 1) && !decide (csN z true e &&& (csN z false l ||| csN z true l) = 0))
theorem wmB_is {z : Nat → Int32} {l e : Nat} (h3 : mS z e ≤ 3) : wmB z l e = waB z l e := by
  have b1 : (!decide (csN z false e &&& csN z true l = 0)) = true ↔ ∃ i, i < mC z e ∧ wrB z l (srcC z e i) = true := by
    rw [Bool.not_eq_true', decide_eq_false_iff_not, and_ne]
    constructor
    · rintro ⟨x, h1, h2⟩
      rw [csN_src, rdB_iff] at h1
      rw [csN_tgt] at h2
      obtain ⟨i, hi, q⟩ := h1
      exact ⟨i, hi, by rw [q]; exact h2⟩
    · rintro ⟨i, hi, h2⟩
      exact ⟨srcC z e i, by rw [csN_src, rdB_iff]; exact ⟨i, hi, rfl⟩, by rw [csN_tgt]; exact h2⟩
  have b2 : (!decide (csN z true e &&& (csN z false l ||| csN z true l) = 0)) = true ↔ ∃ i, i < mC z e ∧ (rdB z l (tgtC z e i) || wrB z l (tgtC z e i)) = true := by
    rw [Bool.not_eq_true', decide_eq_false_iff_not, and_ne]
    constructor
    · rintro ⟨x, h1, h2⟩
      rw [csN_tgt, wrB_iff] at h1
      rw [Nat.testBit_or, csN_tgt, csN_src] at h2
      obtain ⟨i, hi, q⟩ := h1
      exact ⟨i, hi, by rw [q]; exact h2⟩
    · rintro ⟨i, hi, h2⟩
      exact ⟨tgtC z e i, by rw [csN_tgt, wrB_iff]; exact ⟨i, hi, rfl⟩, by rw [Nat.testBit_or, csN_src, csN_tgt]; exact h2⟩
  rw [Bool.eq_iff_iff]
  unfold wmB waB
  by_cases q3 : mS z e = 3
  · rw [if_pos q3, q3]; simp
  · rw [if_neg q3, Bool.or_eq_true, Bool.and_eq_true, Bool.and_eq_true, b1, b2]
    unfold waK
    rw [anyN_iff]
    constructor
    · rintro (⟨-, i, hi, h⟩ | ⟨hs, i, hi, h⟩)
      · exact ⟨i, hi, by rw [h]; rfl⟩
      · have hs' : mS z e ≤ 1 := by simpa using hs
        have h2 : decide (mS z e ≠ 2) = true := by simp; omega
        exact ⟨i, hi, by rw [h2, h]; simp⟩
    · rintro ⟨i, hi, h⟩
      rw [Bool.or_eq_true, Bool.and_eq_true] at h
      rcases h with h | ⟨h2, h⟩
      · exact Or.inl ⟨by simp [q3], i, hi, h⟩
      · exact Or.inr ⟨by have h2' : mS z e ≠ 2 := by simpa using h2
                         simp; omega, i, hi, h⟩
def hpB (z : Nat → Int32) (m : Nat) : Bool := decide (mS z m = 1) || decide (mS z m = 2)
def hdK (z : Nat → Int32) (k : Nat) : Nat := foldN k (fun m b => if hpB z m = true then b ||| csN z false m else b) 0
def hdN (z : Nat → Int32) : Nat := hdK z (Mn z)
theorem hdK_s (z : Nat → Int32) (k : Nat) : hdK z (k + 1) = if hpB z k = true then hdK z k ||| csN z false k else hdK z k := rfl
theorem hdK_bit (z : Nat → Int32) (x : Nat) : ∀ k, (hdK z k).testBit x = anyN k (fun m => hoB z m x)
  | 0 => by show (0 : Nat).testBit x = false; exact Nat.zero_testBit x
  | k + 1 => by
    have ho : hoB z k x = (hpB z k && rdB z k x) := rfl
    rw [hdK_s, anyN_s, ← hdK_bit z x k, ho]
    cases hp : hpB z k with
    | false => rw [if_neg (by decide)]; simp
    | true => rw [if_pos rfl, Nat.testBit_or, csN_src]; rfl
theorem hcM_bit (z : Nat → Int32) (q x : Nat) : ∀ k b, (hcM z q k b).testBit x = (b.testBit x || (decide (q = x) && anyN k (fun m => hoB z m q)))
  | 0, b => by show b.testBit x = _; simp [anyN]
  | k + 1, b => by
    show (hcM z q k b ||| (if hoB z k q = true then 2 ^ q else 0)).testBit x = _
    rw [Nat.testBit_or, hcM_bit z q x k b, anyN_s]
    cases hoB z k q with
    | false => rw [if_neg (by decide), Nat.zero_testBit]; simp
    | true => rw [if_pos rfl, Nat.testBit_two_pow]; cases b.testBit x <;> cases decide (q = x) <;> simp
theorem hcK_bit (z : Nat → Int32) (x : Nat) : ∀ k, (hcK z k).testBit x = (decide (x < k) && anyN (Mn z) (fun m => hoB z m x))
  | 0 => by show (0 : Nat).testBit x = _; rw [Nat.zero_testBit]; simp
  | k + 1 => by
    show (hcM z k (Mn z) (hcK z k)).testBit x = _
    rw [hcM_bit, hcK_bit z x k]
    by_cases e : k = x
    · subst e; simp
    · have h1 : decide (k = x) = false := by simp [e]
      have h2 : decide (x < k + 1) = decide (x < k) := by
        by_cases q : x < k
        · simp [q]; omega
        · simp [q]; omega
      rw [h1, h2]; simp
theorem hdN_is {z : Nat → Int32} (hI : Inv z) : hdN z = hcN z := by
  refine Nat.eq_of_testBit_eq fun x => ?_
  unfold hdN hcN
  rw [hdK_bit, hcK_bit]
  by_cases h : x < 48
  · simp [h]
  · rw [show decide (x < 48) = false by simp [h], Bool.false_and]
    refine anyN_false (fun m hm => ?_)
    cases q : hoB z m x with
    | false => rfl
    | true =>
      unfold hoB at q
      rw [Bool.and_eq_true, rdB_iff] at q
      obtain ⟨-, i, -, q⟩ := q
      have := hI.src48 hm i
      omega
def awK (z : Nat → Int32) (k : Nat) : Nat := foldN k (fun m b => if mS z m = 0 then b ||| (csN z false m ||| csN z true m) else b) 0
def owK (z : Nat → Int32) (k : Nat) : Nat := foldN k (fun m b => if mS z m = 1 then b ||| csN z true m else b) 0
theorem awK_s (z : Nat → Int32) (k : Nat) : awK z (k + 1) = if mS z k = 0 then awK z k ||| (csN z false k ||| csN z true k) else awK z k := rfl
theorem owK_s (z : Nat → Int32) (k : Nat) : owK z (k + 1) = if mS z k = 1 then owK z k ||| csN z true k else owK z k := rfl
theorem awK_bit (z : Nat → Int32) (x : Nat) : ∀ k, (awK z k).testBit x = anyN k (fun m => decide (mS z m = 0) && (rdB z m x || wrB z m x))
  | 0 => by show (0 : Nat).testBit x = false; exact Nat.zero_testBit x
  | k + 1 => by
    rw [awK_s, anyN_s, ← awK_bit z x k]
    by_cases h : mS z k = 0
    · rw [if_pos h, Nat.testBit_or, Nat.testBit_or, csN_src, csN_tgt]; simp [h]
    · rw [if_neg h]; simp [h]
theorem owK_bit (z : Nat → Int32) (x : Nat) : ∀ k, (owK z k).testBit x = anyN k (fun m => decide (mS z m = 1) && wrB z m x)
  | 0 => by show (0 : Nat).testBit x = false; exact Nat.zero_testBit x
  | k + 1 => by
    rw [owK_s, anyN_s, ← owK_bit z x k]
    by_cases h : mS z k = 1
    · rw [if_pos h, Nat.testBit_or, csN_tgt]; simp [h]
    · rw [if_neg h]; simp [h]
def pick (a b c : Bool) : Nat := if a = true then 1 else if b = true then 2 else if c = true then 3 else 4
theorem pick_min : ∀ a b c a' b' c' : Bool, (if pick a' b' c' < pick a b c then pick a' b' c' else pick a b c) = pick (a || a') (b || b') (c || c') := by decide
theorem rsM_pick (z : Nat → Int32) (m x : Nat) : rsM z m x = pick (hoB z m x) (decide (mS z m = 0) && (rdB z m x || wrB z m x)) (decide (mS z m = 1) && wrB z m x) := by
  unfold rsM pick
  cases hoB z m x <;> cases hr : (rdB z m x || wrB z m x) <;> cases hw : wrB z m x <;> by_cases h0 : mS z m = 0 <;> by_cases h1 : mS z m = 1 <;> simp [h0, h1]
theorem rsK_pick (z : Nat → Int32) (x : Nat) : ∀ k, rsK z x k = pick (anyN k (fun m => hoB z m x)) (anyN k (fun m => decide (mS z m = 0) && (rdB z m x || wrB z m x))) (anyN k (fun m => decide (mS z m = 1) && wrB z m x))
  | 0 => rfl
  | k + 1 => by rw [rsK_s, rsK_pick z x k, rsM_pick, pick_min, anyN_s, anyN_s, anyN_s]
def barN (z : Nat → Int32) (x : Nat) : Nat := if ¬ hdN z &&& 2 ^ x = 0 then 1 else if ¬ awK z (Mn z) &&& 2 ^ x = 0 then 2 else if ¬ owK z (Mn z) &&& 2 ^ x = 0 then 3 else 0
theorem barN_is (z : Nat → Int32) (x : Nat) : barN z x = rsC z x := by
  unfold barN rsC
  rw [rsK_pick]
  simp only [and_bit]
  unfold hdN
  rw [hdK_bit, awK_bit, owK_bit]
  unfold pick
  split
  · rfl
  · split
    · rfl
    · split <;> rfl
/-- the masks of the moves are right -/
def Msk (e : Nat → Int32) (g : Nat → Int64) : Prop := ∀ m, m < Mn e → g (2 * m) = lN (csN e false m) ∧ g (2 * m + 1) = lN (csN e true m)
theorem cs_stay {z z' : Nat → Int32} (h : Stay z z') (hI : Inv z) {m : Nat} (hm : m < Mn z) (t : Bool) : csN z' t m = csN z t m := by
  have h24 := hI.M24
  unfold csN csK
  rw [h.c (by omega)]
  exact foldN_cong _ (fun i b _ => by rw [h.tgt hI hm, h.src hI hm])
theorem Msk.stay {e e' : Nat → Int32} {g : Nat → Int64} (h : Msk e g) (hI : Inv e) (hs : Stay e e') : Msk e' g := fun m hm => by
  rw [hs.M] at hm
  rw [cs_stay hs hI hm, cs_stay hs hI hm]; exact h m hm
theorem lN_inj {a b : Nat} (ha : a < 2 ^ 62) (hb : b < 2 ^ 62) : lN a = lN b ↔ a = b := by
  refine ⟨fun h => ?_, fun h => by rw [h]⟩
  have h2 := congrArg Int64.toInt h
  rw [pk_lT (by omega), pk_lT (by omega)] at h2
  omega
theorem aw_lt {z : Nat → Int32} (hI : Inv z) : ∀ k, k ≤ Mn z → awK z k < 2 ^ 48 ∧ owK z k < 2 ^ 48 ∧ hdK z k < 2 ^ 48
  | 0, _ => by refine ⟨?_, ?_, ?_⟩ <;> (show 0 < 2 ^ 48; decide)
  | k + 1, h => by
    have ih := aw_lt hI k (by omega)
    have h1 := csN_lt hI (m := k) (by omega) false
    have h2 := csN_lt hI (m := k) (by omega) true
    rw [awK_s, owK_s, hdK_s]
    refine ⟨?_, ?_, ?_⟩
    · split
      · exact Nat.or_lt_two_pow ih.1 (Nat.or_lt_two_pow h1 h2)
      · exact ih.1
    · split
      · exact Nat.or_lt_two_pow ih.2.1 h2
      · exact ih.2.1
    · split
      · exact Nat.or_lt_two_pow ih.2.2 h1
      · exact ih.2.2
