/-! small words of the law's helpers -/
def mskN (v : Int32) : Nat := (v.toBitVec &&& (nI 2147483647).toBitVec).toNat
theorem msk_lt (v : Int32) : mskN v < 2 ^ 31 := by
  unfold mskN
  rw [BitVec.toNat_and, show (nI 2147483647).toBitVec.toNat = 2147483647 by decide]
  exact Nat.lt_succ_of_le Nat.and_le_right
theorem msk_is (v : Int32) : v &&& 2147483647 = nI (mskN v) := by
  apply Int32.toBitVec_inj.mp
  show v.toBitVec &&& (nI 2147483647).toBitVec = BitVec.ofNat 32 (v.toBitVec &&& (nI 2147483647).toBitVec).toNat
  rw [BitVec.ofNat_toNat, BitVec.setWidth_eq]
def lowN (v : Int32) (k : Nat) : Nat := mskN v % k
theorem lowN_lt (v : Int32) {k : Nat} (h : 0 < k) : lowN v k < k := Nat.mod_lt _ h
theorem rsM_pos (z : Nat → Int32) (m x : Nat) : 1 ≤ rsM z m x := by unfold rsM; repeat (first | omega | split)
theorem rsK_pos (z : Nat → Int32) (x : Nat) : ∀ k, 1 ≤ rsK z x k
  | 0 => by show 1 ≤ 4; omega
  | k + 1 => by rw [rsK_s]; have h1 := rsM_pos z k x; have h2 := rsK_pos z x k; split <;> omega
theorem bit_iff (a x : Nat) : a / 2 ^ x &&& 1 = 1 ↔ a.testBit x = true := by
  rw [Nat.and_one_is_mod, Nat.testBit_eq_decide_div_mod_eq]; simp
theorem bit_src {z : Nat → Int32} {k x : Nat} (h : csN z false k / 2 ^ x &&& 1 = 1) : nI 1 = bI (rdB z k x) := by
  rw [bit_iff, csN_src] at h; rw [h]; rfl
theorem bit_srcN {z : Nat → Int32} {k x : Nat} (h : ¬ csN z false k / 2 ^ x &&& 1 = 1) : nI 0 = bI (rdB z k x) := by
  rw [bit_iff, csN_src] at h; rw [Bool.not_eq_true] at h; rw [h]; rfl
theorem bit_tgt {z : Nat → Int32} {k x : Nat} (h : csN z true k / 2 ^ x &&& 1 = 1) : nI 1 = bI (wrB z k x) := by
  rw [bit_iff, csN_tgt] at h; rw [h]; rfl
theorem bit_tgtN {z : Nat → Int32} {k x : Nat} (h : ¬ csN z true k / 2 ^ x &&& 1 = 1) : nI 0 = bI (wrB z k x) := by
  rw [bit_iff, csN_tgt] at h; rw [Bool.not_eq_true] at h; rw [h]; rfl
