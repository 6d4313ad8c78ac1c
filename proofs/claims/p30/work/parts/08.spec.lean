/-! what the methods answer, in plain words over the row of numbers -/
def foldN {α : Type} : Nat → (Nat → α → α) → α → α
  | 0, _, a => a
  | n + 1, g, a => g n (foldN n g a)
theorem foldN_s {α : Type} (n : Nat) (g : Nat → α → α) (a : α) : foldN (n + 1) g a = g n (foldN n g a) := rfl
theorem foldN_inv {α : Type} {P : α → Prop} {g : Nat → α → α} {a : α} : ∀ (n : Nat), P a → (∀ k x, k < n → P x → P (g k x)) → P (foldN n g a)
  | 0, h, _ => h
  | n + 1, h, hs => hs n _ (Nat.lt_succ_self n) (foldN_inv n h (fun k x hk => hs k x (Nat.lt_succ_of_lt hk)))
theorem foldN_rel {α β : Type} {P : α → β → Prop} {g : Nat → α → α} {g' : Nat → β → β} {a : α} {b : β} : ∀ (n : Nat), P a b → (∀ k x y, k < n → P x y → P (g k x) (g' k y)) → P (foldN n g a) (foldN n g' b)
  | 0, h, _ => h
  | n + 1, h, hs => hs n _ _ (Nat.lt_succ_self n) (foldN_rel n h (fun k x y hk => hs k x y (Nat.lt_succ_of_lt hk)))
theorem foldN_cong {α : Type} {g g' : Nat → α → α} {a : α} : ∀ (n : Nat), (∀ k x, k < n → g k x = g' k x) → foldN n g a = foldN n g' a
  | 0, _ => rfl
  | n + 1, h => by rw [foldN_s, foldN_s, foldN_cong n (fun k x hk => h k x (Nat.lt_succ_of_lt hk)), h n _ (Nat.lt_succ_self n)]
def anyN : Nat → (Nat → Bool) → Bool
  | 0, _ => false
  | n + 1, p => anyN n p || p n
theorem anyN_s (n : Nat) (p : Nat → Bool) : anyN (n + 1) p = (anyN n p || p n) := rfl
theorem anyN_iff {p : Nat → Bool} : ∀ {n : Nat}, anyN n p = true ↔ ∃ k, k < n ∧ p k = true
  | 0 => ⟨fun h => (nomatch h), fun ⟨k, h, _⟩ => absurd h (Nat.not_lt_zero k)⟩
  | n + 1 => by
    rw [anyN_s, Bool.or_eq_true, anyN_iff]
    constructor
    · rintro (⟨k, h1, h2⟩ | h)
      · exact ⟨k, Nat.lt_succ_of_lt h1, h2⟩
      · exact ⟨n, Nat.lt_succ_self n, h⟩
    · rintro ⟨k, h1, h2⟩
      rcases Nat.lt_succ_iff_lt_or_eq.mp h1 with h | h
      · exact Or.inl ⟨k, h, h2⟩
      · subst h; exact Or.inr h2
theorem anyN_cong {p q : Nat → Bool} : ∀ {n : Nat}, (∀ k, k < n → p k = q k) → anyN n p = anyN n q
  | 0, _ => rfl
  | n + 1, h => by rw [anyN_s, anyN_s, anyN_cong (fun k hk => h k (Nat.lt_succ_of_lt hk)), h n (Nat.lt_succ_self n)]
theorem anyN_false {p : Nat → Bool} {n : Nat} (h : ∀ k, k < n → p k = false) : anyN n p = false := by
  cases e : anyN n p with
  | false => rfl
  | true => obtain ⟨k, h1, h2⟩ := anyN_iff.mp e; rw [h k h1] at h2; cases h2
def firstN : Nat → (Nat → Bool) → Nat
  | 0, _ => 0
  | n + 1, p => if firstN n p < n then firstN n p else if p n = true then n else n + 1
theorem firstN_le (p : Nat → Bool) : ∀ n, firstN n p ≤ n
  | 0 => Nat.le_refl 0
  | n + 1 => by
    have h := firstN_le p n
    unfold firstN
    split
    · omega
    · split <;> omega
theorem firstN_no (p : Nat → Bool) : ∀ (n k : Nat), k < firstN n p → p k = false
  | 0, k, h => absurd h (Nat.not_lt_zero k)
  | n + 1, k, h => by
    have ih := firstN_no p n
    have hl := firstN_le p n
    unfold firstN at h
    split at h
    · exact ih k h
    · rename_i h1
      have e : firstN n p = n := by omega
      rw [e] at ih
      split at h
      · exact ih k h
      · rename_i h2
        by_cases hk : k < n
        · exact ih k hk
        · have : k = n := by omega
          subst this; simpa using h2
theorem firstN_yes (p : Nat → Bool) : ∀ (n : Nat), firstN n p < n → p (firstN n p) = true
  | 0, h => absurd h (Nat.not_lt_zero _)
  | n + 1, h => by
    have ih := firstN_yes p n
    unfold firstN at h ⊢
    split at h
    · rename_i h1; rw [if_pos h1]; exact ih h1
    · rename_i h1
      split at h
      · rename_i h2; rw [if_neg h1, if_pos h2]; exact h2
      · omega
theorem firstN_is {p : Nat → Bool} {n k : Nat} (h1 : ∀ j, j < k → p j = false) (h2 : k < n) (h3 : p k = true) : firstN n p = k := by
  rcases Nat.lt_trichotomy (firstN n p) k with h | h | h
  · have := firstN_yes p n (by omega); rw [h1 _ h] at this; cases this
  · exact h
  · have := firstN_no p n k h; rw [h3] at this; cases this
theorem firstN_none {p : Nat → Bool} {n : Nat} (h1 : ∀ j, j < n → p j = false) : firstN n p = n := by
  have := firstN_le p n
  rcases Nat.lt_or_ge (firstN n p) n with h | h
  · have := firstN_yes p n h; rw [h1 _ h] at this; cases this
  · omega
def nn (x : Int32) : Nat := x.toNatClampNeg
theorem nn_nI {k : Nat} (h : k < 2 ^ 31) : nn (nI k) = k := nI_clamp h
def Rn (z : Nat → Int32) : Nat := nn (z 3)
def Mn (z : Nat → Int32) : Nat := nn (z 4)
def Sp (z : Nat → Int32) : Nat := nn (z 1)
def rF (z : Nat → Int32) (r : Nat) : Nat := nn (z (56 + 4 * r + 0))
def rL (z : Nat → Int32) (r : Nat) : Nat := nn (z (56 + 4 * r + 1))
def mF (z : Nat → Int32) (m : Nat) : Nat := nn (z (80 + 10 * m + 0))
def mA (z : Nat → Int32) (m : Nat) : Nat := nn (z (80 + 10 * m + 1))
def mT (z : Nat → Int32) (m : Nat) : Nat := nn (z (80 + 10 * m + 2))
def mB (z : Nat → Int32) (m : Nat) : Nat := nn (z (80 + 10 * m + 3))
def mC (z : Nat → Int32) (m : Nat) : Nat := nn (z (80 + 10 * m + 4))
def mS (z : Nat → Int32) (m : Nat) : Nat := nn (z (80 + 10 * m + 5))
def mW (z : Nat → Int32) (m : Nat) : Nat := nn (z (80 + 10 * m + 6))
def IRg (z : Nat → Int32) (r : Nat) : Prop := z (56 + 4 * r + 0) = nI (rF z r) ∧ z (56 + 4 * r + 1) = nI (rL z r) ∧ 2 ≤ rL z r ∧ rL z r ≤ 16 ∧ rF z r + rL z r ≤ 48 ∧ ∃ b, z (56 + 4 * r + 3) = bI b
def IMv (z : Nat → Int32) (m : Nat) : Prop := (z (80 + 10 * m + 0) = nI (mF z m) ∧ mF z m < Rn z) ∧ (z (80 + 10 * m + 1) = nI (mA z m) ∧ mA z m ≤ 99) ∧ (z (80 + 10 * m + 2) = nI (mT z m) ∧ mT z m < Rn z) ∧ (z (80 + 10 * m + 3) = nI (mB z m) ∧ mB z m ≤ 99) ∧ (z (80 + 10 * m + 4) = nI (mC z m) ∧ 1 ≤ mC z m ∧ mC z m ≤ 16) ∧ (z (80 + 10 * m + 5) = nI (mS z m) ∧ mS z m ≤ 3) ∧ z (80 + 10 * m + 6) = nI (mW z m) ∧ mW z m ≤ mC z m
def Inv (z : Nat → Int32) : Prop := (z 3 = nI (Rn z) ∧ Rn z ≤ 6) ∧ (z 4 = nI (Mn z) ∧ Mn z ≤ 24) ∧ (z 1 = nI (Sp z) ∧ 1 ≤ Sp z ∧ Sp z ≤ 8) ∧ (∀ r, r < Rn z → IRg z r) ∧ ∀ m, m < Mn z → IMv z m
section INV
variable {z : Nat → Int32} {r m : Nat}
theorem Inv.z3 (h : Inv z) : z 3 = nI (Rn z) := h.1.1
theorem Inv.R6 (h : Inv z) : Rn z ≤ 6 := h.1.2
theorem Inv.z4 (h : Inv z) : z 4 = nI (Mn z) := h.2.1.1
theorem Inv.M24 (h : Inv z) : Mn z ≤ 24 := h.2.1.2
theorem Inv.z1 (h : Inv z) : z 1 = nI (Sp z) := h.2.2.1.1
theorem Inv.S1 (h : Inv z) : 1 ≤ Sp z := h.2.2.1.2.1
theorem Inv.S8 (h : Inv z) : Sp z ≤ 8 := h.2.2.1.2.2
theorem Inv.r0 (h : Inv z) (hr : r < Rn z) : z (56 + 4 * r + 0) = nI (rF z r) := (h.2.2.2.1 r hr).1
theorem Inv.r1 (h : Inv z) (hr : r < Rn z) : z (56 + 4 * r + 1) = nI (rL z r) := (h.2.2.2.1 r hr).2.1
theorem Inv.l2 (h : Inv z) (hr : r < Rn z) : 2 ≤ rL z r := (h.2.2.2.1 r hr).2.2.1
theorem Inv.l16 (h : Inv z) (hr : r < Rn z) : rL z r ≤ 16 := (h.2.2.2.1 r hr).2.2.2.1
theorem Inv.l48 (h : Inv z) (hr : r < Rn z) : rF z r + rL z r ≤ 48 := (h.2.2.2.1 r hr).2.2.2.2.1
theorem Inv.r3 (h : Inv z) (hr : r < Rn z) : ∃ b, z (56 + 4 * r + 3) = bI b := (h.2.2.2.1 r hr).2.2.2.2.2
theorem Inv.m0 (h : Inv z) (hm : m < Mn z) : z (80 + 10 * m + 0) = nI (mF z m) := (h.2.2.2.2 m hm).1.1
theorem Inv.mf (h : Inv z) (hm : m < Mn z) : mF z m < Rn z := (h.2.2.2.2 m hm).1.2
theorem Inv.m1 (h : Inv z) (hm : m < Mn z) : z (80 + 10 * m + 1) = nI (mA z m) := (h.2.2.2.2 m hm).2.1.1
theorem Inv.ma (h : Inv z) (hm : m < Mn z) : mA z m ≤ 99 := (h.2.2.2.2 m hm).2.1.2
theorem Inv.m2 (h : Inv z) (hm : m < Mn z) : z (80 + 10 * m + 2) = nI (mT z m) := (h.2.2.2.2 m hm).2.2.1.1
theorem Inv.mt (h : Inv z) (hm : m < Mn z) : mT z m < Rn z := (h.2.2.2.2 m hm).2.2.1.2
theorem Inv.m3 (h : Inv z) (hm : m < Mn z) : z (80 + 10 * m + 3) = nI (mB z m) := (h.2.2.2.2 m hm).2.2.2.1.1
theorem Inv.mb (h : Inv z) (hm : m < Mn z) : mB z m ≤ 99 := (h.2.2.2.2 m hm).2.2.2.1.2
theorem Inv.m4 (h : Inv z) (hm : m < Mn z) : z (80 + 10 * m + 4) = nI (mC z m) := (h.2.2.2.2 m hm).2.2.2.2.1.1
theorem Inv.c1 (h : Inv z) (hm : m < Mn z) : 1 ≤ mC z m := (h.2.2.2.2 m hm).2.2.2.2.1.2.1
theorem Inv.c16 (h : Inv z) (hm : m < Mn z) : mC z m ≤ 16 := (h.2.2.2.2 m hm).2.2.2.2.1.2.2
theorem Inv.m5 (h : Inv z) (hm : m < Mn z) : z (80 + 10 * m + 5) = nI (mS z m) := (h.2.2.2.2 m hm).2.2.2.2.2.1.1
theorem Inv.s3 (h : Inv z) (hm : m < Mn z) : mS z m ≤ 3 := (h.2.2.2.2 m hm).2.2.2.2.2.1.2
theorem Inv.m6 (h : Inv z) (hm : m < Mn z) : z (80 + 10 * m + 6) = nI (mW z m) := (h.2.2.2.2 m hm).2.2.2.2.2.2.1
theorem Inv.wc (h : Inv z) (hm : m < Mn z) : mW z m ≤ mC z m := (h.2.2.2.2 m hm).2.2.2.2.2.2.2
end INV
def srcC (z : Nat → Int32) (m i : Nat) : Nat := rF z (mF z m) + (mA z m + i) % rL z (mF z m)
def tgtC (z : Nat → Int32) (m i : Nat) : Nat := rF z (mT z m) + (mB z m + i) % rL z (mT z m)
theorem Inv.src48 {z : Nat → Int32} {m : Nat} (h : Inv z) (hm : m < Mn z) (i : Nat) : srcC z m i < 48 := by
  have h1 := h.l48 (h.mf hm); have h2 := h.l2 (h.mf hm)
  have h3 := Nat.mod_lt (mA z m + i) (show 0 < rL z (mF z m) by omega)
  unfold srcC; omega
theorem Inv.tgt48 {z : Nat → Int32} {m : Nat} (h : Inv z) (hm : m < Mn z) (i : Nat) : tgtC z m i < 48 := by
  have h1 := h.l48 (h.mt hm); have h2 := h.l2 (h.mt hm)
  have h3 := Nat.mod_lt (mB z m + i) (show 0 < rL z (mT z m) by omega)
  unfold tgtC; omega
def rdB (z : Nat → Int32) (m x : Nat) : Bool := anyN (mC z m) (fun i => decide (srcC z m i = x))
def wrB (z : Nat → Int32) (m x : Nat) : Bool := anyN (mC z m) (fun i => decide (tgtC z m i = x))
def hoB (z : Nat → Int32) (m x : Nat) : Bool := (decide (mS z m = 1) || decide (mS z m = 2)) && rdB z m x
def rsM (z : Nat → Int32) (m x : Nat) : Nat := if hoB z m x = true then 1 else if mS z m = 0 ∧ (rdB z m x || wrB z m x) = true then 2 else if mS z m = 1 ∧ wrB z m x = true then 3 else 4
def rsK (z : Nat → Int32) (x k : Nat) : Nat := foldN k (fun m b => if rsM z m x < b then rsM z m x else b) 4
def rsC (z : Nat → Int32) (x : Nat) : Nat := rsK z x (Mn z) % 4
theorem rsM_le (z : Nat → Int32) (m x : Nat) : rsM z m x ≤ 4 := by unfold rsM; repeat (first | omega | split)
theorem rsK_le (z : Nat → Int32) (x k : Nat) : rsK z x k ≤ 4 := by
  unfold rsK
  exact foldN_inv (P := fun b => b ≤ 4) k (Nat.le_refl 4) (fun m b _ hb => by have := rsM_le z m x; split <;> omega)
def waK (z : Nat → Int32) (l e k : Nat) : Bool := anyN k (fun i => wrB z l (srcC z e i) || (decide (mS z e ≠ 2) && (rdB z l (tgtC z e i) || wrB z l (tgtC z e i))))
def waB (z : Nat → Int32) (l e : Nat) : Bool := if mS z e = 3 then false else waK z l e (mC z e)
def woK (z : Nat → Int32) (l k : Nat) : Nat := foldN k (fun m b => b ||| (if waB z l m = true then 2 ^ m else 0)) 0
def woN (z : Nat → Int32) (l : Nat) : Nat := if mS z l = 0 then woK z l l else 0
def msK (z : Nat → Int32) (s k : Nat) : Nat := foldN k (fun m n => n + if mS z m = s then 1 else 0) 0
def msN (z : Nat → Int32) (s : Nat) : Nat := msK z s (Mn z)
def cpK (z : Nat → Int32) (r k : Nat) : Nat := foldN k (fun m n => n + if mT z m = r ∧ mS z m = 2 then 1 else 0) 0
def cpN (z : Nat → Int32) (r : Nat) : Nat := cpK z r (Mn z)
def isC (z : Nat → Int32) (r m : Nat) : Bool := decide (mT z m = r) && decide (mS z m = 2)
def fcN (z : Nat → Int32) (r : Nat) : Nat := firstN (Mn z) (isC z r)
def fcI (z : Nat → Int32) (r : Nat) : Int32 := if fcN z r < Mn z then nI (fcN z r) else -1000
def wiB (v lo hi : Int32) : Bool := decide (lo ≤ v) && decide (v ≤ hi)
theorem i_nle {x y : Int32} : ¬ x ≤ y ↔ y < x := by rw [Int32.le_iff_toInt_le, Int32.lt_iff_toInt_lt]; omega
theorem i_nlt {x y : Int32} : ¬ x < y ↔ y ≤ x := by rw [Int32.le_iff_toInt_le, Int32.lt_iff_toInt_lt]; omega
theorem wi_lo {v lo hi : Int32} (h : v < lo) : wiB v lo hi = false := by simp [wiB, i_nle.mpr h]
theorem wi_hi {v lo hi : Int32} (h : hi < v) : wiB v lo hi = false := by simp [wiB, i_nle.mpr h]
theorem wi_in {v lo hi : Int32} (h : ¬ v < lo) (h2 : ¬ hi < v) : wiB v lo hi = true := by simp [wiB, i_nlt.mp h, i_nlt.mp h2]
theorem wi_iff {v lo hi : Int32} : wiB v lo hi = true ↔ lo ≤ v ∧ v ≤ hi := by simp [wiB]
theorem nI_or (a b : Nat) : nI a ||| nI b = nI (a ||| b) := by
  apply Int32.toBitVec_inj.1
  show BitVec.ofNat 32 a ||| BitVec.ofNat 32 b = BitVec.ofNat 32 (a ||| b)
  apply BitVec.eq_of_getLsbD_eq
  intro i hi
  simp [hi]
theorem nI_and (a b : Nat) : nI a &&& nI b = nI (a &&& b) := by
  apply Int32.toBitVec_inj.1
  show BitVec.ofNat 32 a &&& BitVec.ofNat 32 b = BitVec.ofNat 32 (a &&& b)
  apply BitVec.eq_of_getLsbD_eq
  intro i hi
  simp [hi]
theorem nI_bit : ∀ k, k < 31 → nI 1 <<< (nI k &&& 31) = nI (2 ^ k) := by decide +kernel
theorem nI_sm : ∀ k, k < 32 → ((nI k &&& 31).toBitVec.smod 32).toNat = k := by decide +kernel
section KN2
variable {p : Program} {l : Launch} {e : Env} {R : Room} {s : State} {m : MethodId} {args : Array Value} {below : List Frame} {meth : Method} {c : Code} {H : Heap} {locs : List Loc} {cells slots : Nat} {Q : State → Prop} {cc : ByteArray} {pc : Nat} {ls : Array Slot} {rest : List Value}
theorem kn_or (hexec : p.tables.exec = Jvm.exec) (hb : c.code = cc) {i j : Nat} (hdg : decode cc pc = .ok (.ior, 1)) (k : W p l e R s m args below meth c H locs cells slots Q (F0 m (pc + 1) ls (.int (nI (i ||| j)) :: rest))) : W p l e R s m args below meth c H locs cells slots Q (F0 m pc ls (.int (nI j) :: .int (nI i) :: rest)) := lv_ior hexec hb hdg (by rw [nI_or]; exact k)
theorem kn_and (hexec : p.tables.exec = Jvm.exec) (hb : c.code = cc) {i j : Nat} (hdg : decode cc pc = .ok (.iand, 1)) (k : W p l e R s m args below meth c H locs cells slots Q (F0 m (pc + 1) ls (.int (nI (i &&& j)) :: rest))) : W p l e R s m args below meth c H locs cells slots Q (F0 m pc ls (.int (nI j) :: .int (nI i) :: rest)) := lv_iand hexec hb hdg (by rw [nI_and]; exact k)
theorem kn_bit (hexec : p.tables.exec = Jvm.exec) (hb : c.code = cc) {j : Nat} (hj : j < 31) (hdg : decode cc pc = .ok (.ishl, 1)) (k : W p l e R s m args below meth c H locs cells slots Q (F0 m (pc + 1) ls (.int (nI (2 ^ j)) :: rest))) : W p l e R s m args below meth c H locs cells slots Q (F0 m pc ls (.int (nI j) :: .int (nI 1) :: rest)) := lv_ishl hexec hb hdg (by rw [nI_bit j hj]; exact k)
theorem kn_shr (hexec : p.tables.exec = Jvm.exec) (hb : c.code = cc) {i j : Nat} (hi : i < 2 ^ 31) (hj : j < 32) (hdg : decode cc pc = .ok (.ishr, 1)) (k : W p l e R s m args below meth c H locs cells slots Q (F0 m (pc + 1) ls (.int (nI (i / 2 ^ j)) :: rest))) : W p l e R s m args below meth c H locs cells slots Q (F0 m pc ls (.int (nI j) :: .int (nI i) :: rest)) := lv_ishr hexec hb hdg (by rw [pk_shrN hi _ j (nI_sm j hj)]; exact k)
end KN2
theorem bI_t : bI true = nI 1 := rfl
theorem bI_f : bI false = nI 0 := rfl
theorem rsK_s (z : Nat → Int32) (x k : Nat) : rsK z x (k + 1) = if rsM z k x < rsK z x k then rsM z k x else rsK z x k := rfl
theorem waK_s (z : Nat → Int32) (l e k : Nat) : waK z l e (k + 1) = (waK z l e k || (wrB z l (srcC z e k) || (decide (mS z e ≠ 2) && (rdB z l (tgtC z e k) || wrB z l (tgtC z e k))))) := rfl
theorem waB_ret {z : Nat → Int32} {l e k : Nat} (h1 : k = 0 ∨ mS z e ≠ 3) (h2 : mS z e = 3 ∨ k = mC z e) (h3 : 1 ≤ mC z e) : waK z l e k = waB z l e := by
  unfold waB
  rcases h1 with h | h
  · subst h
    rcases h2 with q | q
    · rw [if_pos q]; rfl
    · omega
  · rw [if_neg h]; rcases h2 with q | q
    · exact absurd q h
    · rw [q]
theorem woK_s (z : Nat → Int32) (l k : Nat) : woK z l (k + 1) = woK z l k ||| (if waB z l k = true then 2 ^ k else 0) := rfl
theorem msK_s (z : Nat → Int32) (s k : Nat) : msK z s (k + 1) = msK z s k + if mS z k = s then 1 else 0 := rfl
theorem cpK_s (z : Nat → Int32) (r k : Nat) : cpK z r (k + 1) = cpK z r k + if mT z k = r ∧ mS z k = 2 then 1 else 0 := rfl
theorem msK_le (z : Nat → Int32) (s : Nat) : ∀ k, msK z s k ≤ k
  | 0 => Nat.le_refl 0
  | k + 1 => by rw [msK_s]; have := msK_le z s k; split <;> omega
theorem cpK_le (z : Nat → Int32) (r : Nat) : ∀ k, cpK z r k ≤ k
  | 0 => Nat.le_refl 0
  | k + 1 => by rw [cpK_s]; have := cpK_le z r k; split <;> omega
def lsB (x : Int32) (n : Nat) : Bool := wiB x (nI 0) (nI n - nI 1)
theorem lsB_iff {x : Int32} {n : Nat} (hn : n < 2 ^ 30) : lsB x n = true ↔ ∃ k, k < n ∧ x = nI k := by
  unfold lsB
  rw [wi_iff]
  constructor
  · intro ⟨h1, h2⟩
    obtain ⟨j, hj, rfl⟩ := nI_of (x := x) (by rw [i_nlt]; exact h1)
    refine ⟨j, ?_, rfl⟩
    rw [Int32.le_iff_toInt_le] at h2
    by_cases h0 : n = 0
    · subst h0
      have e : (nI 0 - nI 1).toInt = -1 := by decide
      rw [e, nI_toInt hj] at h2; omega
    · rw [pk_sub (by omega), nI_toInt hj, nI_toInt (by omega)] at h2; omega
  · rintro ⟨k, hk, rfl⟩
    refine ⟨nI_le (Nat.zero_le k) (by omega), ?_⟩
    rw [pk_sub (by omega)]
    exact nI_le (by omega) (by omega)
theorem lsB_nI {k n : Nat} (hk : k < 2 ^ 31) (hn : n < 2 ^ 30) : lsB (nI k) n = decide (k < n) := by
  cases h : lsB (nI k) n with
  | true =>
    obtain ⟨j, h1, h2⟩ := (lsB_iff hn).mp h
    have := (nI_eq hk (by omega)).mp h2
    subst this; simp [h1]
  | false =>
    by_cases hq : k < n
    · rw [(lsB_iff hn).mpr ⟨k, hq, rfl⟩] at h; cases h
    · simp [hq]
def signF (z : Nat → Int32) (m : Nat) : Nat → Int32 := upd (upd (upd z (80 + 10 * m + 5) (nI 3)) (80 + 10 * m + 9) (z 0)) 6 (z 6 + nI 1)
def wsg (z : Nat → Int32) (x : Int32) : Nat := if lsB x (Rn z) = false then 1 else if z (56 + 4 * nn x + 3) = nI 1 ∨ fcI z (nn x) = -1000 then 2 else 0
def wst (z : Nat → Int32) (x y : Int32) : Nat := if lsB x (Rn z) = false then 1 else if z (56 + 4 * nn x + 3) = y then 2 else 0
def wtk (z : Nat → Int32) (x : Int32) : Nat := if wiB x (nI 1) (nI 50) = false then 1 else if nI 9999 < z 0 + x then 2 else 0
def wse (x y : Int32) : Nat := if (x = nI 0 ∧ wiB y (nI 1) (nI 8) = true) ∨ (x = nI 1 ∧ wiB y (nI 1) (nI 4) = true) then 0 else 1
def wwr (z : Nat → Int32) (x y : Int32) : Nat := if wiB x (nI 0) (nI 47) = false then 1 else if wiB y (-999) (nI 999) = false then 2 else if 0 < rsC z (nn x) then 3 else 0
theorem woN_ret {z : Nat → Int32} {l k : Nat} (h1 : k = 0 ∨ mS z l = 0) (h2 : mS z l ≠ 0 ∨ k = l) (hk : k ≤ l) : woK z l k = woN z l := by
  unfold woN
  rcases h2 with q | q
  · rw [if_neg q]
    rcases h1 with h | h
    · subst h; rfl
    · exact absurd h q
  · subst q
    split
    · rfl
    · rename_i h
      rcases h1 with h1 | h1
      · subst h1; rfl
      · exact absurd h1 h
theorem no_s {p : Nat → Bool} {k : Nat} (h : ∀ j, j < k → p j = false) (hk : p k = false) : ∀ j, j < k + 1 → p j = false := fun j hj => by
  rcases Nat.lt_succ_iff_lt_or_eq.mp hj with q | q
  · exact h j q
  · subst q; exact hk
theorem fcI_yes {z : Nat → Int32} {r k : Nat} (h : ∀ j, j < k → isC z r j = false) (hk : k < Mn z) (hc : isC z r k = true) : fcI z r = nI k := by
  have e : fcN z r = k := firstN_is h hk hc
  unfold fcI; rw [e, if_pos hk]
theorem fcI_no {z : Nat → Int32} {r : Nat} (h : ∀ j, j < Mn z → isC z r j = false) : fcI z r = -1000 := by
  have e : fcN z r = Mn z := firstN_none h
  unfold fcI; rw [e, if_neg (Nat.lt_irrefl _)]
theorem nI1_0 : ¬ nI 1 = 0 := by decide
theorem nI01 : ¬ (0 : Int32) = nI 1 := by decide
