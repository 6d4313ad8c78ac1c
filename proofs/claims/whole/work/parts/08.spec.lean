/-! what the methods answer, in plain words over the row of numbers -/
def foldN {α : Type} : Nat → (Nat → α → α) → α → α
  | 0, _, a => a
  | n + 1, g, a => g n (foldN n g a)
theorem foldN_s {α : Type} (n : Nat) (g : Nat → α → α) (a : α) : foldN (n + 1) g a = g n (foldN n g a) := rfl
theorem foldN_inv {α : Type} {P : α → Prop} {g : Nat → α → α} {a : α} : ∀ (n : Nat), P a → (∀ k x, k < n → P x → P (g k x)) → P (foldN n g a)
  | 0, h, _ => h
  | n + 1, h, hs => hs n _ (Nat.lt_succ_self n) (foldN_inv n h (fun k x hk => hs k x (Nat.lt_succ_of_lt hk)))
theorem foldN_rel {α β : Type} {P : α → β → Prop} {g : Nat → α → α} {g' : Nat → β → β} {a : α} {b : β} : ∀ (n : Nat), P a b → (∀ k x y, k < n → P x y → P (g k x) (g' k y)) → P (foldN n g a) (foldN n g' b)
  | 0, h, _ => h
  | n + 1, h, hs => hs n _ _ (Nat.lt_succ_self n) (foldN_rel n h (fun k x y hk => hs k x y (Nat.lt_succ_of_lt hk)))
theorem foldN_cong {α : Type} {g g' : Nat → α → α} {a : α} : ∀ (n : Nat), (∀ k x, k < n → g k x = g' k x) → foldN n g a = foldN n g' a
  | 0, _ => rfl
  | n + 1, h => by rw [foldN_s, foldN_s, foldN_cong n (fun k x hk => h k x (Nat.lt_succ_of_lt hk)), h n _ (Nat.lt_succ_self n)]
def anyN : Nat → (Nat → Bool) → Bool
  | 0, _ => false
  | n + 1, p => anyN n p || p n
theorem anyN_s (n : Nat) (p : Nat → Bool) : anyN (n + 1) p = (anyN n p || p n) := rfl
theorem anyN_iff {p : Nat → Bool} : ∀ {n : Nat}, anyN n p = true ↔ ∃ k, k < n ∧ p k = true
  | 0 => ⟨fun h => by cases h, fun ⟨k, h, _⟩ => absurd h (Nat.not_lt_zero k)⟩
  | n + 1 => by
    rw [anyN_s, Bool.or_eq_true, anyN_iff]
    constructor
    · rintro (⟨k, h1, h2⟩ | h)
      · exact ⟨k, Nat.lt_succ_of_lt h1, h2⟩
      · exact ⟨n, Nat.lt_succ_self n, h⟩
    · rintro ⟨k, h1, h2⟩
      rcases Nat.lt_succ_iff_lt_or_eq.mp h1 with h | h
      · exact Or.inl ⟨k, h, h2⟩
      · subst h; exact Or.inr h2
theorem anyN_cong {p q : Nat → Bool} : ∀ {n : Nat}, (∀ k, k < n → p k = q k) → anyN n p = anyN n q
  | 0, _ => rfl
  | n + 1, h => by rw [anyN_s, anyN_s, anyN_cong (fun k hk => h k (Nat.lt_succ_of_lt hk)), h n (Nat.lt_succ_self n)]
theorem anyN_false {p : Nat → Bool} {n : Nat} (h : ∀ k, k < n → p k = false) : anyN n p = false := by
  cases e : anyN n p with
  | false => rfl
  | true => obtain ⟨k, h1, h2⟩ := anyN_iff.mp e; rw [h k h1] at h2; cases h2
def firstN : Nat → (Nat → Bool) → Nat
  | 0, _ => 0
  | n + 1, p => if firstN n p < n then firstN n p else if p n = true then n else n + 1
theorem firstN_le (p : Nat → Bool) : ∀ n, firstN n p ≤ n
  | 0 => Nat.le_refl 0
  | n + 1 => by
    have h := firstN_le p n
    unfold firstN
    split
    · omega
    · split <;> omega
theorem firstN_no (p : Nat → Bool) : ∀ (n k : Nat), k < firstN n p → p k = false
  | 0, k, h => absurd h (Nat.not_lt_zero k)
  | n + 1, k, h => by
    have ih := firstN_no p n
    have hl := firstN_le p n
    unfold firstN at h
    split at h
    · exact ih k h
    · rename_i h1
      have e : firstN n p = n := by omega
      rw [e] at ih
      split at h
      · exact ih k h
      · rename_i h2
        by_cases hk : k < n
        · exact ih k hk
        · have : k = n := by omega
          subst this; simpa using h2
theorem firstN_yes (p : Nat → Bool) : ∀ (n : Nat), firstN n p < n → p (firstN n p) = true
  | 0, h => absurd h (Nat.not_lt_zero _)
  | n + 1, h => by
    have ih := firstN_yes p n
    unfold firstN at h ⊢
    split at h
    · rename_i h1; rw [if_pos h1]; exact ih h1
    · rename_i h1
      split at h
      · rename_i h2; rw [if_neg h1, if_pos h2]; exact h2
      · omega
theorem firstN_is {p : Nat → Bool} {n k : Nat} (h1 : ∀ j, j < k → p j = false) (h2 : k < n) (h3 : p k = true) : firstN n p = k := by
  rcases Nat.lt_trichotomy (firstN n p) k with h | h | h
  · have := firstN_yes p n (by omega); rw [h1 _ h] at this; cases this
  · exact h
  · have := firstN_no p n k h; rw [h3] at this; cases this
theorem firstN_none {p : Nat → Bool} {n : Nat} (h1 : ∀ j, j < n → p j = false) : firstN n p = n := by
  have := firstN_le p n
  rcases Nat.lt_or_ge (firstN n p) n with h | h
  · have := firstN_yes p n h; rw [h1 _ h] at this; cases this
  · omega
def nn (x : Int32) : Nat := x.toNatClampNeg
theorem nn_nI {k : Nat} (h : k < 2 ^ 31) : nn (nI k) = k := nI_clamp h
def Rn (z : Nat → Int32) : Nat := nn (z 3)
def Mn (z : Nat → Int32) : Nat := nn (z 4)
def Sp (z : Nat → Int32) : Nat := nn (z 1)
def rF (z : Nat → Int32) (r : Nat) : Nat := nn (z (56 + 4 * r + 0))
def rL (z : Nat → Int32) (r : Nat) : Nat := nn (z (56 + 4 * r + 1))
def mF (z : Nat → Int32) (m : Nat) : Nat := nn (z (80 + 10 * m + 0))
def mA (z : Nat → Int32) (m : Nat) : Nat := nn (z (80 + 10 * m + 1))
def mT (z : Nat → Int32) (m : Nat) : Nat := nn (z (80 + 10 * m + 2))
def mB (z : Nat → Int32) (m : Nat) : Nat := nn (z (80 + 10 * m + 3))
def mC (z : Nat → Int32) (m : Nat) : Nat := nn (z (80 + 10 * m + 4))
def mS (z : Nat → Int32) (m : Nat) : Nat := nn (z (80 + 10 * m + 5))
def mW (z : Nat → Int32) (m : Nat) : Nat := nn (z (80 + 10 * m + 6))
def IRg (z : Nat → Int32) (r : Nat) : Prop := z (56 + 4 * r + 0) = nI (rF z r) ∧ z (56 + 4 * r + 1) = nI (rL z r) ∧ 2 ≤ rL z r ∧ rL z r ≤ 16 ∧ rF z r + rL z r ≤ 48 ∧ ∃ b, z (56 + 4 * r + 3) = bI b
def IMv (z : Nat → Int32) (m : Nat) : Prop := (z (80 + 10 * m + 0) = nI (mF z m) ∧ mF z m < Rn z) ∧ (z (80 + 10 * m + 1) = nI (mA z m) ∧ mA z m ≤ 99) ∧ (z (80 + 10 * m + 2) = nI (mT z m) ∧ mT z m < Rn z) ∧ (z (80 + 10 * m + 3) = nI (mB z m) ∧ mB z m ≤ 99) ∧ (z (80 + 10 * m + 4) = nI (mC z m) ∧ 1 ≤ mC z m ∧ mC z m ≤ 16) ∧ (z (80 + 10 * m + 5) = nI (mS z m) ∧ mS z m ≤ 3) ∧ z (80 + 10 * m + 6) = nI (mW z m) ∧ mW z m ≤ mC z m
def Inv (z : Nat → Int32) : Prop := (z 3 = nI (Rn z) ∧ Rn z ≤ 6) ∧ (z 4 = nI (Mn z) ∧ Mn z ≤ 24) ∧ (z 1 = nI (Sp z) ∧ 1 ≤ Sp z ∧ Sp z ≤ 8) ∧ (∀ r, r < Rn z → IRg z r) ∧ ∀ m, m < Mn z → IMv z m
section INV
variable {z : Nat → Int32} {r m : Nat}
theorem Inv.z3 (h : Inv z) : z 3 = nI (Rn z) := h.1.1
theorem Inv.R6 (h : Inv z) : Rn z ≤ 6 := h.1.2
theorem Inv.z4 (h : Inv z) : z 4 = nI (Mn z) := h.2.1.1
theorem Inv.M24 (h : Inv z) : Mn z ≤ 24 := h.2.1.2
theorem Inv.z1 (h : Inv z) : z 1 = nI (Sp z) := h.2.2.1.1
theorem Inv.S1 (h : Inv z) : 1 ≤ Sp z := h.2.2.1.2.1
theorem Inv.S8 (h : Inv z) : Sp z ≤ 8 := h.2.2.1.2.2
theorem Inv.r0 (h : Inv z) (hr : r < Rn z) : z (56 + 4 * r + 0) = nI (rF z r) := (h.2.2.2.1 r hr).1
theorem Inv.r1 (h : Inv z) (hr : r < Rn z) : z (56 + 4 * r + 1) = nI (rL z r) := (h.2.2.2.1 r hr).2.1
theorem Inv.l2 (h : Inv z) (hr : r < Rn z) : 2 ≤ rL z r := (h.2.2.2.1 r hr).2.2.1
theorem Inv.l16 (h : Inv z) (hr : r < Rn z) : rL z r ≤ 16 := (h.2.2.2.1 r hr).2.2.2.1
theorem Inv.l48 (h : Inv z) (hr : r < Rn z) : rF z r + rL z r ≤ 48 := (h.2.2.2.1 r hr).2.2.2.2.1
theorem Inv.r3 (h : Inv z) (hr : r < Rn z) : ∃ b, z (56 + 4 * r + 3) = bI b := (h.2.2.2.1 r hr).2.2.2.2.2
theorem Inv.m0 (h : Inv z) (hm : m < Mn z) : z (80 + 10 * m + 0) = nI (mF z m) := (h.2.2.2.2 m hm).1.1
theorem Inv.mf (h : Inv z) (hm : m < Mn z) : mF z m < Rn z := (h.2.2.2.2 m hm).1.2
theorem Inv.m1 (h : Inv z) (hm : m < Mn z) : z (80 + 10 * m + 1) = nI (mA z m) := (h.2.2.2.2 m hm).2.1.1
theorem Inv.ma (h : Inv z) (hm : m < Mn z) : mA z m ≤ 99 := (h.2.2.2.2 m hm).2.1.2
theorem Inv.m2 (h : Inv z) (hm : m < Mn z) : z (80 + 10 * m + 2) = nI (mT z m) := (h.2.2.2.2 m hm).2.2.1.1
theorem Inv.mt (h : Inv z) (hm : m < Mn z) : mT z m < Rn z := (h.2.2.2.2 m hm).2.2.1.2
theorem Inv.m3 (h : Inv z) (hm : m < Mn z) : z (80 + 10 * m + 3) = nI (mB z m) := (h.2.2.2.2 m hm).2.2.2.1.1
theorem Inv.mb (h : Inv z) (hm : m < Mn z) : mB z m ≤ 99 := (h.2.2.2.2 m hm).2.2.2.1.2
theorem Inv.m4 (h : Inv z) (hm : m < Mn z) : z (80 + 10 * m + 4) = nI (mC z m) := (h.2.2.2.2 m hm).2.2.2.2.1.1
theorem Inv.c1 (h : Inv z) (hm : m < Mn z) : 1 ≤ mC z m := (h.2.2.2.2 m hm).2.2.2.2.1.2.1
theorem Inv.c16 (h : Inv z) (hm : m < Mn z) : mC z m ≤ 16 := (h.2.2.2.2 m hm).2.2.2.2.1.2.2
theorem Inv.m5 (h : Inv z) (hm : m < Mn z) : z (80 + 10 * m + 5) = nI (mS z m) := (h.2.2.2.2 m hm).2.2.2.2.2.1.1
theorem Inv.s3 (h : Inv z) (hm : m < Mn z) : mS z m ≤ 3 := (h.2.2.2.2 m hm).2.2.2.2.2.1.2
theorem Inv.m6 (h : Inv z) (hm : m < Mn z) : z (80 + 10 * m + 6) = nI (mW z m) := (h.2.2.2.2 m hm).2.2.2.2.2.2.1
theorem Inv.wc (h : Inv z) (hm : m < Mn z) : mW z m ≤ mC z m := (h.2.2.2.2 m hm).2.2.2.2.2.2.2
end INV
def srcC (z : Nat → Int32) (m i : Nat) : Nat := rF z (mF z m) + (mA z m + i) % rL z (mF z m)
def tgtC (z : Nat → Int32) (m i : Nat) : Nat := rF z (mT z m) + (mB z m + i) % rL z (mT z m)
theorem Inv.src48 {z : Nat → Int32} {m : Nat} (h : Inv z) (hm : m < Mn z) (i : Nat) : srcC z m i < 48 := by
  have h1 := h.l48 (h.mf hm); have h2 := h.l2 (h.mf hm)
  have h3 := Nat.mod_lt (mA z m + i) (show 0 < rL z (mF z m) by omega)
  unfold srcC; omega
theorem Inv.tgt48 {z : Nat → Int32} {m : Nat} (h : Inv z) (hm : m < Mn z) (i : Nat) : tgtC z m i < 48 := by
  have h1 := h.l48 (h.mt hm); have h2 := h.l2 (h.mt hm)
  have h3 := Nat.mod_lt (mB z m + i) (show 0 < rL z (mT z m) by omega)
  unfold tgtC; omega
def rdB (z : Nat → Int32) (m x : Nat) : Bool := anyN (mC z m) (fun i => decide (srcC z m i = x))
def wrB (z : Nat → Int32) (m x : Nat) : Bool := anyN (mC z m) (fun i => decide (tgtC z m i = x))
def hoB (z : Nat → Int32) (m x : Nat) : Bool := (decide (mS z m = 1) || decide (mS z m = 2)) && rdB z m x
def rsM (z : Nat → Int32) (m x : Nat) : Nat := if hoB z m x = true then 1 else if mS z m = 0 ∧ (rdB z m x || wrB z m x) = true then 2 else if mS z m = 1 ∧ wrB z m x = true then 3 else 4
def rsK (z : Nat → Int32) (x k : Nat) : Nat := foldN k (fun m b => if rsM z m x < b then rsM z m x else b) 4
def rsC (z : Nat → Int32) (x : Nat) : Nat := rsK z x (Mn z) % 4
theorem rsM_le (z : Nat → Int32) (m x : Nat) : rsM z m x ≤ 4 := by unfold rsM; repeat (first | omega | split)
theorem rsK_le (z : Nat → Int32) (x k : Nat) : rsK z x k ≤ 4 := by
  unfold rsK
  exact foldN_inv (P := fun b => b ≤ 4) k (Nat.le_refl 4) (fun m b _ hb => by have := rsM_le z m x; split <;> omega)
def waK (z : Nat → Int32) (l e k : Nat) : Bool := anyN k (fun i => wrB z l (srcC z e i) || (decide (mS z e ≠ 2) && (rdB z l (tgtC z e i) || wrB z l (tgtC z e i))))
def waB (z : Nat → Int32) (l e : Nat) : Bool := if mS z e = 3 then false else waK z l e (mC z e)
def woK (z : Nat → Int32) (l k : Nat) : Nat := foldN k (fun m b => b ||| (if waB z l m = true then 2 ^ m else 0)) 0
def woN (z : Nat → Int32) (l : Nat) : Nat := if mS z l = 0 then woK z l l else 0
def msK (z : Nat → Int32) (s k : Nat) : Nat := foldN k (fun m n => n + if mS z m = s then 1 else 0) 0
def msN (z : Nat → Int32) (s : Nat) : Nat := msK z s (Mn z)
def cpK (z : Nat → Int32) (r k : Nat) : Nat := foldN k (fun m n => n + if mT z m = r ∧ mS z m = 2 then 1 else 0) 0
def cpN (z : Nat → Int32) (r : Nat) : Nat := cpK z r (Mn z)
def isC (z : Nat → Int32) (r m : Nat) : Bool := decide (mT z m = r) && decide (mS z m = 2)
def fcN (z : Nat → Int32) (r : Nat) : Nat := firstN (Mn z) (isC z r)
def fcI (z : Nat → Int32) (r : Nat) : Int32 := if fcN z r < Mn z then nI (fcN z r) else -1000
def wiB (v lo hi : Int32) : Bool := decide (lo ≤ v) && decide (v ≤ hi)
