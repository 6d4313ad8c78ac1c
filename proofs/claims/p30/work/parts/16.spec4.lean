/-! texts of commands: bytes b, length n -/
def bt (b : Nat → Int32) (n k : Nat) : Int32 := if k < n then b k else -1
def hw0 (b : Nat → Int32) (n f : Nat) (c0 c1 c2 : Int32) : Bool := decide (bt b n f = c0) && decide (bt b n (f + 1) = c1) && decide (bt b n (f + 2) = c2)
def hw1 (b : Nat → Int32) (n f many : Nat) (c0 c1 c2 c3 : Int32) : Bool := hw0 b n f c0 c1 c2 && (decide (many < 4) || decide (bt b n (f + 3) = c3))
def hw2 (b : Nat → Int32) (n f many : Nat) (c0 c1 c2 c3 c4 : Int32) : Bool := hw1 b n f many c0 c1 c2 c3 && (decide (many < 5) || decide (bt b n (f + 4) = c4))
def nmC (k : Nat) : Nat := if k = 0 then 3 else if k = 1 then 5 else if k = 5 ∨ k = 6 then 2 else 1
/-- nothing but place, kind and numbers differs -/
def TX (z y : Nat → Int32) : Prop := ∀ j, j ≠ 4406 → j ≠ 4407 → (j < 4374 ∨ 4379 ≤ j) → y j = z j
theorem TX.rf {z : Nat → Int32} : TX z z := fun _ _ _ _ => rfl
theorem TX.tr {z y x : Nat → Int32} (h : TX z y) (h2 : TX y x) : TX z x := fun j a b c => (h2 j a b c).trans (h j a b c)
def crW (z : Nat → Int32) (kd : Nat) (a b c d e : Int32) : Nat := if kd = 0 then wrg z a b c else if kd = 1 then wmv z a b c d e else if kd = 2 then wsg z a else if kd = 3 then wst z a (nI 1) else if kd = 4 then wst z a (nI 0) else if kd = 5 then wwr z a b else if kd = 6 then wse a b else wtk z a
def crG (z : Nat → Int32) (kd : Nat) (a b c d e : Int32) : Nat → Int32 := if kd = 0 then prF z a b c else if kd = 1 then pmF z a b c d e else if kd = 2 then signF z (fcN z (nn a)) else if kd = 3 then upd z (56 + 4 * nn a + 3) (nI 1) else if kd = 4 then upd z (56 + 4 * nn a + 3) (nI 0) else if kd = 5 then upd z (8 + nn a) b else if kd = 6 then upd z (1 + nn a) b else psF z (nn a)
def crF (z : Nat → Int32) (kd : Nat) (a b c d e : Int32) : Nat → Int32 := if crW z kd a b c d e = 0 then crG z kd a b c d e else z
theorem wrgK_4 (z : Nat → Int32) (f ln : Int32) : ∀ k, wrgK z f ln k ≤ 3 ∧ (Rn z = 6 → wrgK z f ln k = 3)
  | 0 => by
    show (if Rn z = 6 then 3 else 0) ≤ 3 ∧ (Rn z = 6 → (if Rn z = 6 then 3 else 0) = 3)
    split <;> simp [*]
  | k + 1 => by
    have ih := wrgK_4 z f ln k
    rw [wrgK_s]; split
    · exact ⟨Nat.le_refl 3, fun _ => rfl⟩
    · exact ih
theorem wrg_0 {z : Nat → Int32} {f ln pt : Int32} (hI : Inv z) (h : wrg z f ln pt = 0) : Rn z < 6 := by
  have h6 := hI.R6
  rcases Nat.lt_or_ge (Rn z) 6 with q | q
  · exact q
  · have := (wrgK_4 z f ln (Rn z)).2 (by omega)
    unfold wrg at h
    split at h
    · omega
    · split at h <;> omega
theorem wmv_0 {z : Nat → Int32} {f fp t tp n : Int32} (hI : Inv z) (h : wmv z f fp t tp n = 0) : Mn z < 24 := by
  have h6 := hI.M24
  rcases Nat.lt_or_ge (Mn z) 24 with q | q
  · exact q
  · have e : Mn z = 24 := by omega
    unfold wmv at h
    rw [if_pos e] at h
    split at h
    · omega
    · split at h <;> omega
theorem wsg_0 {z : Nat → Int32} {x : Int32} (hI : Inv z) (h : wsg z x = 0) : ∃ r, r < Rn z ∧ x = nI r ∧ fcN z r < Mn z := by
  have h6 := hI.R6
  unfold wsg at h
  split at h
  · omega
  · rename_i h1
    obtain ⟨r, hr, rfl⟩ := (lsB_iff (x := x) (n := Rn z) (by omega)).mp (by cases e : lsB x (Rn z) with | true => rfl | false => exact absurd e h1)
    refine ⟨r, hr, rfl, ?_⟩
    split at h
    · omega
    · rename_i h2
      rw [nn_nI (by omega)] at h2
      rcases Nat.lt_or_ge (fcN z r) (Mn z) with q | q
      · exact q
      · exact absurd (Or.inr (if_neg (by omega))) h2
theorem wst_0 {z : Nat → Int32} {x y : Int32} (hI : Inv z) (h : wst z x y = 0) : ∃ r, r < Rn z ∧ x = nI r := by
  have h6 := hI.R6
  unfold wst at h
  split at h
  · omega
  · rename_i h1
    exact (lsB_iff (x := x) (n := Rn z) (by omega)).mp (by cases e : lsB x (Rn z) with | true => rfl | false => exact absurd e h1)
theorem wwr_0 {z : Nat → Int32} {x y : Int32} (h : wwr z x y = 0) : ∃ q, q < 48 ∧ x = nI q := by
  unfold wwr at h
  split at h
  · omega
  · rename_i h1
    exact cell_of (by cases e : wiB x (nI 0) (nI 47) with | true => rfl | false => exact absurd e h1)
theorem wse_0 {x y : Int32} (h : wse x y = 0) : ∃ q, q < 2 ∧ x = nI q := by
  unfold wse at h
  split at h
  · rename_i h1
    rcases h1 with ⟨e, -⟩ | ⟨e, -⟩
    · exact ⟨0, by omega, e⟩
    · exact ⟨1, by omega, e⟩
  · omega
theorem wi_nat {x : Int32} {lo hi : Nat} (hh : hi < 2 ^ 31) (hl : lo < 2 ^ 31) (h : wiB x (nI lo) (nI hi) = true) : ∃ q, lo ≤ q ∧ q ≤ hi ∧ x = nI q := by
  obtain ⟨h1, h2⟩ := wi_iff.mp h
  have h0 : ¬ x < 0 := by
    rw [i_nlt]
    rw [Int32.le_iff_toInt_le] at h1 ⊢
    have := nI_toInt hl
    have e : (0 : Int32).toInt = 0 := by decide
    omega
  obtain ⟨q, hq, rfl⟩ := nI_of h0
  exact ⟨q, (nI_leI hl hq).mp h1, (nI_leI hq hh).mp h2, rfl⟩
/-! before and behind the public calls -/
def Sv (z : Nat → Int32) : Nat := nn (z 4404)
def Tl (z : Nat → Int32) : Nat := nn (z 4405)
def InvZ (z : Nat → Int32) : Prop := Inv z ∧ (z 4404 = nI (Sv z) ∧ Sv z ≤ 4) ∧ (∀ k, k < Sv z → Inv (fun j => z (1408 + k * 704 + j))) ∧ z 4405 = nI (Tl z) ∧ Tl z ≤ 150
theorem st_inv {z y : Nat → Int32} (hI : Inv z) (h : ∀ j, j < 704 → y j = z j) : Inv y := (Eqv.of_eq hI h).inv hI
theorem stk_at (z : Nat → Int32) (r : Nat) (y : Bool) {j : Nat} (h : j ≠ 56 + 4 * r + 3) : upd z (56 + 4 * r + 3) (bI y) j = z j := by rw [upd_at, if_neg h]
theorem stk_R (z : Nat → Int32) (r : Nat) (y : Bool) : Rn (upd z (56 + 4 * r + 3) (bI y)) = Rn z := acc_eq 3 (stk_at z r y (by omega))
theorem stk_inv {z : Nat → Int32} (hI : Inv z) (r : Nat) (y : Bool) (hr : r < 6 := by omega) : Inv (upd z (56 + 4 * r + 3) (bI y)) := by
  have eR := stk_R z r y
  have eM : Mn (upd z (56 + 4 * r + 3) (bI y)) = Mn z := acc_eq 4 (stk_at z r y (by omega))
  have eS : Sp (upd z (56 + 4 * r + 3) (bI y)) = Sp z := acc_eq 1 (stk_at z r y (by omega))
  refine ⟨⟨by rw [stk_at z r y (by omega), eR]; exact hI.z3, by rw [eR]; exact hI.R6⟩, ⟨by rw [stk_at z r y (by omega), eM]; exact hI.z4, by rw [eM]; exact hI.M24⟩, ⟨by rw [stk_at z r y (by omega), eS]; exact hI.z1, by rw [eS]; exact hI.S1, by rw [eS]; exact hI.S8⟩, fun q hq => ?_, fun m hm => ?_⟩
  · rw [eR] at hq
    have e0 : rF (upd z (56 + 4 * r + 3) (bI y)) q = rF z q := acc_eq _ (stk_at z r y (by omega))
    have e1 : rL (upd z (56 + 4 * r + 3) (bI y)) q = rL z q := acc_eq _ (stk_at z r y (by omega))
    refine ⟨?_, ?_, ?_, ?_, ?_, ?_⟩
    · rw [stk_at z r y (by omega), e0]; exact hI.r0 hq
    · rw [stk_at z r y (by omega), e1]; exact hI.r1 hq
    · rw [e1]; exact hI.l2 hq
    · rw [e1]; exact hI.l16 hq
    · rw [e0, e1]; exact hI.l48 hq
    · by_cases e : q = r
      · subst e; exact ⟨y, by rw [upd_at, if_pos rfl]⟩
      · rw [stk_at z r y (by omega)]; exact hI.r3 hq
  · rw [eM] at hm
    have a (pt : Nat) : upd z (56 + 4 * r + 3) (bI y) (80 + 10 * m + pt) = z (80 + 10 * m + pt) := stk_at z r y (by omega)
    have b0 : mF (upd z (56 + 4 * r + 3) (bI y)) m = mF z m := acc_eq _ (a 0)
    have b1 : mA (upd z (56 + 4 * r + 3) (bI y)) m = mA z m := acc_eq _ (a 1)
    have b2 : mT (upd z (56 + 4 * r + 3) (bI y)) m = mT z m := acc_eq _ (a 2)
    have b3 : mB (upd z (56 + 4 * r + 3) (bI y)) m = mB z m := acc_eq _ (a 3)
    have b4 : mC (upd z (56 + 4 * r + 3) (bI y)) m = mC z m := acc_eq _ (a 4)
    have b5 : mS (upd z (56 + 4 * r + 3) (bI y)) m = mS z m := acc_eq _ (a 5)
    have b6 : mW (upd z (56 + 4 * r + 3) (bI y)) m = mW z m := acc_eq _ (a 6)
    unfold IMv
    rw [a 0, a 1, a 2, a 3, a 4, a 5, a 6, b0, b1, b2, b3, b4, b5, b6, eR]
    exact hI.2.2.2.2 m hm
theorem stk_cp (z : Nat → Int32) (r : Nat) (y : Bool) (q : Nat) (hr : r < 6 := by omega) : cpN (upd z (56 + 4 * r + 3) (bI y)) q = cpN z q := by
  have eM : Mn (upd z (56 + 4 * r + 3) (bI y)) = Mn z := acc_eq 4 (stk_at z r y (by omega))
  unfold cpN cpK; rw [eM]
  refine foldN_cong _ (fun m n hm => ?_)
  have b2 : mT (upd z (56 + 4 * r + 3) (bI y)) m = mT z m := acc_eq _ (stk_at z r y (by omega))
  have b5 : mS (upd z (56 + 4 * r + 3) (bI y)) m = mS z m := acc_eq _ (stk_at z r y (by omega))
  rw [b2, b5]
