/-! words and commands of the class's text, in the reference's words -/
theorem sbB_iff {b : Nat → Int32} {k st en : Nat} : sbB b k st en = true ↔ wln k = en - st ∧ ∀ j, j < wln k → wch k j = b (st + j) := by
  unfold sbB
  rw [Bool.and_eq_true, decide_eq_true_eq, Bool.not_eq_true', ← Bool.not_eq_true, anyN_iff]
  constructor
  · rintro ⟨h1, h2⟩
    refine ⟨h1, fun j hj => Decidable.not_not.mp (fun q => h2 ⟨j, hj, by simp [q]⟩)⟩
  · rintro ⟨h1, h2⟩
    refine ⟨h1, ?_⟩
    rintro ⟨j, hj, q⟩
    simp [h2 j hj] at q
theorem hw_sb {b : Nat → Int32} {n p e k many : Nat} {c0 c1 c2 c3 c4 c5 : Int32} (hn : e ≤ n) (hm : many = wln k) (h3 : 3 ≤ many) (h6 : many ≤ 6) (e0 : c0 = wch k 0) (e1 : c1 = wch k 1) (e2 : c2 = wch k 2) (e3 : 3 < many → c3 = wch k 3) (e4 : 4 < many → c4 = wch k 4) (e5 : 5 < many → c5 = wch k 5) : hwB b n p e many c0 c1 c2 c3 c4 c5 = sbB b k p e := by
  rw [Bool.eq_iff_iff, sbB_iff]
  unfold hwB hw3 hw2 hw1 hw0
  simp only [Bool.and_eq_true, Bool.or_eq_true, decide_eq_true_eq]
  constructor
  · rintro ⟨⟨⟨⟨⟨⟨a0, a1⟩, a2⟩, a3⟩, a4⟩, a5⟩, hl⟩
    refine ⟨by omega, fun j hj => ?_⟩
    have hb {i : Nat} (hi : i < wln k) : bt b n (p + i) = b (p + i) := bt_lt (by omega)
    have : j = 0 ∨ j = 1 ∨ j = 2 ∨ j = 3 ∨ j = 4 ∨ j = 5 := by omega
    rcases this with rfl | rfl | rfl | rfl | rfl | rfl
    · rw [← e0, ← a0]; exact hb (i := 0) (by omega)
    · rw [← e1, ← a1]; exact hb (by omega)
    · rw [← e2, ← a2]; exact hb (by omega)
    · rw [← e3 (by omega), ← a3.resolve_left (by omega)]; exact hb (by omega)
    · rw [← e4 (by omega), ← a4.resolve_left (by omega)]; exact hb (by omega)
    · rw [← e5 (by omega), ← a5.resolve_left (by omega)]; exact hb (by omega)
  · rintro ⟨hl, h⟩
    have hb {i : Nat} (hi : i < wln k) : bt b n (p + i) = wch k i := (bt_lt (by omega)).trans (h i hi).symm
    refine ⟨⟨⟨⟨⟨⟨?_, ?_⟩, ?_⟩, ?_⟩, ?_⟩, ?_⟩, by omega⟩
    · rw [e0]; exact hb (i := 0) (by omega)
    · rw [e1]; exact hb (by omega)
    · rw [e2]; exact hb (by omega)
    · rcases Nat.lt_or_ge many 4 with q | q
      · exact Or.inl q
      · right; rw [e3 (by omega)]; exact hb (by omega)
    · rcases Nat.lt_or_ge many 5 with q | q
      · exact Or.inl q
      · right; rw [e4 (by omega)]; exact hb (by omega)
    · rcases Nat.lt_or_ge many 6 with q | q
      · exact Or.inl q
      · right; rw [e5 (by omega)]; exact hb (by omega)
theorem wb_kd {b : Nat → Int32} {n p e : Nat} (hn : e ≤ n) : wbN b p e = kdN b n p e := by
  unfold kdN
  rw [hw_sb (k := 0) hn (by decide) (by decide) (by decide) (by decide) (by decide) (by decide) (by decide) (by decide) (by decide),
    hw_sb (k := 1) hn (by decide) (by decide) (by decide) (by decide) (by decide) (by decide) (by decide) (by decide) (by decide),
    hw_sb (k := 2) hn (by decide) (by decide) (by decide) (by decide) (by decide) (by decide) (by decide) (by decide) (by decide),
    hw_sb (k := 3) hn (by decide) (by decide) (by decide) (by decide) (by decide) (by decide) (by decide) (by decide) (by decide),
    hw_sb (k := 4) hn (by decide) (by decide) (by decide) (by decide) (by decide) (by decide) (by decide) (by decide) (by decide),
    hw_sb (k := 5) hn (by decide) (by decide) (by decide) (by decide) (by decide) (by decide) (by decide) (by decide) (by decide),
    hw_sb (k := 6) hn (by decide) (by decide) (by decide) (by decide) (by decide) (by decide) (by decide) (by decide) (by decide),
    hw_sb (k := 7) hn (by decide) (by decide) (by decide) (by decide) (by decide) (by decide) (by decide) (by decide) (by decide)]
  unfold wbN
  simp only [firstN]
  cases sbB b 0 p e <;> cases sbB b 1 p e <;> cases sbB b 2 p e <;> cases sbB b 3 p e <;> cases sbB b 4 p e <;> cases sbB b 5 p e <;> cases sbB b 6 p e <;> cases sbB b 7 p e <;> rfl
theorem wbN_8 (b : Nat → Int32) (p e : Nat) : wbN b p e ≤ 8 := firstN_le _ 8
/-! a command's numbers -/
def npN (b nn : Nat → Int32) (n k : Nat) : Nat → Nat → Int32
  | 0 => nn
  | i + 1 => rnN b (npN b nn n k i) n (nps b n k i) i
def nfI (b : Nat → Int32) (n k C : Nat) : Nat := firstN C (fun i => !nmOk b n (nps b n k i))
def nbP (b : Nat → Int32) (n k C : Nat) : Nat := if nfI b n k C = C then nps b n k C else rnA b n (nps b n k (nfI b n k C))
def nbF (b : Nat → Int32) (n k C : Nat) (ft : Int32) : Int32 := if nfI b n k C = C then ft else nI (nmFl b n (nps b n k (nfI b n k C)))
theorem npN_0 (b nn : Nat → Int32) (n k : Nat) : npN b nn n k 0 = nn := rfl
theorem npN_s (b nn : Nat → Int32) (n k i : Nat) : rnN b (npN b nn n k i) n (nps b n k i) i = npN b nn n k (i + 1) := rfl
theorem nps_0 (b : Nat → Int32) (n k : Nat) : nps b n k 0 = k := rfl
theorem rnA_ok {b : Nat → Int32} {n k : Nat} (h : nmOk b n k = true) : rnA b n k = nmE b n k := if_pos h
theorem rnF_ok {b : Nat → Int32} {n k : Nat} {ft : Int32} (h : nmOk b n k = true) : rnF b n k ft = ft := if_pos h
theorem rnF_no {b : Nat → Int32} {n k : Nat} {ft : Int32} (h : nmOk b n k = false) : rnF b n k ft = nI (nmFl b n k) := if_neg (by rw [h]; decide)
theorem rnN_no {b nn : Nat → Int32} {n k w : Nat} (h : nmOk b n k = false) : rnN b nn n k w = nn := if_neg (by rw [h]; decide)
theorem rnA_le {b : Nat → Int32} {n k : Nat} (h : k ≤ n) : rnA b n k ≤ n := by
  unfold rnA; split
  · exact (nmE_le b h).2
  · exact (skp_le b h).2
theorem nfI_all {b : Nat → Int32} {n k C : Nat} (h : ∀ j, j < C → nmOk b n (nps b n k j) = true) : nfI b n k C = C := firstN_none (fun j hj => by rw [h j hj]; rfl)
theorem nfI_at {b : Nat → Int32} {n k C i : Nat} (h : ∀ j, j < i → nmOk b n (nps b n k j) = true) (hi : i < C) (h2 : nmOk b n (nps b n k i) = false) : nfI b n k C = i := firstN_is (fun j hj => by rw [h j hj]; rfl) hi (by rw [h2]; rfl)
theorem nfI_ok {b : Nat → Int32} {n k C : Nat} (h : nfI b n k C = C) : ∀ j, j < C → nmOk b n (nps b n k j) = true := fun j hj => by
  have := firstN_no (fun i => !nmOk b n (nps b n k i)) C j (by show j < nfI b n k C; omega)
  simpa using this
theorem npN_at {b nn : Nat → Int32} {n k : Nat} : ∀ C, (∀ j, j < C → nmOk b n (nps b n k j) = true) → ∀ j, j < C → npN b nn n k C j = nmV b n (nps b n k j)
  | 0, _, j, hj => absurd hj (Nat.not_lt_zero j)
  | C + 1, h, j, hj => by
    show rnN b (npN b nn n k C) n (nps b n k C) C j = _
    unfold rnN
    rw [if_pos (h C (Nat.lt_succ_self C)), upd_at]
    by_cases q : j = C
    · rw [if_pos q, q]
    · rw [if_neg q]; exact npN_at C (fun i hi => h i (by omega)) j (by omega)
/-- what reading a command leaves, from the place p of its word on -/
def RdC (b : Nat → Int32) (n p : Nat) (ft : Int32) (nn' : Nat → Int32) (k' pa' : Nat) (ft' : Int32) : Prop :=
  (p < n → rdOk b n p = true → pa' = cEn b n p + 1 ∧ k' = cKd b n p ∧ (∀ i, i < nmC (cKd b n p) → nn' i = ncv b n p i) ∧ ft' = ft) ∧ (p < n → rdOk b n p = false → ft' = nI (rdFl b n p)) ∧ (¬ p < n → ft' = ft)
def ftI (b : Nat → Int32) (n : Nat) : Int32 := if cpq b n (ccN b n) < n then nI (rdFl b n (cpq b n (ccN b n))) else -1
theorem no_t {p : Nat → Bool} {k : Nat} (h : ∀ j, j < k → p j = true) (hk : p k = true) : ∀ j, j < k + 1 → p j = true := fun j hj => by
  rcases Nat.lt_succ_iff_lt_or_eq.mp hj with q | q
  · exact h j q
  · subst q; exact hk
