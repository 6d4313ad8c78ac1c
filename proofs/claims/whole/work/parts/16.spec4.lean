/-! texts of commands: bytes b, length n -/
def bt (b : Nat → Int32) (n k : Nat) : Int32 := if k < n then b k else -1
def isL (x : Int32) : Bool := wiB x (nI 97) (nI 122)
def isD (x : Int32) : Bool := wiB x (nI 48) (nI 57)
def skp (b : Nat → Int32) (n k : Nat) : Nat := k + firstN (n - k) (fun i => !decide (b (k + i) = nI 32))
def ltr (b : Nat → Int32) (n k : Nat) : Nat := k + firstN (n - k) (fun i => !isL (b (k + i)))
def dgN (b : Nat → Int32) (n k : Nat) : Nat := firstN 3 (fun i => !isD (bt b n (k + i)))
def nvI (b : Nat → Int32) (k d : Nat) : Int32 := foldN d (fun i v => nI 10 * v + b (k + i) - nI 48) (nI 0)
def hw0 (b : Nat → Int32) (n f : Nat) (c0 c1 c2 : Int32) : Bool := decide (bt b n f = c0) && decide (bt b n (f + 1) = c1) && decide (bt b n (f + 2) = c2)
def hw1 (b : Nat → Int32) (n f many : Nat) (c0 c1 c2 c3 : Int32) : Bool := hw0 b n f c0 c1 c2 && (decide (many < 4) || decide (bt b n (f + 3) = c3))
def hw2 (b : Nat → Int32) (n f many : Nat) (c0 c1 c2 c3 c4 : Int32) : Bool := hw1 b n f many c0 c1 c2 c3 && (decide (many < 5) || decide (bt b n (f + 4) = c4))
def hw3 (b : Nat → Int32) (n f many : Nat) (c0 c1 c2 c3 c4 c5 : Int32) : Bool := hw2 b n f many c0 c1 c2 c3 c4 && (decide (many < 6) || decide (bt b n (f + 5) = c5))
def hwB (b : Nat → Int32) (n f e many : Nat) (c0 c1 c2 c3 c4 c5 : Int32) : Bool := hw3 b n f many c0 c1 c2 c3 c4 c5 && decide (e - f = many)
def kdN (b : Nat → Int32) (n f e : Nat) : Nat := if hwB b n f e 4 (nI 114) (nI 105) (nI 110) (nI 103) (nI 0) (nI 0) = true then 0 else if hwB b n f e 4 (nI 109) (nI 111) (nI 118) (nI 101) (nI 0) (nI 0) = true then 1 else if hwB b n f e 4 (nI 115) (nI 105) (nI 103) (nI 110) (nI 0) (nI 0) = true then 2 else if hwB b n f e 6 (nI 115) (nI 116) (nI 114) (nI 105) (nI 107) (nI 101) = true then 3 else if hwB b n f e 4 (nI 119) (nI 111) (nI 114) (nI 107) (nI 0) (nI 0) = true then 4 else if hwB b n f e 3 (nI 112) (nI 117) (nI 116) (nI 0) (nI 0) (nI 0) = true then 5 else if hwB b n f e 3 (nI 115) (nI 101) (nI 116) (nI 0) (nI 0) (nI 0) = true then 6 else if hwB b n f e 5 (nI 116) (nI 105) (nI 99) (nI 107) (nI 115) (nI 0) = true then 7 else 8
def kdI (k : Nat) : Int32 := if k = 8 then -1000 else nI k
def nmC (k : Nat) : Nat := if k = 0 then 3 else if k = 1 then 5 else if k = 5 ∨ k = 6 then 2 else 1
def nmOk (b : Nat → Int32) (n k : Nat) : Bool := decide (bt b n k = nI 32) && isD (bt b n (skp b n k))
def nmE (b : Nat → Int32) (n k : Nat) : Nat := skp b n k + dgN b n (skp b n k)
def nmV (b : Nat → Int32) (n k : Nat) : Int32 := nvI b (skp b n k) (dgN b n (skp b n k))
def nmFl (b : Nat → Int32) (n k : Nat) : Nat := if bt b n k = nI 32 then skp b n k else k
def nps (b : Nat → Int32) (n k : Nat) : Nat → Nat
  | 0 => k
  | i + 1 => nmE b n (nps b n k i)
def cKd (b : Nat → Int32) (n k : Nat) : Nat := kdN b n k (ltr b n k)
def cPs (b : Nat → Int32) (n k i : Nat) : Nat := nps b n (ltr b n k) i
def cFi (b : Nat → Int32) (n k : Nat) : Nat := firstN (nmC (cKd b n k)) (fun i => !nmOk b n (cPs b n k i))
def cEn (b : Nat → Int32) (n k : Nat) : Nat := skp b n (cPs b n k (nmC (cKd b n k)))
def rdOk (b : Nat → Int32) (n k : Nat) : Bool := !decide (cKd b n k = 8) && decide (cFi b n k = nmC (cKd b n k)) && decide (bt b n (cEn b n k) = nI 59)
def rdFl (b : Nat → Int32) (n k : Nat) : Nat := if cKd b n k = 8 then k else if cFi b n k < nmC (cKd b n k) then nmFl b n (cPs b n k (cFi b n k)) else cEn b n k
def rdE (b : Nat → Int32) (n k : Nat) : Nat := skp b n (cEn b n k + 1)
def TXT (z : Nat → Int32) (b : Nat → Int32) (n : Nat) : Prop := (∀ i, i < n → z (4224 + i) = b i) ∧ z 4405 = nI n ∧ n ≤ 150
/-- nothing but place, kind and numbers differs -/
def TX (z y : Nat → Int32) : Prop := ∀ j, j ≠ 4406 → j ≠ 4407 → (j < 4374 ∨ 4379 ≤ j) → y j = z j
theorem TX.rf {z : Nat → Int32} : TX z z := fun _ _ _ _ => rfl
theorem TX.tr {z y x : Nat → Int32} (h : TX z y) (h2 : TX y x) : TX z x := fun j a b c => (h2 j a b c).trans (h j a b c)
theorem TX.txt {z y : Nat → Int32} {b : Nat → Int32} {n : Nat} (h : TX z y) (hT : TXT z b n) : TXT y b n := ⟨fun i hi => (h _ (by have := hT.2.2; omega) (by have := hT.2.2; omega) (by have := hT.2.2; omega)).trans (hT.1 i hi), (h _ (by omega) (by omega) (by omega)).trans hT.2.1, hT.2.2⟩
theorem TX.pl (z : Nat → Int32) (v : Int32) : TX z (upd z 4406 v) := fun j a b c => by rw [upd_at, if_neg a]
theorem TX.kd (z : Nat → Int32) (v : Int32) : TX z (upd z 4407 v) := fun j a b c => by rw [upd_at, if_neg b]
theorem TX.nm (z : Nat → Int32) {w : Nat} (hw : w < 5) (v : Int32) : TX z (upd z (4374 + w) v) := fun j a b c => by rw [upd_at, if_neg (by omega)]
theorem skp_le (b : Nat → Int32) {n k : Nat} (h : k ≤ n) : k ≤ skp b n k ∧ skp b n k ≤ n := by
  have := firstN_le (fun i => !decide (b (k + i) = nI 32)) (n - k)
  unfold skp; omega
theorem ltr_le (b : Nat → Int32) {n k : Nat} (h : k ≤ n) : k ≤ ltr b n k ∧ ltr b n k ≤ n := by
  have := firstN_le (fun i => !isL (b (k + i))) (n - k)
  unfold ltr; omega
theorem bt_lt {b : Nat → Int32} {n k : Nat} (h : k < n) : bt b n k = b k := if_pos h
theorem bt_ge {b : Nat → Int32} {n k : Nat} (h : n ≤ k) : bt b n k = -1 := if_neg (by omega)
theorem bt_32 {b : Nat → Int32} {n k : Nat} (h : bt b n k = nI 32) : k < n := by
  rcases Nat.lt_or_ge k n with q | q
  · exact q
  · rw [bt_ge q] at h; exact absurd h (by decide)
theorem bt_59 {b : Nat → Int32} {n k : Nat} (h : bt b n k = nI 59) : k < n := by
  rcases Nat.lt_or_ge k n with q | q
  · exact q
  · rw [bt_ge q] at h; exact absurd h (by decide)
theorem bt_L {b : Nat → Int32} {n k : Nat} (h : isL (bt b n k) = true) : k < n := by
  rcases Nat.lt_or_ge k n with q | q
  · exact q
  · rw [bt_ge q] at h; exact absurd h (by decide)
theorem bt_D {b : Nat → Int32} {n k : Nat} (h : isD (bt b n k) = true) : k < n := by
  rcases Nat.lt_or_ge k n with q | q
  · exact q
  · rw [bt_ge q] at h; exact absurd h (by decide)
/-- where the spaces end -/
theorem skp_is {b : Nat → Int32} {n k i : Nat} (hs : ∀ j, j < i → bt b n (k + j) = nI 32) (he : ¬ bt b n (k + i) = nI 32) (hk : k ≤ n) : skp b n k = k + i := by
  have hin : i ≤ n - k := by
    rcases Nat.eq_zero_or_pos i with h | h
    · omega
    · have := bt_32 (hs (i - 1) (by omega)); omega
  unfold skp
  rcases Nat.lt_or_ge i (n - k) with h | h
  · rw [firstN_is (k := i) (fun j hj => by rw [← bt_lt (b := b) (show k + j < n by omega), hs j hj]; rfl) h (by rw [← bt_lt (b := b) (show k + i < n by omega)]; simp [he])]
  · rw [firstN_none (fun j hj => by rw [← bt_lt (b := b) (show k + j < n by omega), hs j (by omega)]; rfl)]; omega
theorem ltr_is {b : Nat → Int32} {n k i : Nat} (hs : ∀ j, j < i → isL (bt b n (k + j)) = true) (he : isL (bt b n (k + i)) = false) (hk : k ≤ n) : ltr b n k = k + i := by
  have hin : i ≤ n - k := by
    rcases Nat.eq_zero_or_pos i with h | h
    · omega
    · have := bt_L (hs (i - 1) (by omega)); omega
  unfold ltr
  rcases Nat.lt_or_ge i (n - k) with h | h
  · rw [firstN_is (k := i) (fun j hj => by rw [← bt_lt (b := b) (show k + j < n by omega), hs j hj]; rfl) h (by rw [← bt_lt (b := b) (show k + i < n by omega), he]; rfl)]
  · rw [firstN_none (fun j hj => by rw [← bt_lt (b := b) (show k + j < n by omega), hs j (by omega)]; rfl)]; omega
theorem skp_no {b : Nat → Int32} {n k : Nat} (hk : k ≤ n) : ¬ bt b n (skp b n k) = nI 32 := by
  intro h
  have hl := bt_32 h
  rw [bt_lt hl] at h
  unfold skp at h hl
  have := firstN_yes (fun i => !decide (b (k + i) = nI 32)) (n - k) (by omega)
  simp [h] at this
theorem dgN_le (b : Nat → Int32) (n k : Nat) : dgN b n k ≤ 3 := firstN_le _ 3
theorem dgN_is {b : Nat → Int32} {n k i : Nat} (hs : ∀ j, j < i → isD (bt b n (k + j)) = true) (he : i = 3 ∨ isD (bt b n (k + i)) = false) (hi : i ≤ 3) : dgN b n k = i := by
  unfold dgN
  rcases he with h | h
  · subst h; exact firstN_none (fun j hj => by rw [hs j hj]; rfl)
  · rcases Nat.lt_or_ge i 3 with q | q
    · exact firstN_is (fun j hj => by rw [hs j hj]; rfl) q (by rw [h]; rfl)
    · have : i = 3 := by omega
      subst this; exact firstN_none (fun j hj => by rw [hs j hj]; rfl)
theorem dgN_n {b : Nat → Int32} {n k : Nat} (hk : k ≤ n) : k + dgN b n k ≤ n := by
  rcases Nat.eq_zero_or_pos (dgN b n k) with h | h
  · omega
  · have h2 := firstN_no (fun i => !isD (bt b n (k + i))) 3 (dgN b n k - 1) (by show _ < dgN b n k; omega)
    have := bt_D (b := b) (n := n) (k := k + (dgN b n k - 1)) (by simpa using h2)
    omega
theorem nmE_le (b : Nat → Int32) {n k : Nat} (h : k ≤ n) : k ≤ nmE b n k ∧ nmE b n k ≤ n := by
  have h1 := skp_le b h
  have := dgN_n (b := b) h1.2
  unfold nmE; omega
theorem nps_le (b : Nat → Int32) {n k : Nat} (h : k ≤ n) : ∀ i, k ≤ nps b n k i ∧ nps b n k i ≤ n
  | 0 => ⟨Nat.le_refl k, h⟩
  | i + 1 => by
    have ih := nps_le b h i
    have := nmE_le b ih.2
    exact ⟨Nat.le_trans ih.1 this.1, this.2⟩
theorem nmFl_le (b : Nat → Int32) {n k : Nat} (h : k ≤ n) : k ≤ nmFl b n k ∧ nmFl b n k ≤ n := by
  have := skp_le b h; unfold nmFl; split <;> omega
theorem kdN_8 (b : Nat → Int32) (n f e : Nat) : kdN b n f e ≤ 8 := by unfold kdN; repeat (first | omega | split)
theorem nmC_5 (k : Nat) : nmC k ≤ 5 := by unfold nmC; repeat (first | omega | split)
theorem cPs_le (b : Nat → Int32) {n k : Nat} (h : k ≤ n) (i : Nat) : k ≤ cPs b n k i ∧ cPs b n k i ≤ n := by
  have h1 := ltr_le b h; have := nps_le b h1.2 i; unfold cPs; omega
theorem cEn_le (b : Nat → Int32) {n k : Nat} (h : k ≤ n) : k ≤ cEn b n k ∧ cEn b n k ≤ n := by
  have h1 := cPs_le b h (nmC (cKd b n k)); have := skp_le b h1.2; unfold cEn; omega
theorem rdFl_le (b : Nat → Int32) {n k : Nat} (h : k ≤ n) : k ≤ rdFl b n k ∧ rdFl b n k ≤ n := by
  unfold rdFl
  have h1 := cPs_le b h (cFi b n k); have h2 := nmFl_le b h1.2; have h3 := cEn_le b h
  split
  · omega
  · split <;> omega
theorem rdE_le {b : Nat → Int32} {n k : Nat} (h : k ≤ n) (hok : rdOk b n k = true) : k < rdE b n k ∧ rdE b n k ≤ n := by
  have h3 := cEn_le b h
  have h4 : cEn b n k < n := bt_59 (by unfold rdOk at hok; simp at hok; exact hok.2)
  have := skp_le b (show cEn b n k + 1 ≤ n by omega)
  unfold rdE; omega
def crW (z : Nat → Int32) (kd : Nat) (a b c d e : Int32) : Nat := if kd = 0 then wrg z a b c else if kd = 1 then wmv z a b c d e else if kd = 2 then wsg z a else if kd = 3 then wst z a (nI 1) else if kd = 4 then wst z a (nI 0) else if kd = 5 then wwr z a b else if kd = 6 then wse a b else wtk z a
def crG (z : Nat → Int32) (kd : Nat) (a b c d e : Int32) : Nat → Int32 := if kd = 0 then prF z a b c else if kd = 1 then pmF z a b c d e else if kd = 2 then signF z (fcN z (nn a)) else if kd = 3 then upd z (56 + 4 * nn a + 3) (nI 1) else if kd = 4 then upd z (56 + 4 * nn a + 3) (nI 0) else if kd = 5 then upd z (8 + nn a) b else if kd = 6 then upd z (1 + nn a) b else psF z (nn a)
def crF (z : Nat → Int32) (kd : Nat) (a b c d e : Int32) : Nat → Int32 := if crW z kd a b c d e = 0 then crG z kd a b c d e else z
def rnK (z : Nat → Int32) (b : Nat → Int32) (w q i : Nat) : Nat → Int32 := upd (upd z 4406 (nI (q + i))) (4374 + w) (nvI b q i)
def rnZ (z : Nat → Int32) (b : Nat → Int32) (n k w : Nat) : Nat → Int32 := if nmOk b n k = true then rnK z b w (skp b n k) (dgN b n (skp b n k)) else upd z 4406 (nI (nmFl b n k))
theorem rnK_s (z : Nat → Int32) (b : Nat → Int32) {w : Nat} (hw : w < 5) (q i : Nat) : upd (upd (rnK z b w q i) (4374 + w) (nI 10 * nvI b q i + b (q + i) - nI 48)) 4406 (nI (q + i + 1)) = rnK z b w q (i + 1) := by
  funext j
  unfold rnK
  simp only [upd_at]
  by_cases e : j = 4406
  · rw [if_pos e, if_neg (by omega), if_pos e]; rfl
  · rw [if_neg e, if_neg e, if_neg e]
    by_cases e2 : j = 4374 + w
    · rw [if_pos e2, if_pos e2]; rfl
    · rw [if_neg e2, if_neg e2, if_neg e2]
theorem rnK_pl (z : Nat → Int32) (b : Nat → Int32) {w : Nat} (hw : w < 5) (q i : Nat) : rnK z b w q i 4406 = nI (q + i) := by
  unfold rnK; rw [upd_at, if_neg (by omega), upd_at, if_pos rfl]
theorem rnK_tx (z : Nat → Int32) (b : Nat → Int32) {w : Nat} (hw : w < 5) (q i : Nat) : TX z (rnK z b w q i) := (TX.pl z _).tr (TX.nm _ hw _)
theorem rnZ_tx (z : Nat → Int32) (b : Nat → Int32) (n k : Nat) {w : Nat} (hw : w < 5) : TX z (rnZ z b n k w) := by
  unfold rnZ; split
  · exact rnK_tx z b hw _ _
  · exact TX.pl z _
theorem cFi_all {b : Nat → Int32} {n k : Nat} (h : ∀ j, j < nmC (cKd b n k) → nmOk b n (cPs b n k j) = true) : cFi b n k = nmC (cKd b n k) := firstN_none (fun j hj => by rw [h j hj]; rfl)
theorem cFi_at {b : Nat → Int32} {n k i : Nat} (h : ∀ j, j < i → nmOk b n (cPs b n k j) = true) (hi : i < nmC (cKd b n k)) (h2 : nmOk b n (cPs b n k i) = false) : cFi b n k = i := firstN_is (fun j hj => by rw [h j hj]; rfl) hi (by rw [h2]; rfl)
theorem kdI_8 {k : Nat} (hk : k ≤ 8) : kdI k = -1000 ↔ k = 8 := by
  unfold kdI
  by_cases h : k = 8
  · simp [h]
  · rw [if_neg h]
    refine ⟨fun q => ?_, fun q => absurd q h⟩
    have : ∀ j, j ≤ 8 → nI j ≠ -1000 := by decide
    exact absurd q (this k hk)
theorem cPs_s (b : Nat → Int32) (n k i : Nat) : cPs b n k (i + 1) = nmE b n (cPs b n k i) := rfl
theorem cPs_0 (b : Nat → Int32) (n k : Nat) : cPs b n k 0 = ltr b n k := rfl
/-- what a command's reading leaves -/
def RdP (z y : Nat → Int32) (b : Nat → Int32) (n k : Nat) : Prop := TX z y ∧ y 4406 = nI (if rdOk b n k = true then rdE b n k else rdFl b n k) ∧ (rdOk b n k = true → y 4407 = nI (cKd b n k) ∧ ∀ i, i < nmC (cKd b n k) → y (4374 + i) = nmV b n (cPs b n k i))
theorem rd_no1 {b : Nat → Int32} {n k : Nat} (h : cKd b n k = 8) : rdOk b n k = false ∧ rdFl b n k = k := by
  unfold rdOk rdFl; simp [h]
theorem rd_no2 {b : Nat → Int32} {n k i : Nat} (h8 : cKd b n k ≠ 8) (h : ∀ j, j < i → nmOk b n (cPs b n k j) = true) (hi : i < nmC (cKd b n k)) (h2 : nmOk b n (cPs b n k i) = false) : rdOk b n k = false ∧ rdFl b n k = nmFl b n (cPs b n k i) := by
  have e := cFi_at h hi h2
  unfold rdOk rdFl
  rw [e, if_neg h8, if_pos hi]
  refine ⟨?_, rfl⟩
  have : ¬ i = nmC (cKd b n k) := by omega
  simp [this]
theorem rd_no3 {b : Nat → Int32} {n k : Nat} (h8 : cKd b n k ≠ 8) (h : ∀ j, j < nmC (cKd b n k) → nmOk b n (cPs b n k j) = true) (h2 : ¬ bt b n (cEn b n k) = nI 59) : rdOk b n k = false ∧ rdFl b n k = cEn b n k := by
  have e := cFi_all h
  unfold rdOk rdFl
  rw [e, if_neg h8, if_neg (by omega)]
  exact ⟨by simp [h2], rfl⟩
theorem rd_yes {b : Nat → Int32} {n k : Nat} (h8 : cKd b n k ≠ 8) (h : ∀ j, j < nmC (cKd b n k) → nmOk b n (cPs b n k j) = true) (h2 : bt b n (cEn b n k) = nI 59) : rdOk b n k = true := by
  have e := cFi_all h
  unfold rdOk; rw [e]; simp [h8, h2]
theorem wrgK_4 (z : Nat → Int32) (f ln : Int32) : ∀ k, wrgK z f ln k ≤ 3 ∧ (Rn z = 6 → wrgK z f ln k = 3)
  | 0 => by
    show (if Rn z = 6 then 3 else 0) ≤ 3 ∧ (Rn z = 6 → (if Rn z = 6 then 3 else 0) = 3)
    split <;> simp [*]
  | k + 1 => by
    have ih := wrgK_4 z f ln k
    rw [wrgK_s]; split
    · exact ⟨Nat.le_refl 3, fun _ => rfl⟩
    · exact ih
theorem wrg_4 (z : Nat → Int32) (f ln pt : Int32) : wrg z f ln pt ≤ 3 := by
  unfold wrg; have := (wrgK_4 z f ln (Rn z)).1; repeat (first | omega | split)
theorem wmv_4 (z : Nat → Int32) (f fp t tp n : Int32) : wmv z f fp t tp n ≤ 3 := by unfold wmv; repeat (first | omega | split)
theorem wsg_4 (z : Nat → Int32) (x : Int32) : wsg z x ≤ 3 := by unfold wsg; repeat (first | omega | split)
theorem wst_4 (z : Nat → Int32) (x y : Int32) : wst z x y ≤ 3 := by unfold wst; repeat (first | omega | split)
theorem wwr_4 (z : Nat → Int32) (x y : Int32) : wwr z x y ≤ 3 := by unfold wwr; repeat (first | omega | split)
theorem wse_4 (x y : Int32) : wse x y ≤ 3 := by unfold wse; repeat (first | omega | split)
theorem wtk_4 (z : Nat → Int32) (x : Int32) : wtk z x ≤ 3 := by unfold wtk; repeat (first | omega | split)
theorem wrg_0 {z : Nat → Int32} {f ln pt : Int32} (hI : Inv z) (h : wrg z f ln pt = 0) : Rn z < 6 := by
  have h6 := hI.R6
  rcases Nat.lt_or_ge (Rn z) 6 with q | q
  · exact q
  · have := (wrgK_4 z f ln (Rn z)).2 (by omega)
    unfold wrg at h
    split at h
    · omega
    · split at h <;> omega
theorem wmv_0 {z : Nat → Int32} {f fp t tp n : Int32} (hI : Inv z) (h : wmv z f fp t tp n = 0) : Mn z < 24 := by
  have h6 := hI.M24
  rcases Nat.lt_or_ge (Mn z) 24 with q | q
  · exact q
  · have e : Mn z = 24 := by omega
    unfold wmv at h
    rw [if_pos e] at h
    split at h
    · omega
    · split at h <;> omega
theorem wsg_0 {z : Nat → Int32} {x : Int32} (hI : Inv z) (h : wsg z x = 0) : ∃ r, r < Rn z ∧ x = nI r ∧ fcN z r < Mn z := by
  have h6 := hI.R6
  unfold wsg at h
  split at h
  · omega
  · rename_i h1
    obtain ⟨r, hr, rfl⟩ := (lsB_iff (x := x) (n := Rn z) (by omega)).mp (by cases e : lsB x (Rn z) with | true => rfl | false => exact absurd e h1)
    refine ⟨r, hr, rfl, ?_⟩
    split at h
    · omega
    · rename_i h2
      rw [nn_nI (by omega)] at h2
      rcases Nat.lt_or_ge (fcN z r) (Mn z) with q | q
      · exact q
      · exact absurd (Or.inr (if_neg (by omega))) h2
theorem fcI_is {z : Nat → Int32} {r : Nat} (h : fcN z r < Mn z) : fcI z r = nI (fcN z r) := if_pos h
theorem wst_0 {z : Nat → Int32} {x y : Int32} (hI : Inv z) (h : wst z x y = 0) : ∃ r, r < Rn z ∧ x = nI r := by
  have h6 := hI.R6
  unfold wst at h
  split at h
  · omega
  · rename_i h1
    exact (lsB_iff (x := x) (n := Rn z) (by omega)).mp (by cases e : lsB x (Rn z) with | true => rfl | false => exact absurd e h1)
theorem wwr_0 {z : Nat → Int32} {x y : Int32} (h : wwr z x y = 0) : ∃ q, q < 48 ∧ x = nI q := by
  unfold wwr at h
  split at h
  · omega
  · rename_i h1
    exact cell_of (by cases e : wiB x (nI 0) (nI 47) with | true => rfl | false => exact absurd e h1)
theorem wse_0 {x y : Int32} (h : wse x y = 0) : ∃ q, q < 2 ∧ x = nI q := by
  unfold wse at h
  split at h
  · rename_i h1
    rcases h1 with ⟨e, -⟩ | ⟨e, -⟩
    · exact ⟨0, by omega, e⟩
    · exact ⟨1, by omega, e⟩
  · omega
theorem wi_nat {x : Int32} {lo hi : Nat} (hh : hi < 2 ^ 31) (hl : lo < 2 ^ 31) (h : wiB x (nI lo) (nI hi) = true) : ∃ q, lo ≤ q ∧ q ≤ hi ∧ x = nI q := by
  obtain ⟨h1, h2⟩ := wi_iff.mp h
  have h0 : ¬ x < 0 := by
    rw [i_nlt]
    rw [Int32.le_iff_toInt_le] at h1 ⊢
    have := nI_toInt hl
    have e : (0 : Int32).toInt = 0 := by decide
    omega
  obtain ⟨q, hq, rfl⟩ := nI_of h0
  exact ⟨q, (nI_leI hl hq).mp h1, (nI_leI hq hh).mp h2, rfl⟩
theorem wtk_0 {z : Nat → Int32} {x : Int32} (h : wtk z x = 0) : ∃ q, q ≤ 50 ∧ x = nI q := by
  unfold wtk at h
  split at h
  · omega
  · rename_i h1
    obtain ⟨q, h2, h3, h4⟩ := wi_nat (x := x) (lo := 1) (hi := 50) (by decide) (by decide) (by cases e : wiB x (nI 1) (nI 50) with | true => rfl | false => exact absurd e h1)
    exact ⟨q, h3, h4⟩
theorem lt31 {n : Nat} (h : n ≤ 3) : n < 2 ^ 31 := by omega
/-! before and behind the public calls -/
def Sv (z : Nat → Int32) : Nat := nn (z 4404)
def Tl (z : Nat → Int32) : Nat := nn (z 4405)
def InvZ (z : Nat → Int32) : Prop := Inv z ∧ (z 4404 = nI (Sv z) ∧ Sv z ≤ 4) ∧ (∀ k, k < Sv z → Inv (fun j => z (1408 + k * 704 + j))) ∧ z 4405 = nI (Tl z) ∧ Tl z ≤ 150
def svT (z : Nat → Int32) : Nat → Int32 := saveF (upd z 4403 (nI 0)) (Sv z)
theorem st_inv {z y : Nat → Int32} (hI : Inv z) (h : ∀ j, j < 704 → y j = z j) : Inv y := (Eqv.of_eq hI h).inv hI
theorem saveF_lo (z : Nat → Int32) (v : Nat) {j : Nat} (h : j < 1408) : saveF z v j = z j := by
  unfold saveF svA
  rw [upd_at, if_neg (by omega), cpZ_at, if_neg (by omega)]
  split
  · rw [upd_at, if_neg (by omega)]; unfold shK; rw [if_neg (by omega)]
  · rfl
theorem svT_lo (z : Nat → Int32) {j : Nat} (h : j < 1408) : svT z j = z j := by
  unfold svT; rw [saveF_lo _ _ h, upd_at, if_neg (by omega)]
theorem svT_inv {z : Nat → Int32} (hI : Inv z) : Inv (svT z) := st_inv hI (fun j h => svT_lo z (by omega))
theorem svT_R (z : Nat → Int32) : Rn (svT z) = Rn z := acc_eq 3 (svT_lo z (by omega))
theorem svT_M (z : Nat → Int32) : Mn (svT z) = Mn z := acc_eq 4 (svT_lo z (by omega))
theorem th_inv {z : Nat → Int32} (hI : Inv z) (v : Int32) : Inv (upd z 4403 v) := st_inv hI (fun j h => by rw [upd_at, if_neg (by omega)])
theorem th_v {z : Nat → Int32} (h : InvZ z) (v : Int32) : (upd z 4403 v) 4404 = nI (Sv z) := by rw [upd_at, if_neg (by omega)]; exact h.2.1.1
theorem svT_eqv {z : Nat → Int32} (hI : Inv z) : Eqv z (svT z) := Eqv.of_eq hI (fun j h => svT_lo z (by omega))
theorem stk_at (z : Nat → Int32) (r : Nat) (y : Bool) {j : Nat} (h : j ≠ 56 + 4 * r + 3) : upd z (56 + 4 * r + 3) (bI y) j = z j := by rw [upd_at, if_neg h]
theorem stk_R (z : Nat → Int32) (r : Nat) (y : Bool) : Rn (upd z (56 + 4 * r + 3) (bI y)) = Rn z := acc_eq 3 (stk_at z r y (by omega))
theorem stk_inv {z : Nat → Int32} (hI : Inv z) (r : Nat) (y : Bool) (hr : r < 6 := by omega) : Inv (upd z (56 + 4 * r + 3) (bI y)) := by
  have eR := stk_R z r y
  have eM : Mn (upd z (56 + 4 * r + 3) (bI y)) = Mn z := acc_eq 4 (stk_at z r y (by omega))
  have eS : Sp (upd z (56 + 4 * r + 3) (bI y)) = Sp z := acc_eq 1 (stk_at z r y (by omega))
  refine ⟨⟨by rw [stk_at z r y (by omega), eR]; exact hI.z3, by rw [eR]; exact hI.R6⟩, ⟨by rw [stk_at z r y (by omega), eM]; exact hI.z4, by rw [eM]; exact hI.M24⟩, ⟨by rw [stk_at z r y (by omega), eS]; exact hI.z1, by rw [eS]; exact hI.S1, by rw [eS]; exact hI.S8⟩, fun q hq => ?_, fun m hm => ?_⟩
  · rw [eR] at hq
    have e0 : rF (upd z (56 + 4 * r + 3) (bI y)) q = rF z q := acc_eq _ (stk_at z r y (by omega))
    have e1 : rL (upd z (56 + 4 * r + 3) (bI y)) q = rL z q := acc_eq _ (stk_at z r y (by omega))
    refine ⟨?_, ?_, ?_, ?_, ?_, ?_⟩
    · rw [stk_at z r y (by omega), e0]; exact hI.r0 hq
    · rw [stk_at z r y (by omega), e1]; exact hI.r1 hq
    · rw [e1]; exact hI.l2 hq
    · rw [e1]; exact hI.l16 hq
    · rw [e0, e1]; exact hI.l48 hq
    · by_cases e : q = r
      · subst e; exact ⟨y, by rw [upd_at, if_pos rfl]⟩
      · rw [stk_at z r y (by omega)]; exact hI.r3 hq
  · rw [eM] at hm
    have a (pt : Nat) : upd z (56 + 4 * r + 3) (bI y) (80 + 10 * m + pt) = z (80 + 10 * m + pt) := stk_at z r y (by omega)
    have b0 : mF (upd z (56 + 4 * r + 3) (bI y)) m = mF z m := acc_eq _ (a 0)
    have b1 : mA (upd z (56 + 4 * r + 3) (bI y)) m = mA z m := acc_eq _ (a 1)
    have b2 : mT (upd z (56 + 4 * r + 3) (bI y)) m = mT z m := acc_eq _ (a 2)
    have b3 : mB (upd z (56 + 4 * r + 3) (bI y)) m = mB z m := acc_eq _ (a 3)
    have b4 : mC (upd z (56 + 4 * r + 3) (bI y)) m = mC z m := acc_eq _ (a 4)
    have b5 : mS (upd z (56 + 4 * r + 3) (bI y)) m = mS z m := acc_eq _ (a 5)
    have b6 : mW (upd z (56 + 4 * r + 3) (bI y)) m = mW z m := acc_eq _ (a 6)
    unfold IMv
    rw [a 0, a 1, a 2, a 3, a 4, a 5, a 6, b0, b1, b2, b3, b4, b5, b6, eR]
    exact hI.2.2.2.2 m hm
theorem stk_cp (z : Nat → Int32) (r : Nat) (y : Bool) (q : Nat) (hr : r < 6 := by omega) : cpN (upd z (56 + 4 * r + 3) (bI y)) q = cpN z q := by
  have eM : Mn (upd z (56 + 4 * r + 3) (bI y)) = Mn z := acc_eq 4 (stk_at z r y (by omega))
  unfold cpN cpK; rw [eM]
  refine foldN_cong _ (fun m n hm => ?_)
  have b2 : mT (upd z (56 + 4 * r + 3) (bI y)) m = mT z m := acc_eq _ (stk_at z r y (by omega))
  have b5 : mS (upd z (56 + 4 * r + 3) (bI y)) m = mS z m := acc_eq _ (stk_at z r y (by omega))
  rw [b2, b5]
