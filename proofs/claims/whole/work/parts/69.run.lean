/-! the longs behind the moves under every command -/
theorem msk_geo {e e' : Nat → Int32} {g : Nat → Int64} (h : Msk e g) (hI : Inv e) (h4 : e' 4 = e 4) (hr : ∀ r pt, r < Rn e → pt < 2 → e' (56 + 4 * r + pt) = e (56 + 4 * r + pt)) (hm : ∀ m pt, m < Mn e → pt < 5 → e' (80 + 10 * m + pt) = e (80 + 10 * m + pt)) : Msk e' g := fun m hm9 => by
  rw [show Mn e' = Mn e from acc_eq 4 h4] at hm9
  have hf := hI.mf hm9; have ht := hI.mt hm9
  have hC : mC e' m = mC e m := acc_eq _ (hm m 4 hm9 (by omega))
  have hs : ∀ i, srcC e' m i = srcC e m i := fun i => by
    unfold srcC
    rw [show mF e' m = mF e m from acc_eq _ (hm m 0 hm9 (by omega)), show mA e' m = mA e m from acc_eq _ (hm m 1 hm9 (by omega)), show rF e' (mF e m) = rF e (mF e m) from acc_eq _ (hr _ 0 hf (by omega)), show rL e' (mF e m) = rL e (mF e m) from acc_eq _ (hr _ 1 hf (by omega))]
  have htg : ∀ i, tgtC e' m i = tgtC e m i := fun i => by
    unfold tgtC
    rw [show mT e' m = mT e m from acc_eq _ (hm m 2 hm9 (by omega)), show mB e' m = mB e m from acc_eq _ (hm m 3 hm9 (by omega)), show rF e' (mT e m) = rF e (mT e m) from acc_eq _ (hr _ 0 ht (by omega)), show rL e' (mT e m) = rL e (mT e m) from acc_eq _ (hr _ 1 ht (by omega))]
  rw [cs_cong hC hs htg, cs_cong hC hs htg]; exact h m hm9
theorem pr_msk {e : Nat → Int32} {g : Nat → Int64} (hI : Inv e) (hG : Msk e g) (hR : Rn e < 6) (f ln pt : Int32) : Msk (prF e f ln pt) g := by
  have h6 := hI.R6; have h24 := hI.M24
  refine msk_geo hG hI ?_ (fun r p hr hp => ?_) (fun m p hm hp => ?_) <;> (unfold prF; simp only [upd_at]; repeat rw [if_neg (by omega)])
theorem up_msk {e : Nat → Int32} {g : Nat → Int64} (hI : Inv e) (hG : Msk e g) {i : Nat} (h4 : i ≠ 4) (hr : ∀ r, r < 6 → i ≠ 56 + 4 * r ∧ i ≠ 56 + 4 * r + 1) (hm : ∀ m, m < 24 → i < 80 + 10 * m ∨ 80 + 10 * m + 5 ≤ i) (v : Int32) : Msk (upd e i v) g := by
  have h6 := hI.R6; have h24 := hI.M24
  refine msk_geo hG hI ?_ (fun r p hr9 hp => ?_) (fun m p hm9 hp => ?_) <;> rw [upd_at]
  · rw [if_neg (fun q => h4 q.symm)]
  · have := hr r (by omega)
    rw [if_neg (by omega)]
  · have := hm m (by omega)
    rw [if_neg (by omega)]
/-- a command keeps the longs in step -/
theorem cr_msk {e : Nat → Int32} {g : Nat → Int64} (hI : Inv e) (hG : Msk e g) {k : Nat} (hk : k < 8) (a b c d x : Int32) : Msk (crF e k a b c d x) (cgX e g k a b c d x) := by
  by_cases hw : crW e k a b c d x = 0
  · rcases (show k = 0 ∨ k = 1 ∨ k = 2 ∨ k = 3 ∨ k = 4 ∨ k = 5 ∨ k = 6 ∨ k = 7 by omega) with rfl | rfl | rfl | rfl | rfl | rfl | rfl | rfl
    · have h0 := (crW_0 e a b c d x).symm.trans hw
      rw [cr0 h0, cgN (Or.inl (by decide))]; exact pr_msk hI hG (wrg_0 hI h0) _ _ _
    · have h0 := (crW_1 e a b c d x).symm.trans hw
      obtain ⟨qf, qa, qt, qb, qn, ef, ea, et, eb, en, hf, ht, ha, hb, hn⟩ := wmv_nat hI h0
      have h6 := hI.R6
      rw [cr1 h0, cg1 (by omega) (by omega) (by omega) (by omega) (by omega) ef ea et eb en h0, ef, ea, et, eb, en]
      exact pm_msk hI hG (wmv_0 hI h0) hf ht ha hb hn
    · have h0 := (crW_2 e a b c d x).symm.trans hw
      obtain ⟨r, hr, er, -⟩ := wsg_0 hI h0
      have h6 := hI.R6
      rw [cr2 (by omega) er h0, cgN (Or.inl (by decide))]; exact hG.stay hI (signF_stay e)
    · have h0 := (crW_3 e a b c d x).symm.trans hw
      obtain ⟨r, hr, er⟩ := wst_0 hI h0
      have h6 := hI.R6
      rw [cr3 (by omega) er h0, cgN (Or.inl (by decide))]; exact up_msk hI hG (by omega) (fun r _ => by omega) (fun m _ => by omega) _
    · have h0 := (crW_4 e a b c d x).symm.trans hw
      obtain ⟨r, hr, er⟩ := wst_0 hI h0
      have h6 := hI.R6
      rw [cr4 (by omega) er h0, cgN (Or.inl (by decide))]; exact up_msk hI hG (by omega) (fun r _ => by omega) (fun m _ => by omega) _
    · have h0 := (crW_5 e a b c d x).symm.trans hw
      obtain ⟨r, hr, er⟩ := wwr_0 h0
      rw [cr5 (by omega) er h0, cgN (Or.inl (by decide))]; exact up_msk hI hG (by omega) (fun r _ => by omega) (fun m _ => by omega) _
    · have h0 := (crW_6 e a b c d x).symm.trans hw
      obtain ⟨r, hr, er⟩ := wse_0 h0
      rw [cr6 (by omega) er h0, cgN (Or.inl (by decide))]; exact up_msk hI hG (by omega) (fun r _ => by omega) (fun m _ => by omega) _
    · have h0 := (crW_7 e a b c d x).symm.trans hw
      obtain ⟨r, hr, er⟩ := wtk_0 h0
      rw [cr7 (by omega) er h0, cgN (Or.inl (by decide))]; exact hG.stay hI (psF_si hI r).1
  · rw [crN hw, cgN (Or.inr hw)]; exact hG
/-! a run of commands in the class -/
theorem run_end {z b : Nat → Int32} {n k : Nat} (hn : n ≤ 150) (hk : k ≤ ccN b n) (h0 : ∀ i, i < k → cmW (xc z b n i) b n (cpq b n i) = 0) (h : 150 ≤ k ∨ cgo b n k = false ∨ ¬ cmW (xc z b n k) b n (cpq b n k) = 0 ∧ cgo b n k = true) : exN z b n = k := by
  have hc := ccN_lt (b := b) hn
  refine exN_is h0 ?_
  rcases h with h | h | ⟨h, h2⟩
  · left; omega
  · left
    rcases Nat.lt_or_ge k (ccN b n) with q | q
    · rw [ccN_all q] at h; exact absurd h (by decide)
    · omega
  · right
    refine ⟨?_, h⟩
    rcases Nat.lt_or_ge k (ccN b n) with q | q
    · exact q
    · rw [show k = ccN b n by omega, hc.2] at h2; exact absurd h2 (by decide)
theorem run_lt {b : Nat → Int32} {n k : Nat} (hn : n ≤ 150) (hk : k ≤ ccN b n) (h : cgo b n k = true) : k < ccN b n := by
  have hc := ccN_lt (b := b) hn
  rcases Nat.lt_or_ge k (ccN b n) with q | q
  · exact q
  · rw [show k = ccN b n by omega, hc.2] at h; exact absurd h (by decide)
theorem ftI_m1 {b : Nat → Int32} {n : Nat} (hn : n ≤ 150) : ftI b n = -1 ↔ ¬ cpq b n (ccN b n) < n := by
  unfold ftI
  by_cases q : cpq b n (ccN b n) < n
  · rw [if_pos q]
    have h1 := (cpq_le (b := b) (n := n) (ccN b n) (fun i hi => ccN_all hi)).2
    have h2 := rdFl_le b h1
    refine ⟨fun h => ?_, fun h => absurd q h⟩
    have : ∀ j, j ≤ 150 → nI j ≠ -1 := by decide +kernel
    exact absurd h (this _ (by omega))
  · rw [if_neg q]; exact ⟨fun _ => q, fun _ => rfl⟩
/-- what running the commands leaves of the class -/
def RcC (e : Nat → Int32) (g : Nat → Int64) (nx cn : Nat) (se : Nat → Nat → Int32) (sg : Nat → Nat → Int64) (b : Nat → Int32) (n : Nat) (e' : Nat → Int32) (g' : Nat → Int64) (nx' cn' : Nat) (se' : Nat → Nat → Int32) (sg' : Nat → Nat → Int64) : Prop :=
  if cpq b n (ccN b n) < n then e' = e ∧ g' = g ∧ nx' = nx ∧ cn' = cn ∧ se' = se ∧ sg' = sg
  else EI (xc e b n (exN e b n)) e' ∧ Msk e' g' ∧ nx' = (nx + 1) % 4 ∧ cn' = min (cn + 1) 4 ∧ se' = hsE se nx (cfF (se nx) e) ∧ sg' = hsG sg nx (cgM (sg nx) g (Mn e))
def rcC (e b : Nat → Int32) (n : Nat) : Int32 := if cpq b n (ccN b n) < n then -10 - nI (rdFl b n (cpq b n (ccN b n))) else nI (exN e b n)
/-- the step of the loop: the numbers read are the command's -/
theorem rd_args {b nn1 : Nat → Int32} {n k k1 pa1 : Nat} {ft ft1 : Int32} (hr : RdC b n (cpq b n k) ft nn1 k1 pa1 ft1) (hg : cgo b n k = true) {e ek : Nat → Int32} (hE : EI (xc e b n k) ek) :
    EI (xc e b n (k + 1)) (crF ek k1 (nn1 0) (nn1 1) (nn1 2) (nn1 3) (nn1 4)) ∧ crW ek k1 (nn1 0) (nn1 1) (nn1 2) (nn1 3) (nn1 4) = cmW (xc e b n k) b n (cpq b n k) ∧ skp b n pa1 = cpq b n (k + 1) := by
  have h2 := cgo_iff.mp hg
  obtain ⟨e1, e2, e3, -⟩ := hr.1 h2.1 h2.2
  subst e2
  have hc5 := nmC_5 (cKd b n (cpq b n k))
  have h := ev_cmF hE h2.2 (x0 := nn1 0) (x1 := nn1 1) (x2 := nn1 2) (x3 := nn1 3) (x4 := nn1 4) (fun i hi => by
    rcases (show i = 0 ∨ i = 1 ∨ i = 2 ∨ i = 3 ∨ i = 4 by omega) with rfl | rfl | rfl | rfl | rfl <;> exact e3 _ hi)
  exact ⟨h.1, h.2, cpq_skp hr h2.1 h2.2⟩
theorem rd_stop {b nn1 : Nat → Int32} {n k k1 pa1 : Nat} {ft ft1 : Int32} (hr : RdC b n (cpq b n k) ft nn1 k1 pa1 ft1) (hg : cgo b n k = true) {e ek : Nat → Int32} (hE : EI (xc e b n k) ek) (hw : ¬ crW ek k1 (nn1 0) (nn1 1) (nn1 2) (nn1 3) (nn1 4) = 0) :
    crF ek k1 (nn1 0) (nn1 1) (nn1 2) (nn1 3) (nn1 4) = ek := crN hw
