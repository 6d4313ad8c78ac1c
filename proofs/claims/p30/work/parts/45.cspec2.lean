/-! the class: what its methods do to the rows -/
theorem eqv_new {e y : Nat → Int32} (hI : Inv e) (hM : Mn e < 24) (h : ∀ j, j < 80 + 10 * Mn e ∨ 80 + 10 * Mn e + 10 ≤ j → y j = e j) : Eqv e y := by
  have h6 := hI.R6
  exact ⟨fun j hj => h j (by omega), fun r pt hr hp => h _ (by omega), fun m pt hm hp => h _ (by omega), fun m i hm _ hi => by have := hI.c16 hm; exact h _ (by omega)⟩
theorem cf_eqv {e y : Nat → Int32} (h : Eqv e y) {r : Nat} (hr : r < Rn e) (pl n : Nat) : cfN y r pl n = cfN e r pl n := by
  unfold cfN; rw [h.rF hr, h.rL hr]
theorem cs_cong {z y : Nat → Int32} {m : Nat} (hC : mC y m = mC z m) (hs : ∀ i, srcC y m i = srcC z m i) (ht : ∀ i, tgtC y m i = tgtC z m i) (t : Bool) : csN y t m = csN z t m := by
  unfold csN csK; rw [hC]; exact foldN_cong _ (fun i b _ => by rw [ht, hs])
theorem cs_eqv {z y : Nat → Int32} (h : Eqv z y) (hI : Inv z) {m : Nat} (hm : m < Mn z) (t : Bool) : csN y t m = csN z t m :=
  cs_cong (h.mC hm) (fun i => h.src hI hm i) (fun i => h.tgt hI hm i) t
theorem Msk.eqv {e y : Nat → Int32} {g : Nat → Int64} (h : Msk e g) (hI : Inv e) (hE : Eqv e y) : Msk y g := fun m hm => by
  rw [hE.M] at hm
  rw [cs_eqv hE hI hm, cs_eqv hE hI hm]; exact h m hm
/-- a new move's masks -/
def pmG (e : Nat → Int32) (g : Nat → Int64) (qf qa qt qb qn : Nat) : Nat → Int64 := vp_updL (vp_updL g (2 * Mn e) (lN (cfN e qf qa qn))) (2 * Mn e + 1) (lN (cfN e qt qb qn))
theorem pm_msk {e : Nat → Int32} {g : Nat → Int64} (hI : Inv e) (hG : Msk e g) (hM : Mn e < 24) {qf qa qt qb qn : Nat} (hf : qf < Rn e) (ht : qt < Rn e) (ha : qa ≤ 99) (hb : qb ≤ 99) (hn : qn ≤ 16) : Msk (pmF e (nI qf) (nI qa) (nI qt) (nI qb) (nI qn)) (pmG e g qf qa qt qb qn) := by
  intro m hm
  have h6 := hI.R6
  rw [pm_M _ _ _ _ _ _ hM] at hm
  have o {j : Nat} (h3 : j ≠ 4) (h : j < 80 + 10 * Mn e ∨ 80 + 10 * Mn e + 10 ≤ j) := pm_out e (nI qf) (nI qa) (nI qt) (nI qb) (nI qn) h3 h
  have rf {r : Nat} (hr : r < Rn e) : rF (pmF e (nI qf) (nI qa) (nI qt) (nI qb) (nI qn)) r = rF e r := acc_eq _ (o (by omega) (by omega))
  have rl {r : Nat} (hr : r < Rn e) : rL (pmF e (nI qf) (nI qa) (nI qt) (nI qb) (nI qn)) r = rL e r := acc_eq _ (o (by omega) (by omega))
  rcases Nat.lt_succ_iff_lt_or_eq.mp hm with q | q
  · have a0 : mF (pmF e (nI qf) (nI qa) (nI qt) (nI qb) (nI qn)) m = mF e m := acc_eq _ (o (by omega) (by omega))
    have a1 : mA (pmF e (nI qf) (nI qa) (nI qt) (nI qb) (nI qn)) m = mA e m := acc_eq _ (o (by omega) (by omega))
    have a2 : mT (pmF e (nI qf) (nI qa) (nI qt) (nI qb) (nI qn)) m = mT e m := acc_eq _ (o (by omega) (by omega))
    have a3 : mB (pmF e (nI qf) (nI qa) (nI qt) (nI qb) (nI qn)) m = mB e m := acc_eq _ (o (by omega) (by omega))
    have a4 : mC (pmF e (nI qf) (nI qa) (nI qt) (nI qb) (nI qn)) m = mC e m := acc_eq _ (o (by omega) (by omega))
    have c := cs_cong (z := e) (y := pmF e (nI qf) (nI qa) (nI qt) (nI qb) (nI qn)) (m := m) a4 (fun i => by unfold srcC; rw [a0, a1, rf (hI.mf q), rl (hI.mf q)]) (fun i => by unfold tgtC; rw [a2, a3, rf (hI.mt q), rl (hI.mt q)])
    rw [c, c]
    unfold pmG
    rw [updL_at, if_neg (by omega), updL_at, if_neg (by omega), updL_at, if_neg (by omega), updL_at, if_neg (by omega)]
    exact hG m q
  · subst q
    obtain ⟨n0, n1, n2, n3, n4, -, -⟩ := pm_new e (nI qf) (nI qa) (nI qt) (nI qb) (nI qn)
    have b0 : mF (pmF e (nI qf) (nI qa) (nI qt) (nI qb) (nI qn)) (Mn e) = qf := by unfold mF; rw [n0, nn_nI (by omega)]
    have b1 : mA (pmF e (nI qf) (nI qa) (nI qt) (nI qb) (nI qn)) (Mn e) = qa := by unfold mA; rw [n1, nn_nI (by omega)]
    have b2 : mT (pmF e (nI qf) (nI qa) (nI qt) (nI qb) (nI qn)) (Mn e) = qt := by unfold mT; rw [n2, nn_nI (by omega)]
    have b3 : mB (pmF e (nI qf) (nI qa) (nI qt) (nI qb) (nI qn)) (Mn e) = qb := by unfold mB; rw [n3, nn_nI (by omega)]
    have b4 : mC (pmF e (nI qf) (nI qa) (nI qt) (nI qb) (nI qn)) (Mn e) = qn := by unfold mC; rw [n4, nn_nI (by omega)]
    have c1 : csN (pmF e (nI qf) (nI qa) (nI qt) (nI qb) (nI qn)) false (Mn e) = cfN e qf qa qn := by
      unfold csN csK cfN; rw [b4]
      exact foldN_cong _ (fun i b _ => by rw [if_neg (by decide)]; unfold srcC; rw [b0, b1, rf hf, rl hf])
    have c2 : csN (pmF e (nI qf) (nI qa) (nI qt) (nI qb) (nI qn)) true (Mn e) = cfN e qt qb qn := by
      unfold csN csK cfN; rw [b4]
      exact foldN_cong _ (fun i b _ => by rw [if_pos rfl]; unfold tgtC; rw [b2, b3, rf ht, rl ht])
    rw [c1, c2]
    unfold pmG
    rw [updL_at, if_neg (by omega), updL_at, if_pos rfl, updL_at, if_pos rfl]
    exact ⟨rfl, rfl⟩
/-! starting -/
def tkK (e : Nat → Int32) (m k : Nat) : Nat → Int32 := fun j => if 320 + 16 * m ≤ j ∧ j < 320 + 16 * m + k then e (8 + srcC e m (j - (320 + 16 * m))) else e j
theorem tkK_0 (e : Nat → Int32) (m : Nat) : tkK e m 0 = e := by funext j; unfold tkK; rw [if_neg (by omega)]
theorem tkK_lo (e : Nat → Int32) {m k j : Nat} (h : j < 320) : tkK e m k j = e j := by unfold tkK; rw [if_neg (by omega)]
theorem tkK_s (e : Nat → Int32) (m k : Nat) : upd (tkK e m k) (320 + 16 * m + k) (e (8 + srcC e m k)) = tkK e m (k + 1) := by
  funext j
  rw [upd_at]; unfold tkK
  by_cases h : j = 320 + 16 * m + k
  · rw [if_pos h, if_pos (by omega), show j - (320 + 16 * m) = k by omega]
  · rw [if_neg h]
    by_cases h2 : 320 + 16 * m ≤ j ∧ j < 320 + 16 * m + k
    · rw [if_pos h2, if_pos (by omega)]
    · rw [if_neg h2, if_neg (show ¬ (320 + 16 * m ≤ j ∧ j < 320 + 16 * m + (k + 1)) by omega)]
theorem tkK_end (e : Nat → Int32) {m : Nat} (hm : m < 24) : upd (upd (tkK e m (mC e m)) (80 + 10 * m + 5) (nI 1)) (80 + 10 * m + 7) (e 0) = startF e m := by
  funext j
  rw [upd_at, upd_at]; unfold tkK startF startK
  by_cases h7 : j = 80 + 10 * m + 7
  · rw [if_pos h7, if_neg (by omega), if_pos h7]
  · rw [if_neg h7]
    by_cases h5 : j = 80 + 10 * m + 5
    · rw [if_pos h5, if_neg (by omega), if_neg h7, if_pos h5]
    · rw [if_neg h5]
      by_cases h2 : 320 + 16 * m ≤ j ∧ j < 320 + 16 * m + mC e m
      · rw [if_pos h2, if_pos h2]
      · rw [if_neg h2, if_neg h2, if_neg h7, if_neg h5]
theorem tkK_stay (e : Nat → Int32) {m : Nat} (k : Nat) : Stay e (tkK e m k) := by
  refine ⟨?_, ?_, ?_, fun r pt _ _ => ?_, fun k pt _ _ => ?_⟩ <;> exact tkK_lo e (by omega)
theorem tkK_inv {e : Nat → Int32} (hI : Inv e) (m k : Nat) : Inv (tkK e m k) := by
  have h24 := hI.M24
  exact (tkK_stay e k).inv0 hI (fun q hq => tkK_lo e (by omega)) (fun q hq => tkK_lo e (by omega))
/-! copying on -/
def cpoF (e : Nat → Int32) (m w : Nat) : Nat → Int32 := if mS e m = 1 then (if mt e m w = mC e m then upd (upd (upd (writesF e m w) (80 + 10 * m + 5) (nI 2)) (80 + 10 * m + 8) (e 0)) 5 (e 5 + nI 1) else writesF e m w) else e
theorem mt_min (e : Nat → Int32) (m w : Nat) : min (mC e m) (mW e m + w) = mt e m w := by
  unfold mt
  split
  · exact Nat.min_eq_right (by omega)
  · exact Nat.min_eq_left (by omega)
theorem cpoF_si {e : Nat → Int32} (hI : Inv e) {m : Nat} (hm : m < Mn e) (w : Nat) : SI e (cpoF e m w) := by
  have h24 := hI.M24
  unfold cpoF; split
  · have h := writesF_si hI hm w
    split
    · refine h.tr ?_
      have h2 : Stay (writesF e m w) (upd (upd (upd (writesF e m w) (80 + 10 * m + 5) (nI 2)) (80 + 10 * m + 8) (e 0)) 5 (e 5 + nI 1)) := by
        refine ⟨?_, ?_, ?_, fun r pt _ _ => ?_, fun k pt _ _ => ?_⟩ <;> rw [upd_at, if_neg (by omega), upd_at, if_neg (by omega), upd_at, if_neg (by omega)]
      refine ⟨h2, h2.inv h.2 (fun k hk => ?_) (fun k hk => ⟨mW _ k, ?_, h.2.wc hk⟩)⟩
      · by_cases x : k = m
        · subst x; exact ⟨2, by rw [upd_at, if_neg (by omega), upd_at, if_neg (by omega), upd_at, if_pos rfl], by omega⟩
        · exact ⟨mS _ k, by rw [upd_at, if_neg (by omega), upd_at, if_neg (by omega), upd_at, if_neg (by omega)]; exact h.2.m5 hk, h.2.s3 hk⟩
      · rw [upd_at, if_neg (by omega), upd_at, if_neg (by omega), upd_at, if_neg (by omega)]; exact h.2.m6 hk
    · exact h
  · exact SI.rf hI
theorem wrK_5 {z : Nat → Int32} {m : Nat} (v : Int32) (t : Nat) : ∀ n, wrK (upd z 5 v) m t n = upd (wrK z m t n) 5 v
  | 0 => rfl
  | n + 1 => by
    show upd (wrK (upd z 5 v) m t n) (8 + tgtC (upd z 5 v) m (t + n)) ((upd z 5 v) (320 + 16 * m + (t + n))) = upd (upd (wrK z m t n) (8 + tgtC z m (t + n)) (z (320 + 16 * m + (t + n)))) 5 v
    have e0 (r : Nat) : rF (upd z 5 v) r = rF z r := acc_eq _ (by rw [upd_at, if_neg (by omega)])
    have e1 (r : Nat) : rL (upd z 5 v) r = rL z r := acc_eq _ (by rw [upd_at, if_neg (by omega)])
    have e2 : mT (upd z 5 v) m = mT z m := acc_eq _ (by rw [upd_at, if_neg (by omega)])
    have e3 : mB (upd z 5 v) m = mB z m := acc_eq _ (by rw [upd_at, if_neg (by omega)])
    have e4 : tgtC (upd z 5 v) m (t + n) = tgtC z m (t + n) := by unfold tgtC; rw [e2, e3, e0, e1]
    have e5 : (upd z 5 v) (320 + 16 * m + (t + n)) = z (320 + 16 * m + (t + n)) := by rw [upd_at, if_neg (by omega)]
    rw [e4, e5, wrK_5 v t n]
    funext j
    simp only [upd_at]
    by_cases q : j = 5
    · rw [if_pos q, if_pos q, if_neg (by omega)]
    · rw [if_neg q, if_neg q]
theorem writesF_5 {z : Nat → Int32} {m : Nat} (v : Int32) (w : Nat) : writesF (upd z 5 v) m w = upd (writesF z m w) 5 v := by
  have e6 : mW (upd z 5 v) m = mW z m := acc_eq _ (by rw [upd_at, if_neg (by omega)])
  have e4 : mC (upd z 5 v) m = mC z m := acc_eq _ (by rw [upd_at, if_neg (by omega)])
  have et : mt (upd z 5 v) m w = mt z m w := by unfold mt; rw [e6, e4]
  unfold writesF
  rw [et, e6, wrK_5]
  funext j
  simp only [upd_at]
  by_cases q : j = 5
  · rw [if_pos q, if_pos q, if_neg (by omega)]
  · rw [if_neg q, if_neg q]
def cy5 (y : Nat → Int32) (k : Nat) : Nat → Int32 := upd (cyK y k) 5 (y 5 + nI (cyN y k))
theorem cy5_0 (y : Nat → Int32) : cy5 y 0 = y := by
  funext j
  have e : y 5 + nI (cyN y 0) = y 5 := by show y 5 + nI 0 = y 5; exact Int32.add_zero _
  unfold cy5; rw [upd_at, e]
  by_cases q : j = 5
  · rw [if_pos q, q]
  · rw [if_neg q]; rfl
theorem cy5_s (y : Nat → Int32) (k : Nat) : cpoF (cy5 y k) k (Sp (cy5 y k)) = cy5 y (k + 1) := by
  have a5 : mS (cy5 y k) k = mS (cyK y k) k := acc_eq _ (by unfold cy5; rw [upd_at, if_neg (by omega)])
  have a6 : mW (cy5 y k) k = mW (cyK y k) k := acc_eq _ (by unfold cy5; rw [upd_at, if_neg (by omega)])
  have a4 : mC (cy5 y k) k = mC (cyK y k) k := acc_eq _ (by unfold cy5; rw [upd_at, if_neg (by omega)])
  have a1 : Sp (cy5 y k) = Sp (cyK y k) := acc_eq _ (by unfold cy5; rw [upd_at, if_neg (by omega)])
  have a0 : cy5 y k 0 = cyK y k 0 := by unfold cy5; rw [upd_at, if_neg (by omega)]
  have av : cy5 y k 5 = y 5 + nI (cyN y k) := by unfold cy5; rw [upd_at, if_pos rfl]
  have at' : mt (cy5 y k) k (Sp (cyK y k)) = mt (cyK y k) k (Sp (cyK y k)) := by unfold mt; rw [a6, a4]
  have aw : writesF (cy5 y k) k (Sp (cyK y k)) = upd (writesF (cyK y k) k (Sp (cyK y k))) 5 (y 5 + nI (cyN y k)) := writesF_5 _ _
  have ek : cyK y (k + 1) = cyS k (cyK y k) := rfl
  unfold cpoF
  rw [a1, a5, at', a4, a0, av, aw]
  show _ = upd (cyK y (k + 1)) 5 (y 5 + nI (cyN y (k + 1)))
  rw [ek, cyN_s]
  unfold cyS cyD
  by_cases h1 : mS (cyK y k) k = 1
  · rw [if_pos h1, if_pos h1]
    by_cases h2 : mt (cyK y k) k (Sp (cyK y k)) = mC (cyK y k) k
    · rw [if_pos h2, if_pos h2, if_pos (by simp [h1, h2]), ← nI_add, Int32.add_assoc]
      funext j
      simp only [upd_at]
      by_cases q : j = 5
      · rw [if_pos q, if_pos q]
      · rw [if_neg q, if_neg q, if_neg q]
    · rw [if_neg h2, if_neg h2, if_neg (by simp [h2])]; rfl
  · rw [if_neg h1, if_neg h1, if_neg (by simp [h1])]; rfl
theorem cyS_5 {z : Nat → Int32} (hI : Inv z) {m : Nat} (hm : m < Mn z) : cyS m z 5 = z 5 := by
  unfold cyS; split
  · split
    · rw [upd_at, if_neg (by omega), upd_at, if_neg (by omega)]; exact writesF_out hI hm _ (by omega) (by omega)
    · exact writesF_out hI hm _ (by omega) (by omega)
  · rfl
theorem cyK_5 {z : Nat → Int32} (hI : Inv z) : ∀ k, k ≤ Mn z → cyK z k 5 = z 5
  | 0, _ => rfl
  | k + 1, h => by
    have q := cyK_si hI k (by omega)
    show cyS k (cyK z k) 5 = z 5
    rw [cyS_5 q.2 (by rw [q.1.M]; omega)]; exact cyK_5 hI k (by omega)
theorem tick_end {e : Nat → Int32} (hI : Inv e) : upd (cy5 (tkA e) (Mn e)) 0 (cy5 (tkA e) (Mn e) 0 + nI 1) = tickF e := by
  have h5 := cyK_5 (tkA_si hI).2 (Mn e) (by rw [(tkA_si hI).1.M]; exact Nat.le_refl _)
  unfold tickF cy5
  show upd (upd (tkB e) 5 (tkA e 5 + nI (tickN e))) 0 (upd (tkB e) 5 (tkA e 5 + nI (tickN e)) 0 + nI 1) = _
  have e5 : tkB e 5 = tkA e 5 := h5
  rw [e5, upd_at, if_neg (by omega)]
theorem sgF_5 {z : Nat → Int32} : sgF z 5 = z 5 := by
  unfold sgF sgK
  refine foldN_inv (P := fun a : Nat → Int32 => a 5 = z 5) _ rfl (fun r a _ h => ?_)
  unfold sgT; split
  · unfold sgR
    refine foldN_inv (P := fun a : Nat → Int32 => a 5 = z 5) _ h (fun m b _ q => ?_)
    unfold sgS; split
    · rw [signF_at, if_neg (by omega), if_neg (by omega), if_neg (by omega)]; exact q
    · exact q
  · exact h
theorem stK_5 {z : Nat → Int32} (k : Nat) : stK z k 5 = z 5 := by
  unfold stK
  refine foldN_inv (P := fun a : Nat → Int32 => a 5 = z 5) _ rfl (fun m a _ h => ?_)
  unfold stS; split
  · unfold startF; rw [startK_lo _ (by omega) (by omega) (by omega)]; exact h
  · exact h
theorem tick_5 {e : Nat → Int32} (hI : Inv e) : tickF e 5 = e 5 + nI (tickN e) := by
  have h5 : tkB e 5 = tkA e 5 := cyK_5 (tkA_si hI).2 (Mn e) (by rw [(tkA_si hI).1.M]; exact Nat.le_refl _)
  have h6 : tkA e 5 = e 5 := by unfold tkA; rw [stK_5, sgF_5]
  unfold tickF; rw [upd_at, if_neg (by omega), upd_at, if_pos rfl, h5, h6]
theorem ps_5 {e : Nat → Int32} (hI : Inv e) : ∀ k, psF e k 5 = e 5 + nI (psN e k)
  | 0 => by show e 5 = e 5 + nI 0; exact (Int32.add_zero _).symm
  | k + 1 => by
    show tickF (psF e k) 5 = e 5 + nI (psN e k + tickN (psF e k))
    rw [tick_5 (psF_si hI k).2, ps_5 hI k, ← nI_add, Int32.add_assoc]
theorem i_back (x n : Int32) : x + n - x = n := by
  rw [Int32.add_comm]; exact Int32.add_sub_cancel n x
/-! moves that start -/
theorem startF_mS2 (z : Nat → Int32) {m j : Nat} (hm : m < 24) (hj : j < 24) : mS (startF z m) j = if j = m then 1 else mS z j := by
  by_cases h : j = m
  · subst h; rw [if_pos rfl]; exact startF_mS j hj
  · rw [if_neg h]; exact acc_eq _ (by unfold startF; exact startK_lo z (by omega) (by omega) (by omega))
theorem start_ms {z : Nat → Int32} (hI : Inv z) {m : Nat} (hm : m < Mn z) (h0 : mS z m = 0) : msN (startF z m) 1 = msN z 1 + 1 := by
  have h24 := hI.M24
  have hk : ∀ k, k ≤ Mn z → msK (startF z m) 1 k = msK z 1 k + if m < k then 1 else 0 := by
    intro k
    induction k with
    | zero => intro _; rfl
    | succ k ih =>
      intro h
      rw [msK_s, msK_s, ih (by omega), startF_mS2 z (by omega) (by omega)]
      by_cases q : k = m
      · subst q
        simp [h0]
      · rw [if_neg q]
        have e : (m < k + 1) ↔ (m < k) := by omega
        simp only [e]
        omega
  unfold msN
  rw [(startF_si hI m).1.M, hk _ (Nat.le_refl _), if_pos hm]
/-! refusals -/
theorem wrgK_any {z : Nat → Int32} {f ln : Int32} (hR : Rn z < 6) : ∀ k, wrgK z f ln k = if anyN k (ovB z f ln) = true then 3 else 0
  | 0 => by
    show (if Rn z = 6 then 3 else 0) = if false = true then 3 else 0
    rw [if_neg (by omega), if_neg (by decide)]
  | k + 1 => by
    rw [wrgK_s, wrgK_any hR k, anyN_s]
    cases anyN k (ovB z f ln) <;> cases ovB z f ln k <;> rfl
theorem wrg_any {z : Nat → Int32} {f ln pt : Int32} (h6 : Rn z ≤ 6) : wrg z f ln pt = if wiB f (nI 0) (nI 47) = false then 1 else if wiB ln (nI 2) (nI 16) = false ∨ wiB pt (nI 0) (nI 50) = false ∨ ¬ f + ln ≤ nI 48 then 2 else if 6 ≤ Rn z ∨ anyN (Rn z) (ovB z f ln) = true then 3 else 0 := by
  unfold wrg
  by_cases q : Rn z = 6
  · rw [(wrgK_4 z f ln (Rn z)).2 q, if_pos (show 6 ≤ Rn z ∨ anyN (Rn z) (ovB z f ln) = true from Or.inl (by omega))]
  · have e : (6 ≤ Rn z ∨ anyN (Rn z) (ovB z f ln) = true) ↔ anyN (Rn z) (ovB z f ln) = true := ⟨fun h => h.elim (fun h => absurd h (by omega)) id, Or.inr⟩
    rw [wrgK_any (by omega)]
    simp only [e]
theorem wi01 {x : Int32} (h : wiB x (nI 0) (nI 1) = true) : x = nI 0 ∨ x = nI 1 := by
  obtain ⟨k, -, hk, rfl⟩ := wi_nat (lo := 0) (hi := 1) (by decide) (by decide) h
  have : k = 0 ∨ k = 1 := by omega
  rcases this with rfl | rfl
  · exact Or.inl rfl
  · exact Or.inr rfl
theorem set_no {x y : Int32} (h : wiB x (nI 0) (nI 1) = false) : 2 = c12 (wse x y) := by
  have h0 : x ≠ nI 0 := fun e => by subst e; revert h; decide
  have h1 : x ≠ nI 1 := fun e => by subst e; revert h; decide
  simp [c12, wse, h0, h1]
theorem set_0 {x y : Int32} (h : wiB x (nI 0) (nI 1) = true) (h0 : x = 0) {b : Bool} (hb : wiB y (nI 1) (nI 8) = b) : (if b = true then 0 else 2) = c12 (wse x y) := by
  have e : x = nI 0 := h0
  subst e
  have h1 : ¬ nI 0 = nI 1 := by decide
  unfold c12 wse; rw [hb]; cases b <;> simp [h1]
theorem set_1 {x y : Int32} (h : wiB x (nI 0) (nI 1) = true) (h0 : ¬ x = 0) {b : Bool} (hb : wiB y (nI 1) (nI 4) = b) : (if b = true then 0 else 2) = c12 (wse x y) := by
  have e : x = nI 1 := (wi01 h).elim (fun e => absurd e h0) id
  subst e
  have h1 : ¬ nI 1 = nI 0 := by decide
  unfold c12 wse; rw [hb]; cases b <;> simp [h1]
theorem wmv_2 {z : Nat → Int32} {f fp t tp n : Int32} (h1 : lsB f (Rn z) = true) (h2 : lsB t (Rn z) = true) (h : wiB fp (nI 0) (nI 99) = false ∨ wiB tp (nI 0) (nI 99) = false) : 2 = wmv z f fp t tp n := by
  unfold wmv; rw [h1, h2, if_neg (by decide), if_pos (by rcases h with h | h <;> simp [h])]
theorem wmv_min {z : Nat → Int32} {f fp t tp n : Int32} (h24 : Mn z ≤ 24) (h1 : lsB f (Rn z) = true) (h2 : lsB t (Rn z) = true) (hl1 : rL z (nn f) < 2 ^ 31) (hl2 : rL z (nn t) < 2 ^ 31) : wmv z f fp t tp n = if wiB fp (nI 0) (nI 99) = false ∨ wiB tp (nI 0) (nI 99) = false ∨ wiB n (nI 1) (nI (min (rL z (nn f)) (rL z (nn t)))) = false then 2 else if 24 ≤ Mn z then 3 else 0 := by
  unfold wmv
  rw [h1, h2, if_neg (by decide)]
  have e1 : (n < nI 1 ∨ nI (rL z (nn f)) < n ∨ ¬ n ≤ nI (rL z (nn t))) ↔ wiB n (nI 1) (nI (min (rL z (nn f)) (rL z (nn t)))) = false := by
    rw [← Bool.not_eq_true, wi_iff, Decidable.not_and_iff_or_not, i_nle, i_nle, i_nle]
    rcases Nat.le_total (rL z (nn f)) (rL z (nn t)) with q | q
    · rw [Nat.min_eq_left q]
      refine ⟨fun h => h.elim Or.inl (fun h => h.elim Or.inr (fun h => Or.inr (Int32.lt_of_le_of_lt (nI_le q hl2) h))), fun h => h.elim Or.inl (fun h => Or.inr (Or.inl h))⟩
    · rw [Nat.min_eq_right q]
      refine ⟨fun h => h.elim Or.inl (fun h => h.elim (fun h => Or.inr (Int32.lt_of_le_of_lt (nI_le q hl1) h)) Or.inr), fun h => h.elim Or.inl (fun h => Or.inr (Or.inr h))⟩
  have e2 : (Mn z = 24) ↔ 24 ≤ Mn z := by omega
  simp only [e1, e2]
