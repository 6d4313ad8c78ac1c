/-! sweeping, finishing, depths -/
theorem swK_mv (y : Nat → Int32) {g k : Nat} (hg : g ≤ k) (hk : k < 24) : mv2 (swK y g k) (swK y g k) (k - g) k = swK y g (k + 1) := by
  funext j
  unfold mv2
  by_cases h : 80 + 10 * (k - g) ≤ j ∧ j < 80 + 10 * (k - g) + 10
  · rw [if_pos h]; unfold swK
    rw [if_neg (by omega), if_neg (by omega), if_pos (by omega)]; exact congrArg y (by omega)
  · rw [if_neg h]
    by_cases h2 : 320 + 16 * (k - g) ≤ j ∧ j < 320 + 16 * (k - g) + 16
    · rw [if_pos h2]; unfold swK
      rw [if_neg (by omega), if_neg (by omega), if_neg (by omega), if_pos (by omega)]; exact congrArg y (by omega)
    · rw [if_neg h2]; unfold swK
      by_cases h3 : 80 ≤ j ∧ j < 80 + 10 * (k - g)
      · rw [if_pos h3, if_pos (by omega)]
      · rw [if_neg h3, if_neg (show ¬ (80 ≤ j ∧ j < 80 + 10 * (k + 1 - g)) by omega)]
        by_cases h4 : 320 ≤ j ∧ j < 320 + 16 * (k - g)
        · rw [if_pos h4, if_pos (by omega)]
        · rw [if_neg h4, if_neg (by omega)]
def swG (g : Nat → Int64) (n k : Nat) : Nat → Int64 := fun j => if j < 2 * (k - n) then g (j + 2 * n) else g j
theorem swG_0 (g : Nat → Int64) (n : Nat) : swG g n n = g := by funext j; unfold swG; rw [if_neg (by omega)]
theorem swG_mg (g : Nat → Int64) {n k : Nat} (hn : n ≤ k) : mg2 (swG g n k) (swG g n k) (k - n) k = swG g n (k + 1) := by
  funext j
  unfold mg2
  by_cases h1 : j = 2 * (k - n) + 1
  · rw [if_pos h1]; unfold swG; rw [if_neg (by omega), if_pos (by omega)]; exact congrArg g (by omega)
  · rw [if_neg h1]
    by_cases h0 : j = 2 * (k - n)
    · rw [if_pos h0]; unfold swG; rw [if_neg (by omega), if_pos (by omega)]; exact congrArg g (by omega)
    · rw [if_neg h0]; unfold swG
      by_cases h2 : j < 2 * (k - n)
      · rw [if_pos h2, if_pos (by omega)]
      · rw [if_neg h2, if_neg (by omega)]
theorem swN_le (y : Nat → Int32) : swN y ≤ Mn y := firstN_le _ _
theorem swF_at (y : Nat → Int32) (j : Nat) : swF y j = if j = 7 then y 7 + nI (swN y) else if j = 4 then nI (Mn y - swN y) else swK y (swN y) (Mn y) j := rfl
theorem swF_M {y : Nat → Int32} (hI : Inv y) : Mn (swF y) = Mn y - swN y := by
  have h24 := hI.M24
  show nn (swF y 4) = _
  rw [swF_at, if_neg (by omega), if_pos rfl, nn_nI (by omega)]
theorem swF_lo (y : Nat → Int32) {j : Nat} (h : j < 80) (h4 : j ≠ 4) (h7 : j ≠ 7) : swF y j = y j := by
  rw [swF_at, if_neg h7, if_neg h4, swK_lo y _ _ h]
theorem swF_mv {y : Nat → Int32} (hI : Inv y) {m pt : Nat} (hm : m < Mn y - swN y) (hp : pt < 10) : swF y (80 + 10 * m + pt) = y (80 + 10 * (m + swN y) + pt) := by
  have h24 := hI.M24
  rw [swF_at, if_neg (by omega), if_neg (by omega)]
  unfold swK; rw [if_pos (by omega)]; exact congrArg y (by omega)
theorem swF_tk {y : Nat → Int32} (hI : Inv y) {m i : Nat} (hm : m < Mn y - swN y) (hi : i < 16) : swF y (320 + 16 * m + i) = y (320 + 16 * (m + swN y) + i) := by
  have h24 := hI.M24
  rw [swF_at, if_neg (by omega), if_neg (by omega)]
  unfold swK; rw [if_neg (by omega), if_pos (by omega)]; exact congrArg y (by omega)
theorem sw_inv {y : Nat → Int32} (hI : Inv y) : Inv (swF y) := by
  have h24 := hI.M24; have h6 := hI.R6
  have hl := swN_le y
  have eM := swF_M hI
  have eR : Rn (swF y) = Rn y := acc_eq 3 (swF_lo y (by omega) (by omega) (by omega))
  have eS : Sp (swF y) = Sp y := acc_eq 1 (swF_lo y (by omega) (by omega) (by omega))
  refine ⟨⟨by rw [swF_lo y (by omega) (by omega) (by omega), eR]; exact hI.z3, by omega⟩, ⟨by rw [swF_at, if_neg (by omega), if_pos rfl, eM], by omega⟩, ⟨by rw [swF_lo y (by omega) (by omega) (by omega), eS]; exact hI.z1, by rw [eS]; exact hI.S1, by rw [eS]; exact hI.S8⟩, fun r hr => ?_, fun m hm => ?_⟩
  · rw [eR] at hr
    have a (pt : Nat) (hp : pt < 4) : swF y (56 + 4 * r + pt) = y (56 + 4 * r + pt) := swF_lo y (by omega) (by omega) (by omega)
    have b0 : rF (swF y) r = rF y r := acc_eq _ (a 0 (by omega))
    have b1 : rL (swF y) r = rL y r := acc_eq _ (a 1 (by omega))
    unfold IRg
    rw [a 0 (by omega), a 1 (by omega), a 3 (by omega), b0, b1]
    exact hI.2.2.2.1 r hr
  · rw [eM] at hm
    have a (pt : Nat) (hp : pt < 10) := swF_mv hI hm hp
    have b0 : mF (swF y) m = mF y (m + swN y) := by unfold mF; rw [a 0 (by omega)]
    have b1 : mA (swF y) m = mA y (m + swN y) := by unfold mA; rw [a 1 (by omega)]
    have b2 : mT (swF y) m = mT y (m + swN y) := by unfold mT; rw [a 2 (by omega)]
    have b3 : mB (swF y) m = mB y (m + swN y) := by unfold mB; rw [a 3 (by omega)]
    have b4 : mC (swF y) m = mC y (m + swN y) := by unfold mC; rw [a 4 (by omega)]
    have b5 : mS (swF y) m = mS y (m + swN y) := by unfold mS; rw [a 5 (by omega)]
    have b6 : mW (swF y) m = mW y (m + swN y) := by unfold mW; rw [a 6 (by omega)]
    unfold IMv
    rw [a 0 (by omega), a 1 (by omega), a 2 (by omega), a 3 (by omega), a 4 (by omega), a 5 (by omega), a 6 (by omega), b0, b1, b2, b3, b4, b5, b6, eR]
    exact hI.2.2.2.2 (m + swN y) (by omega)
theorem ev_swN {z y : Nat → Int32} (h : EI z y) : swN y = swN z := by
  unfold swN; rw [h.M]; exact firstN_cong (fun m hm => by rw [h.1.mS hm])
theorem ev_sw {z y : Nat → Int32} (h : EI z y) : EI (swF z) (swF y) := by
  have hIy := ev_R h
  have e := ev_swN h
  have h24 := h.2.M24
  have eM := swF_M h.2
  have eR : Rn (swF z) = Rn z := acc_eq 3 (swF_lo z (by omega) (by omega) (by omega))
  refine ⟨⟨fun j hj => ?_, fun r pt hr hp => ?_, fun m pt hm hp => ?_, fun m i hm hs hi => ?_⟩, sw_inv h.2⟩
  · rw [swF_at, swF_at, e, h.M, h.1.1 7 (by omega), swK_lo y _ _ (by omega), swK_lo z _ _ (by omega), h.1.1 j hj]
  · rw [eR] at hr
    have h6 := h.2.R6
    rw [swF_lo y (by omega) (by omega) (by omega), swF_lo z (by omega) (by omega) (by omega)]; exact h.1.2.1 r pt hr hp
  · rw [eM] at hm
    rw [swF_mv h.2 hm hp, swF_mv hIy (by rw [e, h.M]; exact hm) hp, e]; exact h.1.2.2.1 _ pt (by omega) hp
  · rw [eM] at hm
    have b5 : mS (swF z) m = mS z (m + swN z) := by unfold mS; rw [swF_mv h.2 hm (by omega)]
    have b4 : mC (swF z) m = mC z (m + swN z) := by unfold mC; rw [swF_mv h.2 hm (by omega)]
    rw [b5] at hs; rw [b4] at hi
    have hc := h.2.c16 (m := m + swN z) (by omega)
    rw [swF_tk h.2 hm (by omega), swF_tk hIy (by rw [e, h.M]; exact hm) (by omega), e]; exact h.1.2.2.2 _ i (by omega) hs hi
theorem sw_msk {e : Nat → Int32} {g : Nat → Int64} (hI : Inv e) (hG : Msk e g) : Msk (swF e) (swG g (swN e) (Mn e)) := fun m hm => by
  have h24 := hI.M24; have h6 := hI.R6
  have hl := swN_le e
  rw [swF_M hI] at hm
  have a (pt : Nat) (hp : pt < 10) := swF_mv hI hm hp
  have b0 : mF (swF e) m = mF e (m + swN e) := by unfold mF; rw [a 0 (by omega)]
  have b1 : mA (swF e) m = mA e (m + swN e) := by unfold mA; rw [a 1 (by omega)]
  have b2 : mT (swF e) m = mT e (m + swN e) := by unfold mT; rw [a 2 (by omega)]
  have b3 : mB (swF e) m = mB e (m + swN e) := by unfold mB; rw [a 3 (by omega)]
  have b4 : mC (swF e) m = mC e (m + swN e) := by unfold mC; rw [a 4 (by omega)]
  have rf {r : Nat} (hr : r < Rn e) : rF (swF e) r = rF e r := acc_eq _ (swF_lo e (by omega) (by omega) (by omega))
  have rl {r : Nat} (hr : r < Rn e) : rL (swF e) r = rL e r := acc_eq _ (swF_lo e (by omega) (by omega) (by omega))
  have hq : m + swN e < Mn e := by omega
  have c (t : Bool) : csN (swF e) t m = csN e t (m + swN e) := by
    unfold csN csK; rw [b4]
    refine foldN_cong _ (fun i b _ => ?_)
    unfold srcC tgtC; rw [b0, b1, b2, b3, rf (hI.mf hq), rl (hI.mf hq), rf (hI.mt hq), rl (hI.mt hq)]
  rw [c, c]
  unfold swG
  rw [if_pos (by omega), if_pos (by omega)]
  have := hG (m + swN e) hq
  rw [show 2 * m + 2 * swN e = 2 * (m + swN e) by omega, show 2 * m + 1 + 2 * swN e = 2 * (m + swN e) + 1 by omega]
  exact this
/-! all moves at once -/
def fnW (m : Nat) (y : Nat → Int32) : Nat → Int32 := if mS y m = 0 then startF y m else y
def fnS (m : Nat) (y : Nat → Int32) : Nat → Int32 := cpoF (fnW m y) m (mC (fnW m y) m)
def fnK (z : Nat → Int32) (k : Nat) : Nat → Int32 := foldN k fnS z
def fnF (z : Nat → Int32) : Nat → Int32 := fnK z (Mn z)
theorem fnK_0 (z : Nat → Int32) : fnK z 0 = z := rfl
theorem fnK_s (z : Nat → Int32) (k : Nat) : fnK z (k + 1) = cpoF (fnW k (fnK z k)) k (mC (fnW k (fnK z k)) k) := rfl
theorem fnW_si {z : Nat → Int32} (hI : Inv z) (m : Nat) : SI z (fnW m z) := by
  unfold fnW; split
  · exact startF_si hI m
  · exact SI.rf hI
theorem fnS_si {z : Nat → Int32} (hI : Inv z) {m : Nat} (hm : m < Mn z) : SI z (fnS m z) := by
  have h := fnW_si hI m
  exact h.tr (cpoF_si h.2 (by rw [h.1.M]; exact hm) _)
theorem fnK_si {z : Nat → Int32} (hI : Inv z) : ∀ (k : Nat), k ≤ Mn z → SI z (fnK z k)
  | 0, _ => SI.rf hI
  | k + 1, h => by
    have ih := fnK_si hI k (by omega)
    exact ih.tr (fnS_si ih.2 (by rw [ih.1.M]; omega))
/-- alike but for number 5 and for moves below k -/
def FR (k : Nat) (a b : Nat → Int32) : Prop := (∀ j, j < 56 → j ≠ 5 → a j = b j) ∧ (∀ r pt, r < 6 → pt < 4 → a (56 + 4 * r + pt) = b (56 + 4 * r + pt)) ∧ ∀ m, k ≤ m → m < 24 → (∀ pt, pt < 10 → a (80 + 10 * m + pt) = b (80 + 10 * m + pt)) ∧ ∀ i, i < 16 → a (320 + 16 * m + i) = b (320 + 16 * m + i)
theorem FR.src {k : Nat} {a b : Nat → Int32} (h : FR k a b) (hI : Inv b) {m : Nat} (hk : k ≤ m) (hm : m < Mn b) (i : Nat) : srcC a m i = srcC b m i := by
  have h24 := hI.M24; have h6 := hI.R6; have hf := hI.mf hm
  have q := (h.2.2 m hk (by omega)).1
  have e0 : mF a m = mF b m := acc_eq _ (q 0 (by omega))
  have e1 : mA a m = mA b m := acc_eq _ (q 1 (by omega))
  have r0 : rF a (mF b m) = rF b (mF b m) := acc_eq _ (h.2.1 _ 0 (by omega) (by omega))
  have r1 : rL a (mF b m) = rL b (mF b m) := acc_eq _ (h.2.1 _ 1 (by omega) (by omega))
  unfold srcC; rw [e0, e1, r0, r1]
theorem FR.tgt {k : Nat} {a b : Nat → Int32} (h : FR k a b) (hI : Inv b) {m : Nat} (hk : k ≤ m) (hm : m < Mn b) (i : Nat) : tgtC a m i = tgtC b m i := by
  have h24 := hI.M24; have h6 := hI.R6; have hf := hI.mt hm
  have q := (h.2.2 m hk (by omega)).1
  have e0 : mT a m = mT b m := acc_eq _ (q 2 (by omega))
  have e1 : mB a m = mB b m := acc_eq _ (q 3 (by omega))
  have r0 : rF a (mT b m) = rF b (mT b m) := acc_eq _ (h.2.1 _ 0 (by omega) (by omega))
  have r1 : rL a (mT b m) = rL b (mT b m) := acc_eq _ (h.2.1 _ 1 (by omega) (by omega))
  unfold tgtC; rw [e0, e1, r0, r1]
theorem FR.start {k : Nat} {a b : Nat → Int32} (h : FR k a b) (hI : Inv b) (hk : k < Mn b) : FR k (startF a k) (startF b k) := by
  have h24 := hI.M24
  have hc := hI.c16 hk
  have q := h.2.2 k (Nat.le_refl k) (by omega)
  have ec : mC a k = mC b k := acc_eq _ (q.1 4 (by omega))
  refine ⟨fun j hj h5 => ?_, fun r pt hr hp => ?_, fun m hm hm2 => ⟨fun pt hp => ?_, fun i hi => ?_⟩⟩
  · unfold startF; rw [startK_lo _ (by omega) (by omega) (by omega), startK_lo _ (by omega) (by omega) (by omega)]; exact h.1 j hj h5
  · unfold startF; rw [startK_lo _ (by omega) (by omega) (by omega), startK_lo _ (by omega) (by omega) (by omega)]; exact h.2.1 r pt hr hp
  · unfold startF startK
    have n1 : ¬ (320 + 16 * k ≤ 80 + 10 * m + pt ∧ 80 + 10 * m + pt < 320 + 16 * k + mC a k) := by omega
    have n2 : ¬ (320 + 16 * k ≤ 80 + 10 * m + pt ∧ 80 + 10 * m + pt < 320 + 16 * k + mC b k) := by omega
    rw [if_neg n1, if_neg n2, h.1 0 (by omega) (by omega), (h.2.2 m hm hm2).1 pt hp]
  · unfold startF startK
    rw [ec]
    by_cases x : 320 + 16 * k ≤ 320 + 16 * m + i ∧ 320 + 16 * m + i < 320 + 16 * k + mC b k
    · rw [if_pos x, if_pos x, h.src hI (Nat.le_refl k) hk]
      have := hI.src48 hk (320 + 16 * m + i - (320 + 16 * k))
      exact h.1 _ (by omega) (by omega)
    · rw [if_neg x, if_neg x, if_neg (by omega), if_neg (by omega), if_neg (by omega), if_neg (by omega)]; exact (h.2.2 m hm hm2).2 i hi
theorem FR.wr {k : Nat} {a b : Nat → Int32} (h : FR k a b) (hI : Inv b) (hk : k < Mn b) (t : Nat) {j : Nat} (hj : j < 56) (h5 : j ≠ 5) : ∀ n, t + n ≤ mC b k → wrK a k t n j = wrK b k t n j
  | 0, _ => h.1 j hj h5
  | n + 1, hn => by
    have h24 := hI.M24
    have hc := hI.c16 hk
    show upd (wrK a k t n) (8 + tgtC a k (t + n)) (a (320 + 16 * k + (t + n))) j = upd (wrK b k t n) (8 + tgtC b k (t + n)) (b (320 + 16 * k + (t + n))) j
    rw [upd_at, upd_at, h.tgt hI (Nat.le_refl k) hk, (h.2.2 k (Nat.le_refl k) (by omega)).2 (t + n) (by omega), FR.wr h hI hk t hj h5 n (by omega)]
theorem FR.writes {k : Nat} {a b : Nat → Int32} (h : FR k a b) (hIa : Inv a) (hI : Inv b) (hk : k < Mn b) (hka : k < Mn a) {v w : Nat} (hv : mt a k v = mC b k) (hw : mt b k w = mC b k) : FR (k + 1) (writesF a k v) (writesF b k w) := by
  have h24 := hI.M24
  have q := h.2.2 k (Nat.le_refl k) (by omega)
  have ew : mW a k = mW b k := acc_eq _ (q.1 6 (by omega))
  have hwc := hI.wc hk
  refine ⟨fun j hj h5 => ?_, fun r pt hr hp => ?_, fun m hm hm2 => ⟨fun pt hp => ?_, fun i hi => ?_⟩⟩
  · unfold writesF
    rw [upd_at, upd_at, if_neg (by omega), if_neg (by omega), hv, hw, ew]
    exact FR.wr h hI hk _ hj h5 _ (by omega)
  · rw [writesF_out hIa hka _ (by omega) (by omega), writesF_out hI hk _ (by omega) (by omega)]; exact h.2.1 r pt hr hp
  · rw [writesF_out hIa hka _ (by omega) (by omega), writesF_out hI hk _ (by omega) (by omega)]; exact (h.2.2 m (by omega) hm2).1 pt hp
  · rw [writesF_out hIa hka _ (by omega) (by omega), writesF_out hI hk _ (by omega) (by omega)]; exact (h.2.2 m (by omega) hm2).2 i hi
theorem FR.up {k : Nat} {a b : Nat → Int32} (h : FR k a b) : FR (k + 1) a b := ⟨h.1, h.2.1, fun m hm hm2 => h.2.2 m (by omega) hm2⟩
theorem FR.phase {k : Nat} {a b : Nat → Int32} (h : FR (k + 1) a b) (hk : k < 24) (u v w : Int32) : FR (k + 1) (upd (upd (upd a (80 + 10 * k + 5) u) (80 + 10 * k + 8) v) 5 w) b := by
  have o {j : Nat} (h1 : j ≠ 80 + 10 * k + 5) (h2 : j ≠ 80 + 10 * k + 8) (h3 : j ≠ 5) : upd (upd (upd a (80 + 10 * k + 5) u) (80 + 10 * k + 8) v) 5 w j = a j := by rw [upd_at, if_neg h3, upd_at, if_neg h2, upd_at, if_neg h1]
  exact ⟨fun j hj h5 => (o (by omega) (by omega) h5).trans (h.1 j hj h5), fun r pt hr hp => (o (by omega) (by omega) (by omega)).trans (h.2.1 r pt hr hp), fun m hm hm2 => ⟨fun pt hp => (o (by omega) (by omega) (by omega)).trans ((h.2.2 m hm hm2).1 pt hp), fun i hi => (o (by omega) (by omega) (by omega)).trans ((h.2.2 m hm hm2).2 i hi)⟩⟩
theorem mt_all (a : Nat → Int32) (k : Nat) : mt a k (mC a k) = mC a k := by unfold mt; rw [if_neg (by omega)]
theorem mt_16 {a : Nat → Int32} {k : Nat} (h : mC a k ≤ 16) : mt a k 16 = mC a k := by unfold mt; rw [if_neg (by omega)]
theorem FR.step {k : Nat} {a b : Nat → Int32} (h : FR k a b) (hIa : Inv a) (hI : Inv b) (hk : k < Mn b) (hka : k < Mn a) : FR (k + 1) (fnS k a) (finS k b) := by
  have h24 := hI.M24
  have q := h.2.2 k (Nat.le_refl k) (by omega)
  have es : mS a k = mS b k := acc_eq _ (q.1 5 (by omega))
  have key (a' b' : Nat → Int32) (h' : FR k a' b') (hIa' : Inv a') (hI' : Inv b') (hk' : k < Mn b') (hka' : k < Mn a') (hs : mS a' k = 1) : FR (k + 1) (cpoF a' k (mC a' k)) (writesF b' k 16) := by
    have h24' := hI'.M24
    have ec : mC a' k = mC b' k := acc_eq _ ((h'.2.2 k (Nat.le_refl k) (by omega)).1 4 (by omega))
    have hc := hI'.c16 hk'
    unfold cpoF
    rw [if_pos hs, if_pos (mt_all a' k)]
    exact FR.phase (h'.writes hIa' hI' hk' hka' ((mt_all a' k).trans ec) (mt_16 hc)) (by omega) _ _ _
  unfold fnS finS fnW
  rw [es]
  by_cases h0 : mS b k = 0
  · rw [if_pos h0, if_pos h0]
    have sa := startF_si hIa k
    have sb := startF_si hI k
    exact key _ _ (h.start hI hk) sa.2 sb.2 (by rw [sb.1.M]; exact hk) (by rw [sa.1.M]; exact hka) (startF_mS k (by omega))
  · rw [if_neg h0, if_neg h0]
    by_cases h1 : mS b k = 1
    · rw [if_pos h1]; exact key a b h hIa hI hk hka (es.trans h1)
    · rw [if_neg h1]
      have e : cpoF a k (mC a k) = a := by unfold cpoF; rw [if_neg (by rw [es]; exact h1)]
      rw [e]; exact h.up
theorem fnK_s2 (z : Nat → Int32) (k : Nat) : fnK z (k + 1) = fnS k (fnK z k) := by unfold fnK; exact foldN_s _ _ _
theorem finK_s2 (z : Nat → Int32) (k : Nat) : finK z (k + 1) = finS k (finK z k) := by unfold finK; exact foldN_s _ _ _
theorem FR_k {z : Nat → Int32} (hI : Inv z) (k : Nat) : k ≤ Mn z → FR k (fnK z k) (finK z k) := by
  induction k with
  | zero => intro _; rw [fnK_0, finK_0]; exact ⟨fun _ _ _ => rfl, fun _ _ _ _ => rfl, fun _ _ _ => ⟨fun _ _ => rfl, fun _ _ => rfl⟩⟩
  | succ k ih =>
    intro h
    have ha := fnK_si hI k (by omega)
    have hb := finK_si hI k (by omega)
    rw [fnK_s2, finK_s2]
    exact (ih (by omega)).step ha.2 hb.2 (by rw [hb.1.M]; omega) (by rw [ha.1.M]; omega)
theorem fn_fin {z : Nat → Int32} (hI : Inv z) {j : Nat} (h8 : 8 ≤ j) (h : j < 56) : fnF z j = finF z j := (FR_k hI _ (Nat.le_refl _)).1 j h (by omega)
/-! depths -/
def dcK (e : Nat → Int32) (k : Nat) : Nat → Int32 := fun j => if 704 ≤ j ∧ j < 704 + k then nI (dpT e k (j - 704)) else e j
theorem dcK_0 (e : Nat → Int32) : dcK e 0 = e := by funext j; unfold dcK; rw [if_neg (by omega)]
theorem dcK_lo (e : Nat → Int32) (k : Nat) {j : Nat} (h : j < 704) : dcK e k j = e j := by unfold dcK; rw [if_neg (by omega)]
theorem dcK_in (e : Nat → Int32) {k j : Nat} (h : j < k) : dcK e k (704 + j) = nI (dpT e k j) := by
  unfold dcK; rw [if_pos (by omega), show 704 + j - 704 = j by omega]
theorem dcK_s (e : Nat → Int32) (k : Nat) : upd (dcK e k) (704 + k) (nI (dpV e (dpT e k) k k)) = dcK e (k + 1) := by
  funext j; rw [upd_at]; unfold dcK
  by_cases h : j = 704 + k
  · rw [if_pos h, if_pos (by omega)]
    show _ = nI (if j - 704 = k then dpV e (dpT e k) k k else dpT e k (j - 704))
    rw [if_pos (by omega)]
  · rw [if_neg h]
    by_cases h2 : 704 ≤ j ∧ j < 704 + k
    · rw [if_pos h2, if_pos (by omega)]
      show _ = nI (if j - 704 = k then dpV e (dpT e k) k k else dpT e k (j - 704))
      rw [if_neg (by omega)]
    · rw [if_neg h2, if_neg (by omega)]
theorem dc_ei {e : Nat → Int32} (hI : Inv e) (k : Nat) : EI e (dcK e k) := ⟨Eqv.of_eq hI (fun j hj => dcK_lo e k hj), hI⟩
theorem dp_bit (a x : Nat) : (¬ a &&& 2 ^ x = 0) ↔ a / 2 ^ x % 2 = 1 := by
  rw [and_bit, Nat.testBit_eq_decide_div_mod_eq]; simp
theorem dpV_max (z : Nat → Int32) (t : Nat → Nat) (m k : Nat) : dpV z t m (k + 1) = if ¬ woN z m &&& 2 ^ k = 0 then max (dpV z t m k) (1 + t k) else dpV z t m k := by
  rw [dpV_s]
  by_cases h : woN z m / 2 ^ k % 2 = 1
  · rw [if_pos h, if_pos ((dp_bit _ _).mpr h), Nat.add_comm (t k) 1]
    rcases Nat.le_total (1 + t k) (dpV z t m k) with q | q
    · rw [if_pos q, Nat.max_eq_left q]
    · rw [Nat.max_eq_right q]; split
      · omega
      · rfl
  · rw [if_neg h, if_neg (fun q => h ((dp_bit _ _).mp q)), if_pos (Nat.zero_le _)]
theorem cy5_si {y : Nat → Int32} (hI : Inv y) {k : Nat} (hk : k ≤ Mn y) : SI y (cy5 y k) := by
  have h := cyK_si hI k hk
  have h2 : Stay (cyK y k) (cy5 y k) := by
    unfold cy5
    refine ⟨?_, ?_, ?_, fun r pt _ _ => ?_, fun k pt _ _ => ?_⟩ <;> rw [upd_at, if_neg (by omega)]
  exact h.tr ⟨h2, h2.inv0 h.2 (fun k _ => by unfold cy5; rw [upd_at, if_neg (by omega)]) (fun k _ => by unfold cy5; rw [upd_at, if_neg (by omega)])⟩
