/-! every command, over alike rows -/
theorem ev_struck {z y : Nat → Int32} (h : EI z y) {r : Nat} (hr : r < 6) (b : Bool) : EI (upd z (56 + 4 * r + 3) (bI b)) (upd y (56 + 4 * r + 3) (bI b)) := by
  refine ⟨?_, stk_inv h.2 r b⟩
  have h24 := h.2.M24
  have eM : Mn (upd z (56 + 4 * r + 3) (bI b)) = Mn z := acc_eq 4 (stk_at z r b (by omega))
  refine ⟨fun j hj => ?_, fun q p hq hp => ?_, fun m p hm hp => ?_, fun m i hm hs hi => ?_⟩
  · rw [upd_at, upd_at, h.1.1 j hj]
  · rw [stk_R] at hq
    rw [upd_at, upd_at, h.1.2.1 q p hq hp]
  · rw [eM] at hm
    rw [stk_at _ _ _ (by omega), stk_at _ _ _ (by omega)]
    exact h.1.2.2.1 m p hm hp
  · rw [eM] at hm
    have e5 : mS (upd z (56 + 4 * r + 3) (bI b)) m = mS z m := acc_eq _ (stk_at z r b (by omega))
    have e4 : mC (upd z (56 + 4 * r + 3) (bI b)) m = mC z m := acc_eq _ (stk_at z r b (by omega))
    rw [e5] at hs; rw [e4] at hi
    rw [stk_at _ _ _ (by omega), stk_at _ _ _ (by omega)]
    exact h.1.2.2.2 m i hm hs hi
theorem lo_stay (z : Nat → Int32) {i : Nat} (hi : i < 56) (h1 : i ≠ 1) (h3 : i ≠ 3) (h4 : i ≠ 4) (v : Int32) : Stay z (upd z i v) := by
  refine ⟨?_, ?_, ?_, fun r pt _ _ => ?_, fun k pt _ _ => ?_⟩ <;> rw [upd_at, if_neg (by omega)]
theorem lo_inv {z : Nat → Int32} (hI : Inv z) {i : Nat} (hi : i < 56) (h1 : i ≠ 1) (h3 : i ≠ 3) (h4 : i ≠ 4) (v : Int32) : Inv (upd z i v) :=
  (lo_stay z hi h1 h3 h4 v).inv0 hI (fun k _ => by rw [upd_at, if_neg (by omega)]) (fun k _ => by rw [upd_at, if_neg (by omega)])
theorem ev_lo {z y : Nat → Int32} (h : EI z y) {i : Nat} (hi : i < 56) (h1 : i ≠ 1) (h3 : i ≠ 3) (h4 : i ≠ 4) (v : Int32) : EI (upd z i v) (upd y i v) :=
  ⟨ev_lowU h.1 i v v hi h3 h4 rfl, lo_inv h.2 hi h1 h3 h4 v⟩
theorem sp_inv {z : Nat → Int32} (hI : Inv z) {s : Nat} (h1 : 1 ≤ s) (h8 : s ≤ 8) : Inv (upd z 1 (nI s)) := by
  have o {j : Nat} (hj : j ≠ 1) : upd z 1 (nI s) j = z j := by rw [upd_at, if_neg hj]
  have eR : Rn (upd z 1 (nI s)) = Rn z := acc_eq 3 (o (by omega))
  have eM : Mn (upd z 1 (nI s)) = Mn z := acc_eq 4 (o (by omega))
  have e1 : upd z 1 (nI s) 1 = nI s := by rw [upd_at, if_pos rfl]
  have eS : Sp (upd z 1 (nI s)) = s := by unfold Sp; rw [e1, nn_nI (by omega)]
  refine ⟨⟨by rw [o (by omega), eR]; exact hI.z3, by rw [eR]; exact hI.R6⟩, ⟨by rw [o (by omega), eM]; exact hI.z4, by rw [eM]; exact hI.M24⟩, ⟨by rw [e1, eS], by omega, by omega⟩, fun r hr => ?_, fun m hm => ?_⟩
  · rw [eR] at hr
    have b0 : rF (upd z 1 (nI s)) r = rF z r := acc_eq _ (o (by omega))
    have b1 : rL (upd z 1 (nI s)) r = rL z r := acc_eq _ (o (by omega))
    unfold IRg
    rw [o (by omega), o (by omega), o (by omega), b0, b1]
    exact hI.2.2.2.1 r hr
  · rw [eM] at hm
    have a (pt : Nat) : upd z 1 (nI s) (80 + 10 * m + pt) = z (80 + 10 * m + pt) := o (by omega)
    have b0 : mF (upd z 1 (nI s)) m = mF z m := acc_eq _ (a 0)
    have b1 : mA (upd z 1 (nI s)) m = mA z m := acc_eq _ (a 1)
    have b2 : mT (upd z 1 (nI s)) m = mT z m := acc_eq _ (a 2)
    have b3 : mB (upd z 1 (nI s)) m = mB z m := acc_eq _ (a 3)
    have b4 : mC (upd z 1 (nI s)) m = mC z m := acc_eq _ (a 4)
    have b5 : mS (upd z 1 (nI s)) m = mS z m := acc_eq _ (a 5)
    have b6 : mW (upd z 1 (nI s)) m = mW z m := acc_eq _ (a 6)
    unfold IMv
    rw [a 0, a 1, a 2, a 3, a 4, a 5, a 6, b0, b1, b2, b3, b4, b5, b6, eR]
    exact hI.2.2.2.2 m hm
theorem wse_w {x v : Int32} (h : wse x v = 0) : (x = nI 0 ∧ ∃ s, 1 ≤ s ∧ s ≤ 8 ∧ v = nI s) ∨ (x = nI 1 ∧ ∃ s, 1 ≤ s ∧ s ≤ 4 ∧ v = nI s) := by
  unfold wse at h
  split at h
  · rename_i h1
    rcases h1 with ⟨e, q⟩ | ⟨e, q⟩
    · exact Or.inl ⟨e, wi_nat (by decide) (by decide) q⟩
    · exact Or.inr ⟨e, wi_nat (by decide) (by decide) q⟩
  · omega
theorem crG_0 (z : Nat → Int32) (a b c d e : Int32) : crG z 0 a b c d e = prF z a b c := by
  unfold crG; rw [if_pos rfl]
theorem crG_1 (z : Nat → Int32) (a b c d e : Int32) : crG z 1 a b c d e = pmF z a b c d e := by
  unfold crG; rw [if_neg (by decide), if_pos rfl]
theorem crG_2 (z : Nat → Int32) (a b c d e : Int32) : crG z 2 a b c d e = signF z (fcN z (nn a)) := by
  unfold crG; rw [if_neg (by decide), if_neg (by decide), if_pos rfl]
theorem crG_3 (z : Nat → Int32) (a b c d e : Int32) : crG z 3 a b c d e = upd z (56 + 4 * nn a + 3) (nI 1) := by
  unfold crG; rw [if_neg (by decide), if_neg (by decide), if_neg (by decide), if_pos rfl]
theorem crG_4 (z : Nat → Int32) (a b c d e : Int32) : crG z 4 a b c d e = upd z (56 + 4 * nn a + 3) (nI 0) := by
  unfold crG; rw [if_neg (by decide), if_neg (by decide), if_neg (by decide), if_neg (by decide), if_pos rfl]
theorem crG_5 (z : Nat → Int32) (a b c d e : Int32) : crG z 5 a b c d e = upd z (8 + nn a) b := by
  unfold crG; rw [if_neg (by decide), if_neg (by decide), if_neg (by decide), if_neg (by decide), if_neg (by decide), if_pos rfl]
theorem crG_6 (z : Nat → Int32) (a b c d e : Int32) : crG z 6 a b c d e = upd z (1 + nn a) b := by
  unfold crG; rw [if_neg (by decide), if_neg (by decide), if_neg (by decide), if_neg (by decide), if_neg (by decide), if_neg (by decide), if_pos rfl]
theorem crG_7 (z : Nat → Int32) (a b c d e : Int32) : crG z 7 a b c d e = psF z (nn a) := by
  unfold crG; rw [if_neg (by decide), if_neg (by decide), if_neg (by decide), if_neg (by decide), if_neg (by decide), if_neg (by decide), if_neg (by decide)]
theorem crW_0 (z : Nat → Int32) (a b c d e : Int32) : crW z 0 a b c d e = wrg z a b c := by
  unfold crW; rw [if_pos rfl]
theorem crW_1 (z : Nat → Int32) (a b c d e : Int32) : crW z 1 a b c d e = wmv z a b c d e := by
  unfold crW; rw [if_neg (by decide), if_pos rfl]
theorem crW_2 (z : Nat → Int32) (a b c d e : Int32) : crW z 2 a b c d e = wsg z a := by
  unfold crW; rw [if_neg (by decide), if_neg (by decide), if_pos rfl]
theorem crW_3 (z : Nat → Int32) (a b c d e : Int32) : crW z 3 a b c d e = wst z a (nI 1) := by
  unfold crW; rw [if_neg (by decide), if_neg (by decide), if_neg (by decide), if_pos rfl]
theorem crW_4 (z : Nat → Int32) (a b c d e : Int32) : crW z 4 a b c d e = wst z a (nI 0) := by
  unfold crW; rw [if_neg (by decide), if_neg (by decide), if_neg (by decide), if_neg (by decide), if_pos rfl]
theorem crW_5 (z : Nat → Int32) (a b c d e : Int32) : crW z 5 a b c d e = wwr z a b := by
  unfold crW; rw [if_neg (by decide), if_neg (by decide), if_neg (by decide), if_neg (by decide), if_neg (by decide), if_pos rfl]
theorem crW_6 (z : Nat → Int32) (a b c d e : Int32) : crW z 6 a b c d e = wse a b := by
  unfold crW; rw [if_neg (by decide), if_neg (by decide), if_neg (by decide), if_neg (by decide), if_neg (by decide), if_neg (by decide), if_pos rfl]
theorem crW_7 (z : Nat → Int32) (a b c d e : Int32) : crW z 7 a b c d e = wtk z a := by
  unfold crW; rw [if_neg (by decide), if_neg (by decide), if_neg (by decide), if_neg (by decide), if_neg (by decide), if_neg (by decide), if_neg (by decide)]
theorem ev_crG {z y : Nat → Int32} (h : EI z y) {kd : Nat} (hk : kd < 8) {a b c d e : Int32} (hw : crW z kd a b c d e = 0) : EI (crG z kd a b c d e) (crG y kd a b c d e) := by
  have h6 := h.2.R6
  have h24 := h.2.M24
  have : kd = 0 ∨ kd = 1 ∨ kd = 2 ∨ kd = 3 ∨ kd = 4 ∨ kd = 5 ∨ kd = 6 ∨ kd = 7 := by omega
  rcases this with rfl | rfl | rfl | rfl | rfl | rfl | rfl | rfl
  · rw [crW_0] at hw; rw [crG_0, crG_0]; exact ev_pr h hw
  · rw [crW_1] at hw; rw [crG_1, crG_1]; exact ev_pm h hw
  · rw [crW_2] at hw; rw [crG_2, crG_2]
    obtain ⟨r, hr, rfl, hf⟩ := wsg_0 h.2 hw
    rw [h.1.fc, nn_nI (by omega)]
    exact ⟨ev_sign h.1 h.2 (by omega), signF_inv h.2 _⟩
  · rw [crW_3] at hw; rw [crG_3, crG_3]
    obtain ⟨r, hr, rfl⟩ := wst_0 h.2 hw
    rw [nn_nI (by omega)]
    exact ev_struck h (by omega) true
  · rw [crW_4] at hw; rw [crG_4, crG_4]
    obtain ⟨r, hr, rfl⟩ := wst_0 h.2 hw
    rw [nn_nI (by omega)]
    exact ev_struck h (by omega) false
  · rw [crW_5] at hw; rw [crG_5, crG_5]
    obtain ⟨q, hq, rfl⟩ := wwr_0 hw
    rw [nn_nI (by omega)]
    exact ev_lo h (by omega) (by omega) (by omega) (by omega) b
  · rw [crW_6] at hw; rw [crG_6, crG_6]
    rcases wse_w hw with ⟨rfl, s, h1, h8, rfl⟩ | ⟨rfl, s, h1, h8, rfl⟩
    · rw [nn_nI (by omega)]
      exact ⟨ev_lowU h.1 1 _ _ (by omega) (by omega) (by omega) rfl, sp_inv h.2 h1 h8⟩
    · rw [nn_nI (by omega)]
      exact ev_lo h (by omega) (by omega) (by omega) (by omega) _
  · rw [crG_7, crG_7]; exact ev_ps h _
theorem ev_crF {z y : Nat → Int32} (h : EI z y) {kd : Nat} (hk : kd < 8) (a b c d e : Int32) : EI (crF z kd a b c d e) (crF y kd a b c d e) := by
  unfold crF; rw [ev_crW h]; split
  · exact ev_crG h hk (by assumption)
  · exact h
/-- numbers that a command has not are not looked at -/
theorem crF_args (z : Nat → Int32) {kd : Nat} (hk : kd < 8) {a b c d e a' b' c' d' e' : Int32} (h0 : 0 < nmC kd → a' = a) (h1 : 1 < nmC kd → b' = b) (h2 : 2 < nmC kd → c' = c) (h3 : 3 < nmC kd → d' = d) (h4 : 4 < nmC kd → e' = e) : crW z kd a' b' c' d' e' = crW z kd a b c d e ∧ crG z kd a' b' c' d' e' = crG z kd a b c d e := by
  have : kd = 0 ∨ kd = 1 ∨ kd = 2 ∨ kd = 3 ∨ kd = 4 ∨ kd = 5 ∨ kd = 6 ∨ kd = 7 := by omega
  rcases this with rfl | rfl | rfl | rfl | rfl | rfl | rfl | rfl
  · rw [h0 (by decide)]; rw [h1 (by decide)]; rw [h2 (by decide)]; rw [crW_0, crW_0, crG_0, crG_0]; exact ⟨rfl, rfl⟩
  · rw [h0 (by decide)]; rw [h1 (by decide)]; rw [h2 (by decide)]; rw [h3 (by decide)]; rw [h4 (by decide)]; exact ⟨rfl, rfl⟩
  · rw [h0 (by decide)]; rw [crW_2, crW_2, crG_2, crG_2]; exact ⟨rfl, rfl⟩
  · rw [h0 (by decide)]; rw [crW_3, crW_3, crG_3, crG_3]; exact ⟨rfl, rfl⟩
  · rw [h0 (by decide)]; rw [crW_4, crW_4, crG_4, crG_4]; exact ⟨rfl, rfl⟩
  · rw [h0 (by decide)]; rw [h1 (by decide)]; rw [crW_5, crW_5, crG_5, crG_5]; exact ⟨rfl, rfl⟩
  · rw [h0 (by decide)]; rw [h1 (by decide)]; rw [crW_6, crW_6, crG_6, crG_6]; exact ⟨rfl, rfl⟩
  · rw [h0 (by decide)]; rw [crW_7, crW_7, crG_7, crG_7]; exact ⟨rfl, rfl⟩
/-! what lies behind the state stays -/
def Fr (z y : Nat → Int32) : Prop := ∀ j, 704 ≤ j → y j = z j
theorem Fr.rf {z : Nat → Int32} : Fr z z := fun _ _ => rfl
theorem Fr.tr {z y x : Nat → Int32} (h : Fr z y) (h2 : Fr y x) : Fr z x := fun j q => (h2 j q).trans (h j q)
theorem fr_upd (z : Nat → Int32) {i : Nat} (hi : i < 704) (v : Int32) : Fr z (upd z i v) := fun j q => by rw [upd_at, if_neg (by omega)]
theorem fr_sign (z : Nat → Int32) {m : Nat} (hm : m < 24) : Fr z (signF z m) := fun j q => by
  rw [signF_at, if_neg (by omega), if_neg (by omega), if_neg (by omega)]
theorem fr_start {z : Nat → Int32} (hI : Inv z) {m : Nat} (hm : m < Mn z) : Fr z (startF z m) := fun j q => by
  have h24 := hI.M24
  have hc := hI.c16 hm
  unfold startF startK
  rw [if_neg (by omega), if_neg (by omega), if_neg (by omega)]
theorem fr_writes {z : Nat → Int32} (hI : Inv z) {m : Nat} (hm : m < Mn z) (w : Nat) : Fr z (writesF z m w) := fun j q => by
  have h24 := hI.M24
  exact writesF_out hI hm w (by omega) (by omega)
theorem fr_sgR {z : Nat → Int32} (hI : Inv z) (r : Nat) {k : Nat} (hk : k ≤ Mn z) : Fr z (sgR r k z) := by
  have h24 := hI.M24
  unfold sgR
  refine (foldN_relI (P := fun (_ : Unit) a => Fr z a) (g := fun _ u => u) (a := ()) k Fr.rf (fun m _ b hm q => q.tr ?_))
  unfold sgS; split
  · exact fr_sign b (by omega)
  · exact Fr.rf
theorem fr_sgF {z : Nat → Int32} (hI : Inv z) : Fr z (sgF z) := by
  unfold sgF sgK
  refine (foldN_relI (P := fun (_ : Unit) a => Fr z a ∧ SI z a) (g := fun _ u => u) (a := ()) (Rn z) ⟨Fr.rf, SI.rf hI⟩ (fun r _ b hr q => ?_)).1
  unfold sgT; split
  · exact ⟨q.1.tr (fr_sgR q.2.2 r (by rw [q.2.1.M]; exact Nat.le_refl _)), q.2.tr (sgR_si q.2.2 r _)⟩
  · exact q
theorem fr_stK {z : Nat → Int32} (hI : Inv z) {k : Nat} (hk : k ≤ Mn z) : Fr z (stK z k) := by
  unfold stK
  refine (foldN_relI (P := fun (_ : Unit) a => Fr z a ∧ SI z a) (g := fun _ u => u) (a := ()) k ⟨Fr.rf, SI.rf hI⟩ (fun m _ b hm q => ?_)).1
  unfold stS; split
  · exact ⟨q.1.tr (fr_start q.2.2 (by rw [q.2.1.M]; omega)), q.2.tr (startF_si q.2.2 m)⟩
  · exact q
theorem fr_cyS {z : Nat → Int32} (hI : Inv z) {m : Nat} (hm : m < Mn z) : Fr z (cyS m z) := by
  have h24 := hI.M24
  unfold cyS; split
  · split
    · exact ((fr_writes hI hm _).tr (fr_upd _ (by omega) _)).tr (fr_upd _ (by omega) _)
    · exact fr_writes hI hm _
  · exact Fr.rf
theorem fr_cyK {z : Nat → Int32} (hI : Inv z) {k : Nat} (hk : k ≤ Mn z) : Fr z (cyK z k) := by
  unfold cyK
  refine (foldN_relI (P := fun (_ : Unit) a => Fr z a ∧ SI z a) (g := fun _ u => u) (a := ()) k ⟨Fr.rf, SI.rf hI⟩ (fun m _ b hm q => ?_)).1
  have hmb : m < Mn b := by rw [q.2.1.M]; omega
  exact ⟨q.1.tr (fr_cyS q.2.2 hmb), q.2.tr (cyS_si q.2.2 hmb)⟩
theorem fr_tick {z : Nat → Int32} (hI : Inv z) : Fr z (tickF z) := by
  have h1 := sgF_si hI
  have h2 := tkA_si hI
  have a1 := fr_sgF hI
  have a2 : Fr (sgF z) (tkA z) := by unfold tkA; exact fr_stK h1.2 (by rw [h1.1.M]; exact Nat.le_refl _)
  have a3 : Fr (tkA z) (tkB z) := by unfold tkB; exact fr_cyK h2.2 (by rw [h2.1.M]; exact Nat.le_refl _)
  unfold tickF
  exact (((a1.tr a2).tr a3).tr (fr_upd _ (by omega) _)).tr (fr_upd _ (by omega) _)
theorem fr_ps {z : Nat → Int32} (hI : Inv z) (k : Nat) : Fr z (psF z k) := by
  unfold psF
  exact (foldN_relI (P := fun (_ : Unit) a => Fr z a ∧ SI z a) (g := fun _ u => u) (a := ()) k ⟨Fr.rf, SI.rf hI⟩ (fun m _ b hm q => ⟨q.1.tr (fr_tick q.2.2), q.2.tr (tickF_si q.2.2)⟩)).1
theorem fr_pr {z : Nat → Int32} (f ln pt : Int32) (h : Rn z < 6) : Fr z (prF z f ln pt) := fun j q => pr_out z f ln pt (by omega) (by omega)
theorem fr_pm {z : Nat → Int32} (f fp t tp n : Int32) (h : Mn z < 24) : Fr z (pmF z f fp t tp n) := fun j q => pm_out z f fp t tp n (by omega) (by omega)
theorem fr_crF {z : Nat → Int32} (hI : Inv z) {kd : Nat} (hk : kd < 8) (a b c d e : Int32) : Fr z (crF z kd a b c d e) := by
  have h6 := hI.R6
  have h24 := hI.M24
  unfold crF; split
  · rename_i hw
    have : kd = 0 ∨ kd = 1 ∨ kd = 2 ∨ kd = 3 ∨ kd = 4 ∨ kd = 5 ∨ kd = 6 ∨ kd = 7 := by omega
    rcases this with rfl | rfl | rfl | rfl | rfl | rfl | rfl | rfl
    · rw [crW_0] at hw; rw [crG_0]; exact fr_pr a b c (wrg_0 hI hw)
    · rw [crW_1] at hw; rw [crG_1]; exact fr_pm a b c d e (wmv_0 hI hw)
    · rw [crW_2] at hw; rw [crG_2]
      obtain ⟨r, hr, rfl, hf⟩ := wsg_0 hI hw
      rw [nn_nI (by omega)]; exact fr_sign z (by omega)
    · rw [crW_3] at hw; rw [crG_3]
      obtain ⟨r, hr, rfl⟩ := wst_0 hI hw
      rw [nn_nI (by omega)]; exact fr_upd z (by omega) _
    · rw [crW_4] at hw; rw [crG_4]
      obtain ⟨r, hr, rfl⟩ := wst_0 hI hw
      rw [nn_nI (by omega)]; exact fr_upd z (by omega) _
    · rw [crW_5] at hw; rw [crG_5]
      obtain ⟨q, hq, rfl⟩ := wwr_0 hw
      rw [nn_nI (by omega)]; exact fr_upd z (by omega) _
    · rw [crW_6] at hw; rw [crG_6]
      obtain ⟨q, hq, rfl⟩ := wse_0 hw
      rw [nn_nI (by omega)]; exact fr_upd z (by omega) _
    · rw [crG_7]; exact fr_ps hI _
  · exact Fr.rf
