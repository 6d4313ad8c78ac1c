/-! the law's script cells; what stands in its loop; its actions in plain words -/
def cvI (xs : Nat → Int32) (N k : Nat) : Int32 := if k < N then xs k else 1171911601 * nI (k + 1) + 987654321
def PcS (D : va_G) (cs : Nat → ClassId) (bs N : Nat) (xs : Nat → Int32) (av : List Value) : Array Value → State → Prop := fun v U => v = av.toArray ∧ (va_K D vwCl (kTy cs) U ∧ NK U) ∧ va_X bs N xs U U.heap ∧ bs < U.heap.size
section PCS
variable {p : Program} {l : Launch} {e : Env} {R : Room} {s : State} {m : MethodId} {args : Array Value} {below : List Frame} {meth : Method} {c : Code} {H H0 : Heap} {locs : List Loc} {cells slots : Nat} {Q : State → Prop}
variable {cc : ByteArray} {pc : Nat} {ls : Array Slot} {rest st0 : List Value} {D : va_G} {cs : Nat → ClassId} {bs N : Nat} {xs : Nat → Int32} {A : Nat → Prop} {free : Addr → Prop}
theorem PcS_blind {av : List Value} : FrameBlind (PcS D cs bs N xs av) := fun a U g mk q => ⟨q.1, ⟨va_K.moved (u := U) (U := U.calling g mk a) (Vm.Alike.refl U.vm) q.2.1.1, q.2.1.2.same rfl⟩, va_X.moved (u := U) (U := U.calling g mk a) (Vm.Alike.refl U.vm) q.2.2.1, q.2.2.2⟩
theorem kx_preSC {av : List Value} (hK : va_K D vwCl (kTy cs) s) (hN : NK s) (hX : va_X bs N xs s H) (hb : bs < H.size) : PreS s H (PcS D cs bs N xs av) av :=
  ⟨PcS_blind, fun U hU hW => ⟨rfl, ⟨va_K.moved hW.alike hK, hN.warm hW⟩, by rw [hU]; exact va_X.moved hW.alike hX, by rw [hU]; exact hb⟩⟩
theorem kx_metS {y : MethodName} {ws ws' : List Cond} {rm : Room} {av : List Value} {Qc : Array Value → State → Outcome → State → Prop} {mc ms maxL : Nat} {ret : Option FieldType} (hy : plainName y.cls = true) (hw : ws = Cond.code y cc maxL ret :: ws') (hlen : (lg_sl av).length ≤ maxL)
    (body : ∀ (p : Program) (e : Env) (s : State) (m : MethodId) (args : Array Value) (below : List Frame) (meth : Method) (c : Code), p.tables.exec = Jvm.exec → c.code = cc → c.maxLocals = maxL → meth.sig.returnType = ret → (∀ w ∈ ws, w.before args s = true) → s.vm.findClass y.cls = some m.cls → meth.locks = false → va_X bs N xs s s.heap → bs < s.heap.size →
      ∀ ls : Array Slot, lv_has ls maxL (lv_args 0 av) → W p l e rm s m args below meth c s.heap [] 0 0 (MQ below Qc args s mc ms free) (F0 m 0 ls [])) : Met l y ws rm (PcS D cs bs N xs av) Qc mc ms free := by
  refine Met.ofW hy hw ?_
  intro p e s m args below meth c s₁ B hml hv
  obtain ⟨rfl, ⟨hK, hN⟩, hX, hbs⟩ := hv
  have hl := lv_entry av hlen
  rw [lg_entry_eq]
  exact body p e s m _ below meth c B.exec B.bytes hml B.returns (atoms_spec (ws := ws) B.pre) (findClass_of_methodNamed B.named) B.notSynchronized hX hbs _ hl
theorem kx_sld (hexec : p.tables.exec = Jvm.exec) (hb : c.code = cc) {bs N : Nat} {xs : Nat → Int32} (hX : va_X bs N xs s H0) (hbl : bs < H0.size) (hbA : ¬ A bs) (hS : va_S A H0 H locs) {j : Nat} (hj : j < N) (hN : N ≤ 3072) {v : Int32} (hv : v = xs j) (hdg : decode cc pc = .ok (.iaload, 1))
    (kk : W p l e R s m args below meth c H locs cells slots Q (F0 m (pc + 1) ls (.int v :: rest))) : W p l e R s m args below meth c H locs cells slots Q (F0 m pc ls (.int (nI j) :: .ref bs :: rest)) := by
  subst hv
  exact va_sld hexec hb hX hbl hbA hS (vp_in_nI hj (by omega)) hdg (by rw [nI_clamp (by omega)]; exact kk)
end PCS
set_option maxHeartbeats 2500000 in
set_option maxRecDepth 100000 in
theorem k_L_cell (l : Launch) (D : va_G) (cs : Nat → ClassId) (bs N : Nat) (xs : Nat → Int32) (k : Nat) (hk : k < 2 ^ 20) (hN : N ≤ 260) : Met l yL_cell wsL_cell ({ frames := 0, cells := 0, slots := 0, locals := 0 } : Room) (PcS D cs bs N xs [.ref bs, .int (nI k)]) (QcP (some (.int (cvI xs N k)))) 0 0 nowhere := by
  refine kx_metS (cc := cL_cell) (maxL := 2) (ret := (some .int)) (by decide) rfl (Nat.le_of_ble_eq_true rfl) ?_
  intro p en s m args below meth c hx hb hml hrt hts hown hlk hX hbs ls hl
  have hl : lv_has ls 2 [(0, .ref bs), (1, .int (nI k))] := hl
  have hS : va_S (fun _ : Nat => False) s.heap s.heap [] := va_S.rf
  refine lv_iload_n hx hb dL_cell_0 rfl (lv_at hl 1 rfl) ?_
  refine lv_aload_n hx hb dL_cell_1 rfl (lv_at hl 0 rfl) ?_
  refine va_slen hx hb hX hbs (fun h => h) hS dL_cell_2 ?_
  refine kx_ci (y := nI N) rfl ?_
  refine kn_icmp_ge (tgt := 12) hx hb dL_cell_3 (by decide) (by omega) (by omega) (fun h => ?_) (fun h => ?_)
  · refine lv_ldc (v := 1171911601) hx hb hown (hts (.constant RL 7 (1171911601)) (by decide +kernel)) dL_cell_12 ?_
    refine lv_iload_n hx hb dL_cell_14 rfl (lv_at hl 1 rfl) ?_
    refine lv_iconst (v := nI 1) hx hb dL_cell_15 (by decide) ?_
    refine kn_add hx hb dL_cell_16 ?_
    refine lv_imul hx hb dL_cell_17 ?_
    refine lv_ldc (v := 987654321) hx hb hown (hts (.constant RL 8 (987654321)) (by decide +kernel)) dL_cell_18 ?_
    refine lv_iadd hx hb dL_cell_20 ?_
    exact kx_iretP hx hb hrt hlk (by unfold cvI; rw [if_neg (by omega)]) dL_cell_21
  · refine lv_aload_n hx hb dL_cell_6 rfl (lv_at hl 0 rfl) ?_
    refine lv_iload_n hx hb dL_cell_7 rfl (lv_at hl 1 rfl) ?_
    refine kx_sld hx hb hX hbs (fun h => h) hS (j := k) (by omega) (by omega) rfl dL_cell_8 ?_
    refine lv_goto (tgt := 21) hx hb dL_cell_9 (by decide) ?_
    exact kx_iretP hx hb hrt hlk (by unfold cvI; rw [if_pos (by omega)]) dL_cell_21
/-- what stands from the law's entry on -/
def LwG (p : Program) (l : Launch) (s : State) (m : MethodId) (c : Code) (D : va_G) (cs : Nat → ClassId) (x bs N : Nat) (xs : Nat → Int32) : Prop :=
  p.tables.exec = Jvm.exec ∧ c.code = cL_law ∧ c.maxLocals = 16 ∧ s.vm.findClass RL = some m.cls ∧ (∀ w ∈ wsL_law, w.before #[Value.ref bs] s = true) ∧ va_K D vwCl (kTy cs) s ∧ NK s ∧ XK (fun y => x ≤ y) s s.heap ∧ XN s ∧ va_X bs N xs s s.heap ∧ bs < s.heap.size ∧ x = s.heap.size ∧ N ≤ 260 ∧ l.stackTraces = false
/-- HostageRings at x, the six arrays at x + 360, both told by one row, at the tick T -/
def LwD (D : va_G) (cs : Nat → ClassId) (x T : Nat) (H : Heap) : Prop :=
  ∃ (e : Nat → Int32) (g : Nat → Int64) (e1 : Nat → Int32) (g1 : Nat → Int64) (nx cn : Nat) (se : Nat → Nat → Int32) (sg : Nat → Nat → Int64) (b nn : Nat → Int32) (wd ln pa : Nat) (ft : Int32), HrC D cs x e g e1 g1 nx cn se sg b nn wd ln pa ft H ∧ LwC D cs (x + 360) e g H ∧ Inv e ∧ Msk e g ∧ LB e ∧ e 0 = nI T ∧ nx < 4 ∧ cn ≤ 4
section ACT
variable {e z : Nat → Int32} {g : Nat → Int64}
/-! ticks -/
def tkN (y : Int32) : Nat := 1 + lowN y 4
theorem tkN_le (y : Int32) : 1 ≤ tkN y ∧ tkN y ≤ 4 := by have := lowN_lt y (k := 4) (by decide); unfold tkN; omega
theorem wtk_0 {n T : Nat} (h1 : 1 ≤ n) (h4 : n ≤ 4) (hT : e 0 = nI T) (hT9 : T ≤ 200) : wtk e (nI n) = 0 := by
  unfold wtk
  rw [wi_n h1 (by omega) (by decide), if_neg (by decide), hT, nI_add, if_neg (i_nlt.mpr (nI_le (by omega) (by omega)))]
theorem tickN_lt (hI : Inv z) : tickN z ≤ 24 := by
  have h := cyN_le (tkA z) (Mn z)
  have h24 := hI.M24
  unfold tickN; omega
theorem psN_lt (hI : Inv z) : ∀ k, psN z k ≤ 24 * k
  | 0 => Nat.le_refl 0
  | k + 1 => by
    have h1 := psN_lt hI k
    have h2 := tickN_lt (psF_si hI k).2
    show psN z k + tickN (psF z k) ≤ _
    omega
/-! signatures -/
theorem dec_is (x : Int32) : x + (-1) = x - nI 1 := by
  rw [Int32.sub_eq_add_neg]; rfl
def FSP (e : Nat → Int32) (r k : Nat) (f : Int32) : Prop := (f = -2 ∧ ∀ m, k ≤ m → m < Mn e → isC e r m = false) ∨ ∃ j, k ≤ j ∧ j < Mn e ∧ isC e r j = true ∧ (∀ m, k ≤ m → m < j → isC e r m = false) ∧ f = nI j
theorem fs_0 (e : Nat → Int32) (r : Nat) : FSP e r (Mn e) (-2) := Or.inl ⟨rfl, fun m h1 h2 => absurd h2 (by omega)⟩
theorem fs_y {r k : Nat} (f : Int32) (hk : k < Mn e) (h : isC e r k = true) : FSP e r k (nI k) := Or.inr ⟨k, Nat.le_refl k, hk, h, fun m h1 h2 => absurd h2 (by omega), rfl⟩
theorem fs_n {r k : Nat} {f : Int32} (h : isC e r k = false) (hf : FSP e r (k + 1) f) : FSP e r k f := by
  rcases hf with ⟨h1, h2⟩ | ⟨j, h1, h2, h3, h4, h5⟩
  · exact Or.inl ⟨h1, fun m a b => by by_cases q : m = k; exact q ▸ h; exact h2 m (by omega) b⟩
  · exact Or.inr ⟨j, by omega, h2, h3, fun m a b => by by_cases q : m = k; exact q ▸ h; exact h4 m (by omega) b, h5⟩
theorem isC_t {r k : Nat} (h1 : mT e k = r) (h2 : mS e k = 2) : isC e r k = true := by unfold isC; rw [decide_eq_true h1, decide_eq_true h2]; rfl
theorem isC_f {r k : Nat} (h : ¬ mT e k = r ∨ ¬ mS e k = 2) : isC e r k = false := by
  unfold isC
  rcases h with h | h
  · rw [decide_eq_false h]; rfl
  · rw [decide_eq_false h, Bool.and_false]
theorem sg_end (hI : Inv e) {r k : Nat} {f : Int32} (hr : r < Rn e) (hf : FSP e r k f) (hs : k = Mn e ∨ e (56 + 4 * r + 3) = 0) (hx : k = 0 ∨ ¬ e (56 + 4 * r + 3) = 0) : (wsg e (nI r) = 0 ∧ f = nI (fcN e r) ∧ fcN e r < Mn e) ∨ (wsg e (nI r) = 2 ∧ f = -2) := by
  have h6 := hI.R6
  have h24 := hI.M24
  have hw : wsg e (nI r) = if e (56 + 4 * r + 3) = nI 1 ∨ fcI e r = -1000 then 2 else 0 := by
    unfold wsg; rw [lsB_n hr h6, if_neg (by decide), nn_nI (by omega)]
  by_cases q : e (56 + 4 * r + 3) = 0
  · have hk : k = 0 := by rcases hx with h | h; exact h; exact absurd q h
    subst hk
    have q1 : ¬ e (56 + 4 * r + 3) = nI 1 := fun h => nI01 (q.symm.trans h)
    rcases hf with ⟨h1, h2⟩ | ⟨j, h1, h2, h3, h4, h5⟩
    · refine Or.inr ⟨?_, h1⟩
      rw [hw, if_pos (Or.inr (fcI_no (fun j hj => h2 j (Nat.zero_le j) hj)))]
    · have hfc : fcN e r = j := firstN_is (fun i hi => h4 i (Nat.zero_le i) hi) h2 h3
      refine Or.inl ⟨?_, by rw [hfc, h5], by rw [hfc]; exact h2⟩
      have hy := fcI_yes (fun i hi => h4 i (Nat.zero_le i) hi) h2 h3
      rw [hw, hy, if_neg (fun h => by rcases h with h | h; exact q1 h; exact nI_no (by omega) h)]
  · obtain ⟨b, hb⟩ := hI.r3 hr
    have q1 : e (56 + 4 * r + 3) = nI 1 := by
      rw [hb] at q ⊢
      cases b
      · exact absurd rfl q
      · rfl
    have hk : k = Mn e := by rcases hs with h | h; exact h; exact absurd h q
    refine Or.inr ⟨by rw [hw, if_pos (Or.inl q1)], ?_⟩
    rcases hf with ⟨h1, -⟩ | ⟨j, h1, h2, -⟩
    · exact h1
    · omega
theorem sign_tr (e : Nat → Int32) {m : Nat} (hm : m < 8) : Tr (upd e (80 + 10 * m + 5) (nI 3)) (signF e m) := by
  have o {j : Nat} (h6 : j ≠ 6) (h9 : j ≠ 80 + 10 * m + 9) : signF e m j = upd e (80 + 10 * m + 5) (nI 3) j := by
    rw [signF_at, if_neg h6, if_neg h9]; rfl
  refine ⟨⟨o (by omega) (by omega), o (by omega) (by omega), o (by omega) (by omega), o (by omega) (by omega)⟩, fun j hj => o (by omega) (by omega), fun m p hm hp h7 => o (by omega) (by omega), fun m i hm hi => o (by omega) (by omega)⟩
theorem psN_0 (z : Nat → Int32) : psN z 0 = 0 := rfl
theorem fc_2 {r : Nat} (h : fcN e r < Mn e) : mS e (fcN e r) = 2 := by
  have h2 := firstN_yes (isC e r) (Mn e) h
  unfold isC at h2
  simp only [Bool.and_eq_true, decide_eq_true_eq] at h2
  exact h2.2
theorem nz_lt {k : Nat} (h : k ≤ 100) : nI k - nI 1 < 0 ↔ k = 0 := by
  rw [Int32.lt_iff_toInt_lt, pk_sub_toInt (by omega) (by decide), show (0 : Int32).toInt = 0 by decide]
  omega
theorem nI_prd (k : Nat) : nI (k + 1) - nI 1 = nI k := (pk_sub (Nat.le_add_left 1 k)).trans (congrArg nI (Nat.add_sub_cancel k 1))
/-! strikes -/
def sgD (y : Int32) : Bool := decide (lowN (y >>> ((nI (2)) &&& 31)) 2 = 1)
theorem bI_sg (y : Int32) : bI (sgD y) = if lowN (y >>> ((nI (2)) &&& 31)) 2 = 1 then nI 1 else nI 0 := by
  unfold sgD
  by_cases h : lowN (y >>> ((nI (2)) &&& 31)) 2 = 1
  · rw [if_pos h, decide_eq_true h]; rfl
  · rw [if_neg h, decide_eq_false h]; rfl
theorem sk_four (hI : Inv e) {r : Nat} (hr : r < Rn e) (y : Int32) : (e (56 + 4 * r + 3) = nI 0 ∧ sgD y = false ∧ c23 (wst e (nI r) (bI (sgD y))) = 3) ∨ (e (56 + 4 * r + 3) = nI 1 ∧ sgD y = true ∧ c23 (wst e (nI r) (bI (sgD y))) = 3) ∨ (e (56 + 4 * r + 3) = nI 0 ∧ sgD y = true ∧ wst e (nI r) (bI (sgD y)) = 0) ∨ (e (56 + 4 * r + 3) = nI 1 ∧ sgD y = false ∧ wst e (nI r) (bI (sgD y)) = 0) := by
  have h6 := hI.R6
  obtain ⟨b, hb⟩ := hI.r3 hr
  have hw : wst e (nI r) (bI (sgD y)) = if e (56 + 4 * r + 3) = bI (sgD y) then 2 else 0 := by
    unfold wst; rw [lsB_n hr h6, if_neg (by decide), nn_nI (by omega)]
  rw [hw, hb]
  cases b <;> cases sgD y
  · exact Or.inl ⟨rfl, rfl, by rw [if_pos rfl]; rfl⟩
  · exact Or.inr (Or.inr (Or.inl ⟨rfl, rfl, if_neg (by decide)⟩))
  · exact Or.inr (Or.inr (Or.inr ⟨rfl, rfl, if_neg (by decide)⟩))
  · exact Or.inr (Or.inl ⟨rfl, rfl, by rw [if_pos rfl]; rfl⟩)
theorem upd_same {j : Nat} {v : Int32} (h : e j = v) : upd e j v = e := by
  funext i; rw [upd_at]
  by_cases q : i = j
  · rw [if_pos q, q, h]
  · rw [if_neg q]
theorem sk_inv (hI : Inv e) {r : Nat} (hr : r < 6) (b : Bool) : Inv (upd e (56 + 4 * r + 3) (bI b)) := (ev_struck (z := e) (y := e) ⟨Eqv.rf, hI⟩ hr b).2
theorem st_acc {r : Nat} (hr : r < 6) (v : Int32) {j : Nat} (h : j ≠ 56 + 4 * r + 3) : nn (upd e (56 + 4 * r + 3) v j) = nn (e j) := acc_eq j (upd_ne h)
theorem st_cs (hI : Inv e) {r : Nat} (hr : r < 6) (v : Int32) {m : Nat} (hm : m < Mn e) (t : Bool) : csN (upd e (56 + 4 * r + 3) v) t m = csN e t m := by
  have h24 := hI.M24
  have f0 := hI.mf hm
  have t0 := hI.mt hm
  have h6 := hI.R6
  have eF : mF (upd e (56 + 4 * r + 3) v) m = mF e m := st_acc hr v (by omega)
  have eA : mA (upd e (56 + 4 * r + 3) v) m = mA e m := st_acc hr v (by omega)
  have eT : mT (upd e (56 + 4 * r + 3) v) m = mT e m := st_acc hr v (by omega)
  have eB : mB (upd e (56 + 4 * r + 3) v) m = mB e m := st_acc hr v (by omega)
  have eC : mC (upd e (56 + 4 * r + 3) v) m = mC e m := st_acc hr v (by omega)
  have r0 (q : Nat) : rF (upd e (56 + 4 * r + 3) v) q = rF e q := st_acc hr v (by omega)
  have r1 (q : Nat) : rL (upd e (56 + 4 * r + 3) v) q = rL e q := st_acc hr v (by omega)
  exact cs_cong eC (fun i => by unfold srcC; rw [eF, eA, r0, r1]) (fun i => by unfold tgtC; rw [eT, eB, r0, r1]) t
theorem st_msk (hI : Inv e) (hG : Msk e g) {r : Nat} (hr : r < 6) (v : Int32) : Msk (upd e (56 + 4 * r + 3) v) g := fun m hm => by
  have eM : Mn (upd e (56 + 4 * r + 3) v) = Mn e := st_acc hr v (by omega)
  rw [eM] at hm
  rw [st_cs hI hr v hm, st_cs hI hr v hm]; exact hG m hm
theorem st_lb (hB : LB e) {r : Nat} (hr : r < 6) (v : Int32) : LB (upd e (56 + 4 * r + 3) v) := by
  have h8 := hB.M8
  have eM : Mn (upd e (56 + 4 * r + 3) v) = Mn e := st_acc hr v (by omega)
  refine ⟨(st_acc hr v (by omega)).trans hB.R, by rw [eM]; exact h8, fun q hq => by rw [show rL (upd e (56 + 4 * r + 3) v) q = rL e q from st_acc hr v (by omega)]; exact hB.l8 hq, fun m hm => ?_, fun m hm hm8 => ?_⟩
  · rw [eM] at hm
    obtain ⟨a, b, c, d, f⟩ := hB.2.2.2.1 m hm
    have e4 : mC (upd e (56 + 4 * r + 3) v) m = mC e m := st_acc hr v (by omega)
    have e5 : mS (upd e (56 + 4 * r + 3) v) m = mS e m := st_acc hr v (by omega)
    have e6 : mW (upd e (56 + 4 * r + 3) v) m = mW e m := st_acc hr v (by omega)
    have e8 : upd e (56 + 4 * r + 3) v (80 + 10 * m + 8) = e (80 + 10 * m + 8) := upd_ne (by omega)
    unfold LMv
    rw [e4, e5, e6, e8]; exact ⟨a, b, c, d, f⟩
  · rw [eM] at hm
    rw [upd_ne (by omega)]; exact hB.nil hm hm8
/-! cells written by hand -/
def wvD (y : Int32) : Int32 := nI (lowN (y >>> ((nI (6)) &&& 31)) 1999) - nI 999
theorem wvD_in (y : Int32) : wiB (wvD y) (-999) (nI 999) = true := by
  have h := lowN_lt (y >>> ((nI (6)) &&& 31)) (k := 1999) (by decide)
  unfold wvD
  rw [wi_iff]
  have e1 : (nI (lowN (y >>> ((nI (6)) &&& 31)) 1999) - nI 999).toInt = (lowN (y >>> ((nI (6)) &&& 31)) 1999 : Int) - 999 := by
    rw [pk_sub_toInt (by omega) (by decide)]; rfl
  rw [Int32.le_iff_toInt_le, Int32.le_iff_toInt_le, e1, show (-999 : Int32).toInt = -999 by decide, show (nI 999).toInt = 999 by decide]
  omega
theorem wwr_c {c : Nat} (hc : c < 48) (y : Int32) : wwr e (nI c) (wvD y) = if 0 < rsC e c then 3 else 0 := by
  unfold wwr
  rw [wi_n (by omega) (by omega) (by decide), if_neg (by decide), wvD_in, if_neg (by decide), nn_nI (by omega)]
theorem rsC_lt (e : Nat → Int32) (c : Nat) : rsC e c < 4 := Nat.mod_lt _ (by decide)
theorem lo_lb (hB : LB e) {i : Nat} (h8 : 8 ≤ i) (h56 : i < 56) (v : Int32) : LB (upd e i v) := hB.alike (lo_stay e h56 (by omega) (by omega) (by omega) v) (fun m p hm h4 h9 h7 => upd_ne (by omega))
end ACT
