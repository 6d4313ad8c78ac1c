/-! what a throw stands on beside the good words -/
def xkB (X : String) : List Cond := [.declares (Bundle.initS "java/lang/RuntimeException"), .declares (Bundle.initS "java/lang/Exception"), .declares (Bundle.initS Bundle.tN), .castable X X]
theorem xk_a : (vx_atS RX7 113 "java/lang/IndexOutOfBoundsException" ["java/lang/RuntimeException", "java/lang/Exception"]).filter (fun w => !goodWord w) = xkB "java/lang/IndexOutOfBoundsException" := by decide +kernel
theorem xg_a : ∀ w ∈ vx_atS RX7 113 "java/lang/IndexOutOfBoundsException" ["java/lang/RuntimeException", "java/lang/Exception"], vx_ot w = true := by decide +kernel
theorem xk_b : (vx_atS RX7 139 "java/lang/IllegalArgumentException" ["java/lang/RuntimeException", "java/lang/Exception"]).filter (fun w => !goodWord w) = xkB "java/lang/IllegalArgumentException" := by decide +kernel
theorem xg_b : ∀ w ∈ vx_atS RX7 139 "java/lang/IllegalArgumentException" ["java/lang/RuntimeException", "java/lang/Exception"], vx_ot w = true := by decide +kernel
theorem xk_c : (vx_atS RX7 189 "java/lang/IllegalStateException" ["java/lang/RuntimeException", "java/lang/Exception"]).filter (fun w => !goodWord w) = xkB "java/lang/IllegalStateException" := by decide +kernel
theorem xg_c : ∀ w ∈ vx_atS RX7 189 "java/lang/IllegalStateException" ["java/lang/RuntimeException", "java/lang/Exception"], vx_ot w = true := by decide +kernel
def xkS : List (Nat × String) := [(137, "negative index"), (264, "no such ring or cell"), (266, "out of range"), (268, "not as things stand"), (273, "no such cell"), (275, "no such move")]
def xkE : List String := ["java/lang/IndexOutOfBoundsException", "java/lang/IllegalArgumentException", "java/lang/IllegalStateException"]
def xkW : List Cond := [.declares (Bundle.initS "java/lang/RuntimeException"), .declares (Bundle.initS "java/lang/Exception"), .declares (Bundle.initS Bundle.tN)]
/-- the world of the throws -/
def XK (A : Nat → Prop) (U : State) (H : Heap) : Prop :=
  (∀ w ∈ xkW, w.before #[] U = true) ∧ (∀ X ∈ xkE, (Cond.castable X X).before #[] U = true) ∧ (∀ q ∈ xkS, ∃ sa, vk_R RX7 q.1 q.2 sa U) ∧
    vx_Zq Bundle.tN "UNASSIGNED_STACK" Bundle.steD A U H ∧ vx_Zq Bundle.tN "SUPPRESSED_SENTINEL" Bundle.listD A U H
section XKS
variable {A B : Nat → Prop} {U u : State} {H H1 : Heap}
theorem xk_dec {x : MethodName} (hal : u.vm.Alike U.vm) (h : (Cond.declares x).before #[] u = true) : (Cond.declares x).before #[] U = true :=
  va_tabs rfl (rfl : (u.setVm U.vm).vm = U.vm) (by rw [Cond.declares_setVm hal]; exact h)
theorem xk_cas {C T : String} (hal : u.vm.Alike U.vm) (h : (Cond.castable C T).before #[] u = true) : (Cond.castable C T).before #[] U = true :=
  va_tabs rfl (rfl : (u.setVm U.vm).vm = U.vm) (by rw [Cond.castable_setVm hal]; exact h)
theorem XK.warm (hw : u.WarmedH U.vm) (h : XK A u H) : XK A U H := by
  refine ⟨fun w hm => ?_, fun X hX => xk_cas hw.alike (h.2.1 X hX), fun q hq => (h.2.2.1 q hq).imp (fun sa hs => vk_R.warm hw hs), vx_Zq.moved hw.alike h.2.2.2.1, vx_Zq.moved hw.alike h.2.2.2.2⟩
  have h0 := h.1 w hm
  unfold xkW at hm
  simp only [List.mem_cons, List.not_mem_nil, or_false] at hm
  rcases hm with rfl | rfl | rfl <;> exact xk_dec hw.alike h0
theorem XK.kept (h : XK A U H) (hq : ∀ a : Nat, a < H.size → ¬ A a → H1[a]? = H[a]?) : XK A U H1 := ⟨h.1, h.2.1, h.2.2.1, h.2.2.2.1.kept hq, h.2.2.2.2.kept hq⟩
theorem XK.narrow (h : XK A U H) (hAB : ∀ q, B q → A q) : XK B U H := ⟨h.1, h.2.1, h.2.2.1, h.2.2.2.1.narrow hAB, h.2.2.2.2.narrow hAB⟩
/-- the words of a throw beside the good ones, for any arguments -/
theorem XK.bad (h : XK A U H) {X : String} (hX : X ∈ xkE) {args : Array Value} : ∀ w ∈ xkB X, w.before args U = true := by
  intro w hm
  unfold xkB at hm
  simp only [List.mem_cons, List.not_mem_nil, or_false] at hm
  rcases hm with rfl | rfl | rfl | rfl
  · exact va_tabs rfl rfl (h.1 _ (by unfold xkW; simp))
  · exact va_tabs rfl rfl (h.1 _ (by unfold xkW; simp))
  · exact va_tabs rfl rfl (h.1 _ (by unfold xkW; simp))
  · exact va_tabs rfl rfl (h.2.1 X hX)
end XKS
def PcX (D : va_G) (cs : Nat → ClassId) (L : Nat) (av : List Value) (P : Heap → Prop) : Array Value → State → Prop := fun v U => v = av.toArray ∧ ((va_K D vwCl (kTy cs) U ∧ NK U) ∧ XK (fun x => L ≤ x) U U.heap) ∧ P U.heap
/-- it never returns -/
def QcF : Array Value → State → Outcome → State → Prop := fun _ _ _ _ => False
/-- it throws E0, nothing that was there has changed -/
def XCh (E0 : String) : String → State → State → Prop := fun E st t => E = E0 ∧ va_F (fun _ => False) st t
section XKC
variable {p : Program} {l : Launch} {e : Env} {R : Room} {s : State} {m : MethodId} {args : Array Value} {below : List Frame} {meth : Method} {c : Code} {H : Heap} {locs : List Loc} {cells slots : Nat} {Q : State → Prop}
variable {cc : ByteArray} {pc : Nat} {ls : Array Slot} {rest st0 : List Value} {D : va_G} {cs : Nat → ClassId} {L : Nat} {free : Addr → Prop}
theorem PcX_blind {av : List Value} {P : Heap → Prop} : FrameBlind (PcX D cs L av P) := fun a U g mk q => ⟨q.1, ⟨⟨va_K.moved (u := U) (U := U.calling g mk a) (Vm.Alike.refl U.vm) q.2.1.1.1, q.2.1.1.2.same rfl⟩, XK.warm (u := U) (U := U.calling g mk a) (State.WarmedH.refl U) q.2.1.2⟩, q.2.2⟩
theorem kx_preXS {av : List Value} {P : Heap → Prop} (hK : va_K D vwCl (kTy cs) s) (hN : NK s) (hX : XK (fun x => L ≤ x) s H) (hP : P H) : PreS s H (PcX D cs L av P) av :=
  ⟨PcX_blind, fun U hU hw => ⟨rfl, ⟨⟨va_K.moved hw.alike hK, hN.warm hw⟩, by rw [hU]; exact XK.warm hw hX⟩, by rw [hU]; exact hP⟩⟩
theorem kx_preXV {b ci : Nat} {q : vw_C} {fs As : List Value} {P : Heap → Prop} (hK : va_K D vwCl (kTy cs) s) (hN : NK s) (hX : XK (fun x => L ≤ x) s H) (hat : va_at D vwCl (b, .inr (ci, fs)) H) (hc : vwCl[ci]? = some q) (hP : P H) : PreV s H q.1 b (PcX D cs L (.ref b :: As) P) As :=
  ⟨PcX_blind, va_recv hK (va_one hat) hc (q0 := 0) rfl, fun U hU hw => ⟨rfl, ⟨⟨va_K.moved hw.alike hK, hN.warm hw⟩, by rw [hU]; exact XK.warm hw hX⟩, by rw [hU]; exact hP⟩⟩
theorem kx_metX {y : MethodName} {ws ws' : List Cond} {rm : Room} {av : List Value} {P : Heap → Prop} {Qc : Array Value → State → Outcome → State → Prop} {XC : String → State → State → Prop} {mc ms maxL : Nat} {ret : Option FieldType} (hy : plainName y.cls = true) (hw : ws = Cond.code y cc maxL ret :: ws') (hlen : (lg_sl av).length ≤ maxL)
    (body : ∀ (p : Program) (e : Env) (s : State) (m : MethodId) (args : Array Value) (below : List Frame) (meth : Method) (c : Code), p.tables.exec = Jvm.exec → c.code = cc → c.maxLocals = maxL → meth.sig.returnType = ret → (∀ w ∈ ws, w.before args s = true) → s.vm.findClass y.cls = some m.cls → meth.locks = false → va_K D vwCl (kTy cs) s → NK s → XK (fun x => L ≤ x) s s.heap → (∀ x ∈ c.exceptionTable.toList, False) → P s.heap →
      ∀ ls : Array Slot, lv_has ls maxL (lv_args 0 av) → W p l e rm s m args below meth c s.heap [] 0 0 (vx_MQ below Qc XC args s mc ms free) (F0 m 0 ls [])) : vx_Met l y ws rm (PcX D cs L av P) Qc XC mc ms free := by
  refine vx_ofW hy hw ?_
  intro p e s m args below meth c s₁ B hml ht hv
  obtain ⟨rfl, ⟨⟨hK, hN⟩, hX⟩, hP⟩ := hv
  have hl := lv_entry av hlen
  rw [lg_entry_eq]
  exact body p e s m _ below meth c B.exec B.bytes hml B.returns (atoms_spec (ws := ws) B.pre) (findClass_of_methodNamed B.named) B.notSynchronized hK hN hX ht hP _ hl
/-- a call of what throws, in a body without a table -/
theorem kx_retT {E0 : String} {a : Array Value} (hr : vx_Run p l e R s m args below meth c s.heap [] 0 0 1 6 (F0 m pc ls st0) rest (QcF a) (XCh E0) nowhere) (hlocks : meth.locks = false) (ht : ∀ x ∈ c.exceptionTable.toList, False) :
    W p l e R s m args below meth c s.heap [] 0 0 (vx_MQ below QcF (XCh E0) args s 1 6 nowhere) (F0 m pc ls st0) := by
  intro T hT X
  rcases hr T hT X with ⟨v, st₀, t, T', L, h0, X', hL, e1, e2, hq, st⟩ | ⟨q, st₀, t, T', L, E, ce, h0, X', hL, e1, e2, ⟨hE, hF⟩, hce, hcv, hcl, st⟩
  · exact hq.elim
  · have ho := vx_out (m := m) (p := p) (l := l) (e := e) (R := R) (args := args) (below := below) (cells := 0 + 1) (slots := 0 + 6) (Qc := QcF) (XC := XCh E0) (ls := ls) (rest := rest) (pc := pc) (H := T'.heap) (locs := [] ++ L) (free := nowhere) (mc := 1) (ms := 6) (fun x hx => (ht x hx).elim) hlocks (by rw [e1]; exact hce) hcv hcl
      (fun t' ht' _ => ⟨hE, by unfold va_F at hF ⊢; rw [ht', e1, ← h0]; exact hF⟩) (fun z hz => hL z hz) (Nat.le_refl _) (Nat.le_refl _)
    obtain ⟨t2, a1, b1⟩ := ho T' rfl X'
    exact ⟨t2, st.trans a1, b1⟩
end XKC
def xE : Nat → String
  | 1 => "java/lang/IndexOutOfBoundsException"
  | 2 => "java/lang/IllegalArgumentException"
  | _ => "java/lang/IllegalStateException"
