/-! heads and rows for the law's helpers: they catch -/
def xkN : List (String × String) := [("java/lang/IndexOutOfBoundsException", "java/lang/IllegalArgumentException"), ("java/lang/IndexOutOfBoundsException", "java/lang/IllegalStateException"), ("java/lang/IllegalArgumentException", "java/lang/IndexOutOfBoundsException"), ("java/lang/IllegalArgumentException", "java/lang/IllegalStateException"), ("java/lang/IllegalStateException", "java/lang/IndexOutOfBoundsException"), ("java/lang/IllegalStateException", "java/lang/IllegalArgumentException")]
def XN (U : State) : Prop := ∀ q ∈ xkN, va_Nc q.1 q.2 U
theorem XN.moved {u U : State} (hal : u.vm.Alike U.vm) (h : XN u) : XN U := fun q hq => va_Nc.moved hal (h q hq)
def PcY (D : va_G) (cs : Nat → ClassId) (L : Nat) (av : List Value) (P : Heap → Prop) : Array Value → State → Prop := fun v U => v = av.toArray ∧ ((va_K D vwCl (kTy cs) U ∧ NK U) ∧ XK (fun x => L ≤ x) U U.heap ∧ XN U) ∧ P U.heap
section PCY
variable {p : Program} {l : Launch} {e : Env} {R : Room} {s : State} {m : MethodId} {args : Array Value} {below : List Frame} {meth : Method} {c : Code} {H : Heap} {locs : List Loc} {cells slots : Nat} {Q : State → Prop}
variable {cc : ByteArray} {pc : Nat} {ls : Array Slot} {rest st0 : List Value} {D : va_G} {cs : Nat → ClassId} {L : Nat} {free : Addr → Prop} {A0 : Nat → Prop} {H0 : Heap}
theorem PcY_blind {av : List Value} {P : Heap → Prop} : FrameBlind (PcY D cs L av P) := fun a U g mk q => ⟨q.1, ⟨⟨va_K.moved (u := U) (U := U.calling g mk a) (Vm.Alike.refl U.vm) q.2.1.1.1, q.2.1.1.2.same rfl⟩, XK.warm (u := U) (U := U.calling g mk a) (State.WarmedH.refl U) q.2.1.2.1, XN.moved (u := U) (U := U.calling g mk a) (Vm.Alike.refl U.vm) q.2.1.2.2⟩, q.2.2⟩
theorem kx_preY {av : List Value} {P : Heap → Prop} (hK : va_K D vwCl (kTy cs) s) (hN : NK s) (hX : XK (fun x => L ≤ x) s H) (hY : XN s) (hP : P H) : PreS s H (PcY D cs L av P) av :=
  ⟨PcY_blind, fun U hU hw => ⟨rfl, ⟨⟨va_K.moved hw.alike hK, hN.warm hw⟩, by rw [hU]; exact XK.warm hw hX, XN.moved hw.alike hY⟩, by rw [hU]; exact hP⟩⟩
theorem kx_ofWH {l : Launch} {y : MethodName} {ws ws' : List Cond} {rm : Room} {Pc : Array Value → State → Prop} {Qc : Array Value → State → Outcome → State → Prop} {mc ms : Nat} {free : Addr → Prop} {cc : ByteArray} {maxL : Nat} {ret : Option FieldType} {hh : List (Nat × Nat × Nat × Nat)}
    (hy : plainName y.cls = true) (hw : ws = Cond.codeWith y cc maxL ret hh :: ws')
    (body : ∀ p e s m args below meth c s₁, BodyLoose p l y (headSpec ws rm) cc maxL ret e s m args below meth c s₁ → c.maxLocals = maxL → Pc args s →
      W p l e (headSpec ws rm).room s m args below meth c s.heap [] 0 0 (MQ below Qc args s mc ms free) (entryFrame m args maxL)) : Met l y ws rm Pc Qc mc ms free := by
  refine MetFree.of_bodyS (code := cc) (maxLocals := maxL) (ret := ret) hy ?_ ?_
  · intro args s m h hn
    obtain ⟨m9, meth, c, hn9, h1, h2, h3, h4, -, h5, h6, -⟩ := Cond.codeWith_spec (atoms_spec (ws := ws) h _ (by rw [hw]; exact List.mem_cons_self))
    cases hn.symm.trans hn9
    exact ⟨meth, c, h1, h2, h3, h4, h5, h6⟩
  · intro p e s m args below meth c s₁ B hml hP _
    have hh0 : s₁.heap = s.heap := by rw [B.state]; rfl
    obtain ⟨t, a1, o, b1, b2, b3⟩ := body p e s m args below meth c s₁ B hml hP s₁ hh0 (Stand.of_body B)
    exact ⟨t, o, a1, b1, b2, b3⟩
theorem kx_metY {y : MethodName} {ws ws' : List Cond} {rm : Room} {av : List Value} {P : Heap → Prop} {Qc : Array Value → State → Outcome → State → Prop} {mc ms maxL : Nat} {ret : Option FieldType} {hh : List (Nat × Nat × Nat × Nat)} (hy : plainName y.cls = true) (hw : ws = Cond.codeWith y cc maxL ret hh :: ws') (hlen : (lg_sl av).length ≤ maxL)
    (body : ∀ (p : Program) (e : Env) (s : State) (m : MethodId) (args : Array Value) (below : List Frame) (meth : Method) (c : Code), p.tables.exec = Jvm.exec → c.code = cc → c.maxLocals = maxL → meth.sig.returnType = ret → (∀ w ∈ ws, w.before args s = true) → s.vm.findClass y.cls = some m.cls → meth.locks = false → va_K D vwCl (kTy cs) s → NK s → XK (fun x => L ≤ x) s s.heap → XN s → c.exceptionTable.toList = tableOf hh → P s.heap →
      ∀ ls : Array Slot, lv_has ls maxL (lv_args 0 av) → W p l e rm s m args below meth c s.heap [] 0 0 (MQ below Qc args s mc ms free) (F0 m 0 ls [])) : Met l y ws rm (PcY D cs L av P) Qc mc ms free := by
  refine kx_ofWH hy hw ?_
  intro p e s m args below meth c s₁ B hml hv
  obtain ⟨rfl, ⟨⟨hK, hN⟩, hX, hY⟩, hP⟩ := hv
  have hl := lv_entry av hlen
  rw [lg_entry_eq]
  exact body p e s m _ below meth c B.exec B.bytes hml B.returns (atoms_spec (ws := ws) B.pre) (findClass_of_methodNamed B.named) B.notSynchronized hK hN hX hY (vx_table (x := y) B (atoms_spec (ws := ws) B.pre _ (by rw [hw]; exact List.mem_cons_self))) hP _ hl
/-- a call that throws E, caught here by the row x of the table; the rows ahead name other classes -/
theorem kx_catch {own E : String} {a : Array Value} (hr : vx_Run p l e R s m args below meth c H locs cells slots 1 6 (F0 m pc ls st0) rest (QcF a) (XCh E) nowhere) (hown : s.vm.findClass own = some m.cls) (hX : XK (fun x => L ≤ x) s s.heap) (hE : E ∈ xkE)
    (pre : List ExceptionTableEntry) (x : ExceptionTableEntry) (suf : List ExceptionTableEntry) (hsplit : c.exceptionTable.toList = pre ++ x :: suf)
    (hpass : ∀ z ∈ pre, covers z pc = false ∨ (z.catchType ≠ 0 ∧ ∃ nm : String, (Cond.classLink own z.catchType nm).before args s = true ∧ va_Nc E nm s)) (hx : covers x pc = true) (h0 : x.catchType ≠ 0) (hlink : (Cond.classLink own x.catchType E).before args s = true)
    (hS : va_S A0 H0 H locs)
    (kk : ∀ (q : Nat) (H1 : Heap), H.size ≤ H1.size → (∀ y : Nat, y < H.size → H1[y]? = H[y]?) → va_S A0 H0 H1 locs → W p l e R s m args below meth c H1 locs (cells + 1) (slots + 6) Q (F0 m x.handlerPc ls [.ref q])) : W p l e R s m args below meth c H locs cells slots Q (F0 m pc ls st0) := by
  intro T hT X
  rcases hr T hT X with ⟨v, st₀, t, T', L9, h9, X', hL, e1, e2, hq, st⟩ | ⟨q, st₀, t, T', L9, E9, ce, h9, X', hL, e1, e2, ⟨hE9, hF⟩, hce, hcv, hcl, st⟩
  · exact hq.elim
  · subst hE9
    have hl9 : L9 = [] := by
      cases L9 with
      | nil => rfl
      | cons z zs => exact (hL z List.mem_cons_self).elim
    subst hl9
    rw [List.append_nil] at X'
    have hk : ∀ y : Nat, y < H.size → T'.heap[y]? = H[y]? := fun y hy => by rw [e1, ← h9]; exact hF.2 y (by rw [h9]; exact hy) (fun h => h)
    have hz : H.size ≤ T'.heap.size := by rw [e1, ← h9]; exact hF.1
    have ho := vx_catch (p := p) (l := l) (e := e) (R := R) (args := args) (below := below) (meth := meth) (locs := locs) (cells := cells + 1) (slots := slots + 6) (Q := Q) (ls := ls) (rest := rest) (pc := pc) (H := T'.heap) hown pre x suf hsplit hpass hx h0 hlink
      (va_tabs rfl rfl (hX.2.1 _ hE)) (by rw [e1]; exact hce) hcv hcl (kk q T'.heap hz hk ⟨Nat.le_trans hS.1 hz, fun y h1 h2 => (hk y (Nat.lt_of_lt_of_le h1 hS.1)).trans (hS.2.1 y h1 h2), hS.2.2⟩)
    obtain ⟨t2, a1, b1⟩ := ho T' rfl X'
    exact ⟨t2, st.trans a1, b1⟩
end PCY
