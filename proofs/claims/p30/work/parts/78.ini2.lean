/-! the constructors of History, CommandText, HostageRings -/
def HiZ : List Value := [.null, .int 0, .int 0]
def TxZ : List Value := [.null, .null, .null, .int 0, .int 0, .int 0]
def HrZ : List Value := [.null, .null, .null, .null]
def PcB (D : va_G) (cs : Nat → ClassId) (L : Nat) (aW aS aV : Nat → Nat) (tW tM : Nat) (av : List Value) (P : Heap → Prop) : Array Value → State → Prop := fun v U => v = av.toArray ∧ ((va_K D vwCl (kTy cs) U ∧ NK U) ∧ AK U ∧ KW (fun x => L ≤ x) aW aS aV tW tM U U.heap) ∧ P U.heap
section PCB
variable {p : Program} {l : Launch} {e : Env} {R : Room} {s : State} {m : MethodId} {args : Array Value} {below : List Frame} {meth : Method} {c : Code} {H : Heap} {locs : List Loc} {cells slots : Nat} {Q : State → Prop}
variable {cc : ByteArray} {pc : Nat} {ls : Array Slot} {rest st0 : List Value} {D : va_G} {cs : Nat → ClassId} {L : Nat} {aW aS aV : Nat → Nat} {tW tM : Nat} {free : Addr → Prop}
theorem PcB_blind {av : List Value} {P : Heap → Prop} : FrameBlind (PcB D cs L aW aS aV tW tM av P) := fun a U g mk q => ⟨q.1, ⟨⟨va_K.moved (u := U) (U := U.calling g mk a) (Vm.Alike.refl U.vm) q.2.1.1.1, q.2.1.1.2.same rfl⟩, AK.moved (u := U) (U := U.calling g mk a) (Vm.Alike.refl U.vm) q.2.1.2.1, KW.moved (u := U) (U := U.calling g mk a) (Vm.Alike.refl U.vm) q.2.1.2.2⟩, q.2.2⟩
theorem kx_preB {av : List Value} {P : Heap → Prop} (hK : va_K D vwCl (kTy cs) s) (hN : NK s) (hX : AK s) (hW : KW (fun x => L ≤ x) aW aS aV tW tM s H) (hP : P H) : PreS s H (PcB D cs L aW aS aV tW tM av P) av :=
  ⟨PcB_blind, fun U hU hw => ⟨rfl, ⟨⟨va_K.moved hw.alike hK, hN.warm hw⟩, AK.moved hw.alike hX, by rw [hU]; exact KW.moved hw.alike hW⟩, by rw [hU]; exact hP⟩⟩
theorem kx_metB {y : MethodName} {ws ws' : List Cond} {rm : Room} {av : List Value} {P : Heap → Prop} {Qc : Array Value → State → Outcome → State → Prop} {mc ms maxL : Nat} {ret : Option FieldType} (hy : plainName y.cls = true) (hw : ws = Cond.code y cc maxL ret :: ws') (hlen : (lg_sl av).length ≤ maxL)
    (body : ∀ (p : Program) (e : Env) (s : State) (m : MethodId) (args : Array Value) (below : List Frame) (meth : Method) (c : Code), p.tables.exec = Jvm.exec → c.code = cc → c.maxLocals = maxL → meth.sig.returnType = ret → (∀ w ∈ ws, w.before args s = true) → s.vm.findClass y.cls = some m.cls → meth.locks = false → va_K D vwCl (kTy cs) s → NK s → AK s → KW (fun x => L ≤ x) aW aS aV tW tM s s.heap → meth.name = y.name → P s.heap →
      ∀ ls : Array Slot, lv_has ls maxL (lv_args 0 av) → W p l e rm s m args below meth c s.heap [] 0 0 (MQ below Qc args s mc ms free) (F0 m 0 ls [])) : Met l y ws rm (PcB D cs L aW aS aV tW tM av P) Qc mc ms free := by
  refine Met.ofW hy hw ?_
  intro p e s m args below meth c s₁ B hml hv
  obtain ⟨rfl, ⟨⟨hK, hN⟩, hX, hW⟩, hP⟩ := hv
  have hl := lv_entry av hlen
  rw [lg_entry_eq]
  exact body p e s m _ below meth c B.exec B.bytes hml B.returns (atoms_spec (ws := ws) B.pre) (findClass_of_methodNamed B.named) B.notSynchronized hK hN hX hW (name_of_methodNamed B.named B.method).1 hP _ hl
end PCB
