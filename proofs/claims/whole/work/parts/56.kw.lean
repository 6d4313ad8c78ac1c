/-! the constants: words, their letters, rows of them -/
def wNM : List String := ["RING", "MOVE", "SIGN", "STRIKE", "WORK", "PUT", "SET", "TICKS"]
def wFD : List (String × String × String × List Int32) := [("java/lang/Enum", "ordinal", "I", [0, 1, 2, 3, 4, 5, 6, 7]), ("HostageRings$Word", "numbers", "I", [3, 5, 1, 1, 1, 2, 2, 1])]
def wLN : List Nat := [4, 4, 4, 6, 4, 3, 3, 5]
def wBY : List (List Int32) := [[114, 105, 110, 103], [109, 111, 118, 101], [115, 105, 103, 110], [115, 116, 114, 105, 107, 101], [119, 111, 114, 107], [112, 117, 116], [115, 101, 116], [116, 105, 99, 107, 115]]
def KW (A : Nat → Prop) (aW aS aV : Nat → Nat) (tW tM : Nat) (U : State) (H : Heap) : Prop :=
  va_En "HostageRings$Word" "LHostageRings$Word;" wNM wFD aW A U H ∧ va_Ef 8 "HostageRings$Word" "letters" "Ljava/lang/String;" (fun k => .ref (aS k)) aW A U H ∧ vk_S 8 wLN wBY aS aV A U H ∧ va_Z "HostageRings" "WORDS" "[LHostageRings$Word;" (.ref tW) A U H ∧ va_T (.object "HostageRings$Word") tW 8 (fun j => .ref (aW j)) A U H ∧ va_Z "HostageRings$1" "$SwitchMap$HostageRings$Word" "[I" (.ref tM) A U H ∧ va_T .int tM 8 (fun j => .int (nI (j + 1))) A U H ∧ va_Z "java/lang/String" "COMPACT_STRINGS" "Z" (.int 1) A U H ∧ va_Zq "jdk/internal/util/Preconditions" "SIOOBE_FORMATTER" "Ljava/util/function/BiFunction;" A U H
section KWS
variable {A B : Nat → Prop} {aW aS aV : Nat → Nat} {tW tM : Nat} {U u : State} {H H1 : Heap}
theorem KW.moved (hvm : u.vm.Alike U.vm) (h : KW A aW aS aV tW tM u H) : KW A aW aS aV tW tM U H :=
  ⟨va_En.moved hvm h.1, va_Ef.moved hvm h.2.1, vk_S.moved hvm h.2.2.1, va_Z.moved hvm h.2.2.2.1, va_T.moved hvm h.2.2.2.2.1, va_Z.moved hvm h.2.2.2.2.2.1, va_T.moved hvm h.2.2.2.2.2.2.1, va_Z.moved hvm h.2.2.2.2.2.2.2.1, va_Zq.moved hvm h.2.2.2.2.2.2.2.2⟩
theorem KW.kept (h : KW A aW aS aV tW tM U H) (hq : ∀ a : Nat, a < H.size → ¬ A a → H1[a]? = H[a]?) : KW A aW aS aV tW tM U H1 :=
  ⟨h.1.kept hq, h.2.1.kept hq, h.2.2.1.kept hq, h.2.2.2.1.kept hq, h.2.2.2.2.1.kept hq, h.2.2.2.2.2.1.kept hq, h.2.2.2.2.2.2.1.kept hq, h.2.2.2.2.2.2.2.1.kept hq, h.2.2.2.2.2.2.2.2.kept hq⟩
theorem KW.narrow (h : KW A aW aS aV tW tM U H) (hAB : ∀ q, B q → A q) : KW B aW aS aV tW tM U H :=
  ⟨h.1.narrow hAB, h.2.1.narrow hAB, h.2.2.1.narrow hAB, h.2.2.2.1.narrow hAB, h.2.2.2.2.1.narrow hAB, h.2.2.2.2.2.1.narrow hAB, h.2.2.2.2.2.2.1.narrow hAB, h.2.2.2.2.2.2.2.1.narrow hAB, h.2.2.2.2.2.2.2.2.narrow hAB⟩
theorem KW.keptS {A0 : Nat → Prop} {H0 : Heap} {locs : List Loc} (h : KW A aW aS aV tW tM U H0) (hS : va_S A0 H0 H locs) (hA : ∀ x, A0 x → A x) : KW A aW aS aV tW tM U H := h.kept (fun a h1 h2 => hS.2.1 a h1 (fun q => h2 (hA a q)))
theorem KW.en (h : KW A aW aS aV tW tM U H) : va_En "HostageRings$Word" "LHostageRings$Word;" wNM wFD aW A U H := h.1
theorem KW.ef (h : KW A aW aS aV tW tM U H) : va_Ef 8 "HostageRings$Word" "letters" "Ljava/lang/String;" (fun k => .ref (aS k)) aW A U H := h.2.1
theorem KW.sr (h : KW A aW aS aV tW tM U H) : vk_S 8 wLN wBY aS aV A U H := h.2.2.1
theorem KW.wz (h : KW A aW aS aV tW tM U H) : va_Z "HostageRings" "WORDS" "[LHostageRings$Word;" (.ref tW) A U H := h.2.2.2.1
theorem KW.wt (h : KW A aW aS aV tW tM U H) : va_T (.object "HostageRings$Word") tW 8 (fun j => .ref (aW j)) A U H := h.2.2.2.2.1
theorem KW.mz (h : KW A aW aS aV tW tM U H) : va_Z "HostageRings$1" "$SwitchMap$HostageRings$Word" "[I" (.ref tM) A U H := h.2.2.2.2.2.1
theorem KW.mt (h : KW A aW aS aV tW tM U H) : va_T .int tM 8 (fun j => .int (nI (j + 1))) A U H := h.2.2.2.2.2.2.1
theorem KW.cz (h : KW A aW aS aV tW tM U H) : va_Z "java/lang/String" "COMPACT_STRINGS" "Z" (.int 1) A U H := h.2.2.2.2.2.2.2.1
theorem KW.fz (h : KW A aW aS aV tW tM U H) : va_Zq "jdk/internal/util/Preconditions" "SIOOBE_FORMATTER" "Ljava/util/function/BiFunction;" A U H := h.2.2.2.2.2.2.2.2
end KWS
def PcW (D : va_G) (cs : Nat → ClassId) (L : Nat) (aW aS aV : Nat → Nat) (tW tM : Nat) (av : List Value) (P : Heap → Prop) : Array Value → State → Prop := fun v U => v = av.toArray ∧ ((va_K D vwCl (kTy cs) U ∧ NK U) ∧ KW (fun x => L ≤ x) aW aS aV tW tM U U.heap) ∧ P U.heap
section KWC
variable {p : Program} {l : Launch} {e : Env} {R : Room} {s : State} {m : MethodId} {args : Array Value} {below : List Frame} {meth : Method} {c : Code} {H : Heap} {locs : List Loc} {cells slots : Nat} {Q : State → Prop}
variable {cc : ByteArray} {pc : Nat} {ls : Array Slot} {rest st0 : List Value} {D : va_G} {cs : Nat → ClassId} {L : Nat} {aW aS aV : Nat → Nat} {tW tM : Nat} {free : Addr → Prop}
theorem PcW_blind {av : List Value} {P : Heap → Prop} : FrameBlind (PcW D cs L aW aS aV tW tM av P) := fun a U g mk q => ⟨q.1, ⟨⟨va_K.moved (u := U) (U := U.calling g mk a) (Vm.Alike.refl U.vm) q.2.1.1.1, q.2.1.1.2.same rfl⟩, KW.moved (u := U) (U := U.calling g mk a) (Vm.Alike.refl U.vm) q.2.1.2⟩, q.2.2⟩
theorem kx_preWS {av : List Value} {P : Heap → Prop} (hK : va_K D vwCl (kTy cs) s) (hN : NK s) (hW : KW (fun x => L ≤ x) aW aS aV tW tM s H) (hP : P H) : PreS s H (PcW D cs L aW aS aV tW tM av P) av :=
  ⟨PcW_blind, fun U hU hw => ⟨rfl, ⟨⟨va_K.moved hw.alike hK, hN.warm hw⟩, by rw [hU]; exact KW.moved hw.alike hW⟩, by rw [hU]; exact hP⟩⟩
theorem kx_preWR {b : Nat} {C : String} {As : List Value} {P : Heap → Prop} (hK : va_K D vwCl (kTy cs) s) (hN : NK s) (hW : KW (fun x => L ≤ x) aW aS aV tW tM s H) (hr : ∃ cell : Cell, H[b]? = some cell ∧ cell.vm.isStatics = false ∧ s.vm.findClass C = some cell.cls) (hP : P H) : PreV s H C b (PcW D cs L aW aS aV tW tM (.ref b :: As) P) As :=
  ⟨PcW_blind, hr, fun U hU hw => ⟨rfl, ⟨⟨va_K.moved hw.alike hK, hN.warm hw⟩, by rw [hU]; exact KW.moved hw.alike hW⟩, by rw [hU]; exact hP⟩⟩
theorem kx_preWV {b ci : Nat} {q : vw_C} {fs As : List Value} {P : Heap → Prop} (hK : va_K D vwCl (kTy cs) s) (hN : NK s) (hW : KW (fun x => L ≤ x) aW aS aV tW tM s H) (hat : va_at D vwCl (b, .inr (ci, fs)) H) (hc : vwCl[ci]? = some q) (hP : P H) : PreV s H q.1 b (PcW D cs L aW aS aV tW tM (.ref b :: As) P) As :=
  kx_preWR hK hN hW (va_recv hK (va_one hat) hc (q0 := 0) rfl) hP
theorem kx_metW {y : MethodName} {ws ws' : List Cond} {rm : Room} {av : List Value} {P : Heap → Prop} {Qc : Array Value → State → Outcome → State → Prop} {mc ms maxL : Nat} {ret : Option FieldType} (hy : plainName y.cls = true) (hw : ws = Cond.code y cc maxL ret :: ws') (hlen : (lg_sl av).length ≤ maxL)
    (body : ∀ (p : Program) (e : Env) (s : State) (m : MethodId) (args : Array Value) (below : List Frame) (meth : Method) (c : Code), p.tables.exec = Jvm.exec → c.code = cc → c.maxLocals = maxL → meth.sig.returnType = ret → (∀ w ∈ ws, w.before args s = true) → s.vm.findClass y.cls = some m.cls → meth.locks = false → va_K D vwCl (kTy cs) s → NK s → KW (fun x => L ≤ x) aW aS aV tW tM s s.heap → P s.heap →
      ∀ ls : Array Slot, lv_has ls maxL (lv_args 0 av) → W p l e rm s m args below meth c s.heap [] 0 0 (MQ below Qc args s mc ms free) (F0 m 0 ls [])) : Met l y ws rm (PcW D cs L aW aS aV tW tM av P) Qc mc ms free := by
  refine Met.ofW hy hw ?_
  intro p e s m args below meth c s₁ B hml hv
  obtain ⟨rfl, ⟨⟨hK, hN⟩, hW⟩, hP⟩ := hv
  have hl := lv_entry av hlen
  rw [lg_entry_eq]
  exact body p e s m _ below meth c B.exec B.bytes hml B.returns (atoms_spec (ws := ws) B.pre) (findClass_of_methodNamed B.named) B.notSynchronized hK hN hW hP _ hl
theorem kx_wretP {v v0 : Int32} {ty : FieldType} (hexec : p.tables.exec = Jvm.exec) (hb : c.code = cc) (hr : meth.sig.returnType = some ty) (hlocks : meth.locks = false) (hn : narrow ty (.int v) = .int v) (hv : v = v0) (hdg : decode cc pc = .ok (.ireturn, 1)) : W p l e R s m args below meth c s.heap [] 0 0 (MQ below (QcP (some (.int v0))) args s 0 0 nowhere) (F0 m pc ls [.int v]) := by
  subst hv
  exact W.zret hexec hb hr hn (fun t ht _ => ⟨rfl, ht⟩) (fun q h => by cases h) hdg hlocks
theorem kx_aretP {v v0 : Value} {ty : FieldType} (hexec : p.tables.exec = Jvm.exec) (hb : c.code = cc) (hr : meth.sig.returnType = some ty) (hlocks : meth.locks = false) (hrt : (∃ n, ty = .object n) ∨ ∃ t, ty = .array t) (hv : v = v0) (hvr : v = .null ∨ ∃ a, v = .ref a) (hdg : decode cc pc = .ok (.areturn, 1)) : W p l e R s m args below meth c s.heap [] 0 0 (MQ below (QcP (some v0)) args s 0 0 nowhere) (F0 m pc ls [v]) := by
  subst hv
  exact W.aret hexec hb hr hrt hvr (fun t ht _ => ⟨rfl, ht⟩) (fun q h => by cases h) hdg hlocks
end KWC
theorem w_num : ∀ k, k < 8 → ([3, 5, 1, 1, 1, 2, 2, 1] : List Int32).getD k 0 = nI (nmC k) := by decide +kernel
theorem w_ord : ∀ k, k < 8 → ([0, 1, 2, 3, 4, 5, 6, 7] : List Int32).getD k 0 = nI k := by decide +kernel
def wln (k : Nat) : Nat := wLN.getD k 0
def wch (k j : Nat) : Int32 := (wBY.getD k []).getD j 0
theorem wln_le : ∀ k, k < 8 → wln k ≤ 6 := by decide +kernel
theorem wch_ok : ∀ k, k < 8 → ∀ j, j < 6 → narrow .char (.int (((wch k j &&& nI 255).toUInt32 % 65536).toInt32)) = .int (((wch k j &&& nI 255).toUInt32 % 65536).toInt32) ∧ ((wch k j &&& nI 255).toUInt32 % 65536).toInt32 = wch k j := by decide +kernel
