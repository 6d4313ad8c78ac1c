/-! making objects and rows -/
/-- the classes of rows of references are known -/
def AK (U : State) : Prop := va_AO "HostageRings$Ring" U ∧ va_AO "HostageRings$Move" U ∧ va_AO "HostageRings$State" U
def PcA (D : va_G) (cs : Nat → ClassId) (av : List Value) (P : Heap → Prop) : Array Value → State → Prop := fun v U => v = av.toArray ∧ ((va_K D vwCl (kTy cs) U ∧ NK U) ∧ AK U) ∧ P U.heap
theorem AK.moved {u U : State} (h : u.vm.Alike U.vm) (q : AK u) : AK U := ⟨va_AO.moved h q.1, va_AO.moved h q.2.1, va_AO.moved h q.2.2⟩
/-- from h on the heap is new -/
def Grow (h : Nat) (H H1 : Heap) : Prop := ∀ q : Nat, q < h → H1[q]? = H[q]?
section KX3
variable {p : Program} {l : Launch} {e : Env} {R : Room} {s : State} {m : MethodId} {args : Array Value} {below : List Frame} {meth : Method} {c : Code} {H : Heap} {locs : List Loc} {cells slots : Nat} {Q : State → Prop}
variable {cc : ByteArray} {pc : Nat} {ls : Array Slot} {rest st0 : List Value} {D : va_G} {cs : Nat → ClassId} {cl : List vw_C} {tys : List (ClassId × FieldType)} {a : Nat} {A A0 A1 : Nat → Prop} {H0 : Heap} {free : Addr → Prop} {ar : Array Value}
theorem grow_S (hS : va_S A H0 H locs) {H1 : Heap} {h : Nat} (hz : H.size = h) (z1 : H1.size = h + 1) (o1 : Grow h H H1) : va_S A H0 H1 locs :=
  ⟨Nat.le_trans hS.1 (by omega), fun x h1 h2 => (o1 x (by have := hS.1; omega)).trans (hS.2.1 x h1 h2), hS.2.2⟩
theorem kx_new (hexec : p.tables.exec = Jvm.exec) (hb : c.code = cc) {own C : String} {T : u_T} {N ci index : Nat} {Ts : List Cond} (hts : ∀ w ∈ Ts, w.before args s = true) (hin : ∀ w ∈ u_ws C T N, w ∈ Ts) (ty : Nat → FieldType) (hty : ∀ k, k < N → parseFieldDescriptor (T k).2.2.1 = some (ty k)) (hown : s.vm.findClass own = some m.cls) (hcl : Cond.classLink own index C ∈ Ts) (hinst : Cond.instantiable C N ∈ Ts) (hini : Cond.initialized C ∈ Ts)
    (hK : va_K D cl tys s) (hS : va_S A H0 H locs) {h : Nat} (hz : H.size = h) (hc : cl[ci]? = some (C, T, N)) {fs : List Value} (hfs : ∀ j, j < N → defaultValue (ty j) = vp_V fs j) (hcells : cells + 1 ≤ R.cells) (hslots : slots + N ≤ R.slots) (hdg : decode cc pc = .ok (.new index, 3))
    (kk : ∀ (H1 : Heap), va_at D cl (h, .inr (ci, fs)) H1 → H1.size = h + 1 → Grow h H H1 → va_S A H0 H1 locs → W p l e R s m args below meth c H1 locs (cells + 1) (slots + N) Q (F0 m (pc + 3) ls (.ref h :: rest))) : W p l e R s m args below meth c H locs cells slots Q (F0 m pc ls rest) := by
  have hKn := hK.1 ci _ hc
  subst hz
  refine W.newcK hexec hb hown (hts _ hcl) (hts _ hinst) (hts _ hini) rfl hdg hcells hslots hKn.2.1 rfl fun H1 kC hkC e1 z1 o1 => ?_
  exact kk H1 ⟨_, hc, (u_born ty hts hin hKn hkC e1 hty).to hfs⟩ z1 o1 (grow_S hS rfl z1 o1)
theorem kx_newi (hexec : p.tables.exec = Jvm.exec) (hb : c.code = cc) {Ts : List Cond} (hts : ∀ w ∈ Ts, w.before args s = true) (harr : Cond.arrayClass .int ∈ Ts) (hK : va_K D cl tys s) (hS : va_S A H0 H locs) {h : Nat} (hz : H.size = h) (t0 : Nat) {cA : ClassId} (ht : tys[t0]? = some (cA, .int)) {n : Nat} (hn : n < 10000) (hcells : cells + 1 ≤ R.cells) (hslots : slots + n ≤ R.slots) (hdg : decode cc pc = .ok (.newarray .int, 2))
    (kk : ∀ (H1 : Heap), va_at D cl (h, .inl (cA, n, .inl (fun _ => 0))) H1 → H1.size = h + 1 → Grow h H H1 → va_S A H0 H1 locs → W p l e R s m args below meth c H1 locs (cells + 1) (slots + n) Q (F0 m (pc + 2) ls (.ref h :: rest))) : W p l e R s m args below meth c H locs cells slots Q (F0 m pc ls (.int (nI n) :: rest)) := by
  have hneg : ¬ nI n < 0 := by
    rw [i_nlt, Int32.le_iff_toInt_le, nI_toInt (by omega)]
    have e : (0 : Int32).toInt = 0 := by decide
    omega
  refine va_newaK (atype := .int) hexec hb (hts _ harr) rfl hdg rfl hneg (nI_clamp (by omega)) (show n * 4 ≤ 536870912 by omega) hcells hslots hz fun H1 cB e1 z1 o1 hAr hNm => ?_
  have hq : s.vm.findClass ("[" ++ (FieldType.int).toString) = some cA := (hK.2 t0 _ ht).2
  have e2 : cB = cA := Option.some.inj (hNm.symm.trans hq)
  subst e2
  exact kk H1 (show H1[h]? = some (vp_cell cB (n, .inl (fun _ => 0))) from e1) z1 o1 (grow_S hS hz z1 o1)
theorem kx_newch (hexec : p.tables.exec = Jvm.exec) (hb : c.code = cc) {Ts : List Cond} (hts : ∀ w ∈ Ts, w.before args s = true) (harr : Cond.arrayClass .char ∈ Ts) (hK : va_K D cl tys s) (hS : va_S A H0 H locs) {h : Nat} (hz : H.size = h) (t0 : Nat) {cA : ClassId} (ht : tys[t0]? = some (cA, .char)) {n : Nat} (hn : n < 10000) (hcells : cells + 1 ≤ R.cells) (hslots : slots + n ≤ R.slots) (hdg : decode cc pc = .ok (.newarray .char, 2))
    (kk : ∀ (H1 : Heap), va_at D cl (h, .inl (cA, n, .inl (fun _ => 0))) H1 → H1.size = h + 1 → Grow h H H1 → va_S A H0 H1 locs → W p l e R s m args below meth c H1 locs (cells + 1) (slots + n) Q (F0 m (pc + 2) ls (.ref h :: rest))) : W p l e R s m args below meth c H locs cells slots Q (F0 m pc ls (.int (nI n) :: rest)) := by
  have hneg : ¬ nI n < 0 := by
    rw [i_nlt, Int32.le_iff_toInt_le, nI_toInt (by omega)]
    have e : (0 : Int32).toInt = 0 := by decide
    omega
  refine va_newaK (atype := .char) hexec hb (hts _ harr) rfl hdg rfl hneg (nI_clamp (by omega)) (show n * 2 ≤ 536870912 by omega) hcells hslots hz fun H1 cB e1 z1 o1 hAr hNm => ?_
  have hq : s.vm.findClass ("[" ++ (FieldType.char).toString) = some cA := (hK.2 t0 _ ht).2
  have e2 : cB = cA := Option.some.inj (hNm.symm.trans hq)
  subst e2
  exact kk H1 (show H1[h]? = some (vp_cell cB (n, .inl (fun _ => 0))) from e1) z1 o1 (grow_S hS hz z1 o1)
theorem kx_newl (hexec : p.tables.exec = Jvm.exec) (hb : c.code = cc) {Ts : List Cond} (hts : ∀ w ∈ Ts, w.before args s = true) (harr : Cond.arrayClass .long ∈ Ts) (hK : va_K D cl tys s) (hS : va_S A H0 H locs) {h : Nat} (hz : H.size = h) (t0 : Nat) {cA : ClassId} (ht : tys[t0]? = some (cA, .long)) {n : Nat} (hn : n < 10000) (hcells : cells + 1 ≤ R.cells) (hslots : slots + n ≤ R.slots) (hdg : decode cc pc = .ok (.newarray .long, 2))
    (kk : ∀ (H1 : Heap), va_at D cl (h, .inl (cA, n, .inr (.inl (fun _ => 0)))) H1 → H1.size = h + 1 → Grow h H H1 → va_S A H0 H1 locs → W p l e R s m args below meth c H1 locs (cells + 1) (slots + n) Q (F0 m (pc + 2) ls (.ref h :: rest))) : W p l e R s m args below meth c H locs cells slots Q (F0 m pc ls (.int (nI n) :: rest)) := by
  have hneg : ¬ nI n < 0 := by
    rw [i_nlt, Int32.le_iff_toInt_le, nI_toInt (by omega)]
    have e : (0 : Int32).toInt = 0 := by decide
    omega
  refine va_newaK (atype := .long) hexec hb (hts _ harr) rfl hdg rfl hneg (nI_clamp (by omega)) (show n * 8 ≤ 536870912 by omega) hcells hslots hz fun H1 cB e1 z1 o1 hAr hNm => ?_
  have hq : s.vm.findClass ("[" ++ (FieldType.long).toString) = some cA := (hK.2 t0 _ ht).2
  have e2 : cB = cA := Option.some.inj (hNm.symm.trans hq)
  subst e2
  exact kk H1 (show H1[h]? = some (vp_cell cB (n, .inr (.inl (fun _ => 0)))) from e1) z1 o1 (grow_S hS hz z1 o1)
theorem kx_newq (hexec : p.tables.exec = Jvm.exec) (hb : c.code = cc) {own C : String} {index : Nat} {Ts : List Cond} (hts : ∀ w ∈ Ts, w.before args s = true) (hown : s.vm.findClass own = some m.cls) (hclink : Cond.classLink own index C ∈ Ts) (hover : va_AO C s) (hK : va_K D cl tys s) (hS : va_S A H0 H locs) {h : Nat} (hz : H.size = h) (t0 : Nat) {cA : ClassId} (ht : tys[t0]? = some (cA, .object C))
    {n : Nat} (hn : n < 10000) (hcells : cells + 1 ≤ R.cells) (hslots : slots + n ≤ R.slots) (hdg : decode cc pc = .ok (.anewarray index, 3))
    (kk : ∀ (H1 : Heap), va_at D cl (h, .inl (cA, n, .inr (.inr (.inr (.inr (fun _ => none)))))) H1 → H1.size = h + 1 → Grow h H H1 → va_S A H0 H1 locs → W p l e R s m args below meth c H1 locs (cells + 1) (slots + n) Q (F0 m (pc + 3) ls (.ref h :: rest))) : W p l e R s m args below meth c H locs cells slots Q (F0 m pc ls (.int (nI n) :: rest)) := by
  have hneg : ¬ nI n < 0 := by
    rw [i_nlt, Int32.le_iff_toInt_le, nI_toInt (by omega)]
    have e : (0 : Int32).toInt = 0 := by decide
    omega
  have en : (nI n).toNatClampNeg = n := nI_clamp (by omega)
  subst hz
  refine W.anew hexec hb hown (hts _ hclink) (va_AO.use hover) rfl hdg rfl hneg (by rw [en]; omega) hcells (by rw [en]; exact hslots) fun cB kA comp f1 f2 f3 f4 => ?_
  rw [en]
  generalize hH1 : H.push ({ cls := cB, slots := Array.replicate n .null, vm := .none } : Cell) = H1
  have z1 : H1.size = H.size + 1 := by rw [← hH1, Array.size_push]
  have e1 : H1[H.size]? = some (arrV cB n (fun _ => .null)) := by rw [← hH1, Array.getElem?_push_size, ← arrV_new]
  have o1 : ∀ q : Nat, q < H.size → H1[q]? = H[q]? := fun q hq => by rw [← hH1, Array.getElem?_push, if_neg (Nat.ne_of_lt hq)]
  obtain ⟨kB, compB, g1, g2, g3, g4⟩ := (hK.2 t0 _ ht).2
  have e2 : cB = cA := Option.some.inj (f1.symm.trans g4)
  subst e2
  exact kk H1 (show H1[H.size]? = some (vp_cell cB (n, .inr (.inr (.inr (.inr (fun _ => none)))))) from e1) z1 o1 (grow_S hS rfl z1 o1)
theorem kx_putF (hexec : p.tables.exec = Jvm.exec) (hb : c.code = cc) {own C : String} {T : u_T} {N ci index : Nat} {Ts : List Cond} (hts : ∀ w ∈ Ts, w.before args s = true) (hin : ∀ w ∈ u_ws C T N, w ∈ Ts) {ty0 : Nat → FieldType} (hty : ∀ k, k < N → parseFieldDescriptor (T k).2.2.1 = some (ty0 k)) (hnm : ∀ a, a < N → ∀ b, b < N → a ≠ b → (T a).2.1 ≠ (T b).2.1) (hown : s.vm.findClass own = some m.cls) (hK : va_K D cl tys s) {fs : List Value} (hat : va_at D cl (a, .inr (ci, fs)) H) (hc : cl[ci]? = some (C, T, N)) (hS0 : va_S A H0 H locs) (hAa : A a) (k : Nat) (hk : k < N) (hlink : Cond.fieldLink own index (T k).1 (T k).2.1 (T k).2.2.1 ∈ Ts) (hfin : (T k).2.2.2 = true) (hin2 : meth.name = "<init>") (hdecl : (T k).1 = own) {v : Value} (hn : narrow (ty0 k) v = v) (hfit : fits (ty0 k) v = true) (hl : k < fs.length) (hdg : decode cc pc = .ok (.putfield index, 3))
    (kk : ∀ (H1 : Heap) (locs1 : List Loc), va_at D cl (a, .inr (ci, fs.set k v)) H1 → Same1 a H H1 → va_S A H0 H1 locs1 → W p l e R s m args below meth c H1 locs1 cells slots Q (F0 m (pc + 3) ls rest)) : W p l e R s m args below meth c H locs cells slots Q (F0 m pc ls (v :: .ref a :: rest)) := by
  have hap := va_apart (own := own) hts hin ty0 hty hnm hK hc
  obtain ⟨r, h1, cell, q1, q2, q3, q4⟩ := hat
  have hr : r = (C, T, N) := Option.some.inj (h1.symm.trans hc)
  subst hr
  obtain ⟨hS, hfc, kC, hkC, hkind⟩ := hK.1 ci _ hc
  obtain ⟨cf, kf, fi, f, hi, hsl⟩ := hS k hk
  have hlay := hts _ (hin _ (u_in_lay hk))
  unfold u_lay at hlay
  rw [if_pos hfin] at hlay
  have hst := (u_facts hfc hkC (u_lays hts hin hk) hi).1
  have hcf : m.cls = cf := by
    obtain ⟨_, _, c', _, _, _, -, -, hf', -, -, -, hown2, -⟩ := Cond.laysFinal_spec hlay
    have e1 : c' = cf := by have := hi.symm.trans hf'; simp at this; exact this.1.symm
    rw [hdecl] at hown2
    rw [← e1]; exact Option.some.inj (hown.symm.trans hown2)
  have h6 := u_fits hfc hkC hkind (Or.inr hlay) hi (hty k hk) hn hfit
  refine W.putFinK hexec hb hown (hts _ hlink) hi hst hcf hin2 (by rw [q2]; exact h6) q1 q3 (by rw [hsl]; exact k2_hasslot (q4 k hk)) rfl rfl hdg fun H' e1 e2 e3 => ?_
  rw [hsl] at e1 ⊢
  exact kk H' _ ⟨_, hc, t_OB.to (V := updV (vp_V fs) k v) ⟨_, e1, q2, q3, t_set q4 hap hk v⟩ (fun j _ => vp_updV_set hl v j)⟩ ⟨e2, e3⟩ (hS0.put e2 e3 hAa)
theorem kx_aast (hexec : p.tables.exec = Jvm.exec) (hb : c.code = cc) (hK : va_K D cl tys s) (hS : va_S A H0 H locs) (hAa : A a) (t0 ci : Nat) {cA : ClassId} {r : vw_C} {n v : Nat} {vs : List Value} {f : Nat → Option Nat} (ha : va_at D cl (a, .inl (cA, n, .inr (.inr (.inr (.inr f))))) H) (ht : tys[t0]? = some (cA, .object r.1)) (hv : va_at D cl (v, .inr (ci, vs)) H) (hc : cl[ci]? = some r) {i : Nat} (hi : i < n) (hn : n < 2 ^ 31) (hdg : decode cc pc = .ok (.aastore, 1))
    (kk : ∀ (H1 : Heap) (locs1 : List Loc), va_at D cl (a, .inl (cA, n, .inr (.inr (.inr (.inr (va_up f i (some v))))))) H1 → Same1 a H H1 → va_S A H0 H1 locs1 → W p l e R s m args below meth c H1 locs1 cells slots Q (F0 m (pc + 1) ls rest)) : W p l e R s m args below meth c H locs cells slots Q (F0 m pc ls (.ref v :: .int (nI i) :: .ref a :: rest)) := by
  have ei : (nI i).toNatClampNeg = i := nI_clamp (by omega)
  have h0 : ¬ nI i < 0 := by
    rw [i_nlt, Int32.le_iff_toInt_le, nI_toInt (by omega)]
    have e : (0 : Int32).toInt = 0 := by decide
    omega
  obtain ⟨r', hr', cellV, g1, g2, g3, -⟩ := hv
  have hcls := (hK.1 ci r hc).2
  obtain ⟨kA, comp, k1, k2, k3, -⟩ := (hK.2 t0 _ ht).2
  have hcomp : comp = D.1 ci := Option.some.inj (k3.symm.trans hcls.1)
  subst hcomp
  obtain ⟨kC, hkC, -⟩ := hcls.2
  refine W.aast hexec hb ha (fun q h => by cases h) (fun h => by cases h) k1 k2 rfl hkC ⟨h0, by show _ < (arrV _ _ _).slots.size; rw [arrV_size, ei]; exact hi⟩ g1 (fun q h => by rw [g3] at h; cases h) (by rw [g2]; exact hkC) (by rw [g2]; exact va_assign hcls) rfl rfl hdg fun H1 e z oq => ?_
  rw [ei] at e
  refine kk H1 _ ?_ ⟨z, oq⟩ (hS.put z oq hAa)
  show H1[a]? = some (vp_cell _ _)
  rw [e, vp_cell_q, vp_cell_q, arrV_store]
  congr 2
  funext q
  by_cases hq : q = i
  · subst hq; simp [updV, va_up, va_rf]
  · simp [updV, va_up, hq]
theorem PcA_blind {av : List Value} {P : Heap → Prop} : FrameBlind (PcA D cs av P) := fun a U g mk q => ⟨q.1, ⟨⟨va_K.moved (u := U) (U := U.calling g mk a) (Vm.Alike.refl U.vm) q.2.1.1.1, q.2.1.1.2.same rfl⟩, AK.moved (u := U) (U := U.calling g mk a) (Vm.Alike.refl U.vm) q.2.1.2⟩, q.2.2⟩
theorem kx_preA {av : List Value} {P : Heap → Prop} (hK : va_K D vwCl (kTy cs) s) (hN : NK s) (hX : AK s) (hP : P H) : PreS s H (PcA D cs av P) av :=
  ⟨PcA_blind, fun U hU hW => ⟨rfl, ⟨⟨va_K.moved hW.alike hK, hN.warm hW⟩, AK.moved hW.alike hX⟩, by rw [hU]; exact hP⟩⟩
theorem kx_metA {y : MethodName} {ws ws' : List Cond} {rm : Room} {av : List Value} {P : Heap → Prop} {Qc : Array Value → State → Outcome → State → Prop} {mc ms maxL : Nat} {ret : Option FieldType} (hy : plainName y.cls = true) (hw : ws = Cond.code y cc maxL ret :: ws') (hlen : (lg_sl av).length ≤ maxL)
    (body : ∀ (p : Program) (e : Env) (s : State) (m : MethodId) (args : Array Value) (below : List Frame) (meth : Method) (c : Code), p.tables.exec = Jvm.exec → c.code = cc → c.maxLocals = maxL → meth.sig.returnType = ret → (∀ w ∈ ws, w.before args s = true) → s.vm.findClass y.cls = some m.cls → meth.locks = false → va_K D vwCl (kTy cs) s → NK s → AK s → meth.name = y.name → P s.heap →
      ∀ ls : Array Slot, lv_has ls maxL (lv_args 0 av) → W p l e rm s m args below meth c s.heap [] 0 0 (MQ below Qc args s mc ms free) (F0 m 0 ls [])) : Met l y ws rm (PcA D cs av P) Qc mc ms free := by
  refine Met.ofW hy hw ?_
  intro p e s m args below meth c s₁ B hml hv
  obtain ⟨rfl, ⟨⟨hK, hN⟩, hX⟩, hP⟩ := hv
  have hl := lv_entry av hlen
  rw [lg_entry_eq]
  exact body p e s m _ below meth c B.exec B.bytes hml B.returns (atoms_spec (ws := ws) B.pre) (findClass_of_methodNamed B.named) B.notSynchronized hK hN hX (name_of_methodNamed B.named B.method).1 hP _ hl
theorem kx_vretN {P : Heap → Prop} (hexec : p.tables.exec = Jvm.exec) (hb : c.code = cc) (hr : meth.sig.returnType = none) (hlocks : meth.locks = false) (hP : P H) (hS : va_S A s.heap H locs) {mc ms : Nat} (h1 : cells ≤ mc) (h2 : slots ≤ ms) (hdg : decode cc pc = .ok (.return_, 1)) : W p l e R s m args below meth c H locs cells slots (MQ below (QcM none P A) args s mc ms A) (F0 m pc ls []) :=
  W.widen h1 h2 (W.vret hexec hb hr (fun t ht _ => ⟨rfl, by rw [ht]; exact hP, hS.F ht⟩) hS.2.2 hdg hlocks)
theorem kx_retN {vs : Option Value} {P : Heap → Prop} {mc ms : Nat} (hr : va_Run p l e R s m args below meth c H locs cells slots mc ms (F0 m pc ls st0) rest (QcM vs P A1 ar) free) (hS : va_S A0 H0 H locs) (hA : ∀ q, q < H.size → A1 q → A0 q) (hf : ∀ q, free q → A0 q)
    (kk : ∀ (H1 : Heap) (locs1 : List Loc), P H1 → (H.size ≤ H1.size ∧ ∀ q : Nat, q < H.size → ¬ A1 q → H1[q]? = H[q]?) → va_S A0 H0 H1 locs1 → W p l e R s m args below meth c H1 locs1 (cells + mc) (slots + ms) Q (F0 m (pc + 3) ls (vs.toList ++ rest))) : W p l e R s m args below meth c H locs cells slots Q (F0 m pc ls st0) := by
  intro T hT X
  obtain ⟨v, st₀, t, T', L, h0, X', hL, e1, e2, ⟨hv, hp, hz, hk⟩, st⟩ := hr T hT X
  cases hv
  rw [h0] at hz hk
  obtain ⟨t2, a1, b1⟩ := kk T'.heap (locs ++ L) (by rw [e1]; exact hp) ⟨by rw [e1]; exact hz, fun q h1 h2 => by rw [e1]; exact hk q h1 h2⟩
    ⟨Nat.le_trans hS.1 (by rw [e1]; exact hz), fun q h1 h2 => by rw [e1, hk q (Nat.lt_of_lt_of_le h1 hS.1) (fun z => h2 (hA q (Nat.lt_of_lt_of_le h1 hS.1) z))]; exact hS.2.1 q h1 h2, fun q hq => by
      rcases List.mem_append.mp hq with h | h
      · exact hS.2.2 q h
      · exact hf _ (hL q h)⟩ T' rfl X'
  exact ⟨t2, st t2 a1, b1⟩
end KX3
