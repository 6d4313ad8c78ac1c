/-! what a thrown call keeps -/
theorem HrC.grow {D : va_G} {cs : Nat → ClassId} {x : Nat} {e : Nat → Int32} {g : Nat → Int64} {e1 : Nat → Int32} {g1 : Nat → Int64} {nx cn : Nat} {se : Nat → Nat → Int32} {sg : Nat → Nat → Int64} {b nn : Nat → Int32} {wd ln pa : Nat} {ft : Int32} {H H1 : Heap}
    (h : HrC D cs x e g e1 g1 nx cn se sg b nn wd ln pa ft H) (hk : ∀ y : Nat, y < H.size → H1[y]? = H[y]?) : HrC D cs x e g e1 g1 nx cn se sg b nn wd ln pa ft H1 :=
  ⟨h.1.kept (hk _ h.1.lt), h.2.1.keep (fun y h1 h2 => hk y (h.2.1.lt y h1 h2)), h.2.2.1.keep (fun y h1 h2 => hk y (h.2.2.1.lt y h1 h2)), h.2.2.2.1.keep (fun y h1 h2 => hk y (h.2.2.2.1.lt y h1 h2)),
    h.2.2.2.2.1.kept (hk _ h.2.2.2.2.1.lt), h.2.2.2.2.2.1.kept (hk _ h.2.2.2.2.2.1.lt), h.2.2.2.2.2.2.kept (hk _ h.2.2.2.2.2.2.lt)⟩
section LAW2
variable {p : Program} {l : Launch} {e : Env} {R : Room} {s : State} {m : MethodId} {args : Array Value} {below : List Frame} {meth : Method} {c : Code} {H : Heap} {locs : List Loc} {cells slots : Nat} {Q : State → Prop}
variable {cc : ByteArray} {pc : Nat} {ls : Array Slot} {rest st0 : List Value} {A : Nat → Prop}
theorem kx_iretN {P : Heap → Prop} {v v0 : Int32} (hexec : p.tables.exec = Jvm.exec) (hb : c.code = cc) (hr : meth.sig.returnType = some .int) (hlocks : meth.locks = false) (hv : v = v0) (hP : P H) (hS : va_S A s.heap H locs) {mc ms : Nat} (h1 : cells ≤ mc) (h2 : slots ≤ ms) (hdg : decode cc pc = .ok (.ireturn, 1)) : W p l e R s m args below meth c H locs cells slots (MQ below (QcM (some (.int v0)) P A) args s mc ms A) (F0 m pc ls [.int v]) := by
  subst hv
  exact W.widen h1 h2 (W.iret hexec hb hr (fun t ht _ => ⟨rfl, by rw [ht]; exact hP, hS.F ht⟩) hS.2.2 hdg hlocks)
end LAW2
