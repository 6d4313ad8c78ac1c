/-! the constants: words, their letters, rows of them -/
def KW (A : Nat → Prop) (aW _aS _aV : Nat → Nat) (_tW _tM : Nat) (U : State) (H : Heap) : Prop :=
  va_Z "HostageRings$Word" "RING" "LHostageRings$Word;" (.ref (aW 0)) A U H
section KWS
variable {A B : Nat → Prop} {aW aS aV : Nat → Nat} {tW tM : Nat} {U u : State} {H H1 : Heap}
theorem KW.moved (hvm : u.vm.Alike U.vm) (h : KW A aW aS aV tW tM u H) : KW A aW aS aV tW tM U H :=
  va_Z.moved hvm h
theorem KW.kept (h : KW A aW aS aV tW tM U H) (hq : ∀ a : Nat, a < H.size → ¬ A a → H1[a]? = H[a]?) : KW A aW aS aV tW tM U H1 :=
  va_Z.kept h hq
theorem KW.narrow (h : KW A aW aS aV tW tM U H) (hAB : ∀ q, B q → A q) : KW B aW aS aV tW tM U H :=
  va_Z.narrow h hAB
theorem KW.keptS {A0 : Nat → Prop} {H0 : Heap} {locs : List Loc} (h : KW A aW aS aV tW tM U H0) (hS : va_S A0 H0 H locs) (hA : ∀ x, A0 x → A x) : KW A aW aS aV tW tM U H := h.kept (fun a h1 h2 => hS.2.1 a h1 (fun q => h2 (hA a q)))
end KWS
section KWC
variable {p : Program} {l : Launch} {e : Env} {R : Room} {s : State} {m : MethodId} {args : Array Value} {below : List Frame} {meth : Method} {c : Code} {H : Heap} {locs : List Loc} {cells slots : Nat} {Q : State → Prop}
variable {cc : ByteArray} {pc : Nat} {ls : Array Slot} {rest st0 : List Value} {D : va_G} {cs : Nat → ClassId} {L : Nat} {aW aS aV : Nat → Nat} {tW tM : Nat} {free : Addr → Prop}
end KWC
