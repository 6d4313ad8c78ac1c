/-! from the law's entry: the classes, the constants, what a throw stands on -/
def lw_gv : List Cond := flatC (Jvm.Cond.and given_1 narrow_1)
section ST
variable {args : Array Value} {s : State} {A : Nat → Prop}
theorem st_arr {ty : FieldType} (h : (Cond.arrayClass ty).before args s = true) (hty : ∀ cA, s.vm.findClass ("[" ++ ty.toString) = some cA → va_RA s cA ty) : ∃ cA, ArrOfT s cA ty ∧ va_RA s cA ty := by
  obtain ⟨cA, kA, comp, h1, h2, h3⟩ := Cond.arrayClass_spec h
  exact ⟨cA, fun n z => ⟨fun k h => (by cases h), kA, h2, comp, h3⟩, hty cA h1⟩
theorem st_arrO {C : String} (h : (Cond.arrayOver (.object C)).before args s = true) : ∃ cA, ArrOfT s cA (.object C) ∧ va_RA s cA (.object C) := by
  obtain ⟨comp, cA, kA, h1, -, h2, h3, h4⟩ := Cond.arrayOver_spec h
  exact ⟨cA, fun n z => ⟨fun k h => (by cases h), kA, h2, comp, h3⟩, kA, comp, h2, h3, h1, h4⟩
theorem st_K (hts : ∀ w ∈ lw_tbl, w.before args s = true) : ∃ (D : va_G) (cs : Nat → ClassId), va_K D vwCl (kTy cs) s := by
  obtain ⟨c0, i0, k0⟩ := u_known (C := RX1) (T := TX1) (N := 6) (n := 6) hts inX1 (hts (.instantiable RX1 6) (by decide +kernel))
  obtain ⟨c1, i1, k1⟩ := u_known (C := RX2) (T := TX2) (N := 3) (n := 3) hts inX2 (hts (.instantiable RX2 3) (by decide +kernel))
  obtain ⟨c2, i2, k2⟩ := u_known (C := RX3) (T := TX3) (N := 13) (n := 13) hts inX3 (hts (.instantiable RX3 13) (by decide +kernel))
  obtain ⟨c3, i3, k3⟩ := u_known (C := RX4) (T := TX4) (N := 4) (n := 4) hts inX4 (hts (.instantiable RX4 4) (by decide +kernel))
  obtain ⟨c4, i4, k4⟩ := u_known (C := RX5) (T := TX5) (N := 12) (n := 12) hts inX5 (hts (.instantiable RX5 12) (by decide +kernel))
  obtain ⟨c5, i5, k5⟩ := u_known (C := RX7) (T := TX7) (N := 4) (n := 4) hts inX7 (hts (.instantiable RX7 4) (by decide +kernel))
  obtain ⟨a0, b0⟩ := st_arr (ty := .int) (hts (.arrayClass .int) (by decide +kernel)) (fun _ h => h)
  obtain ⟨a1, b1⟩ := st_arr (ty := .char) (hts (.arrayClass .char) (by decide +kernel)) (fun _ h => h)
  obtain ⟨a2, b2⟩ := st_arrO (C := "HostageRings$Ring") (hts (.arrayOver (.object "HostageRings$Ring")) (by decide +kernel))
  obtain ⟨a3, b3⟩ := st_arrO (C := "HostageRings$Move") (hts (.arrayOver (.object "HostageRings$Move")) (by decide +kernel))
  obtain ⟨a4, b4⟩ := st_arrO (C := "HostageRings$State") (hts (.arrayOver (.object "HostageRings$State")) (by decide +kernel))
  obtain ⟨a5, b5⟩ := st_arr (ty := .long) (hts (.arrayClass .long) (by decide +kernel)) (fun _ h => h)
  refine ⟨(fun k => if k = 0 then c0 else if k = 1 then c1 else if k = 2 then c2 else if k = 3 then c3 else if k = 4 then c4 else c5, fun k => if k = 0 then i0 else if k = 1 then i1 else if k = 2 then i2 else if k = 3 then i3 else if k = 4 then i4 else i5), fun k => if k = 0 then a0 else if k = 1 then a1 else if k = 2 then a2 else if k = 3 then a3 else if k = 4 then a4 else a5, fun k q hq => ?_, fun k q hq => ?_⟩
  · match k, hq with
    | 0, hq => cases hq; exact k0
    | 1, hq => cases hq; exact k1
    | 2, hq => cases hq; exact k2
    | 3, hq => cases hq; exact k3
    | 4, hq => cases hq; exact k4
    | 5, hq => cases hq; exact k5
    | k + 6, hq => simp [vwCl] at hq
  · match k, hq with
    | 0, hq => cases (show some (a0, FieldType.int) = some q from hq); exact b0
    | 1, hq => cases (show some (a1, FieldType.char) = some q from hq); exact b1
    | 2, hq => cases (show some (a2, FieldType.object "HostageRings$Ring") = some q from hq); exact b2
    | 3, hq => cases (show some (a3, FieldType.object "HostageRings$Move") = some q from hq); exact b3
    | 4, hq => cases (show some (a4, FieldType.object "HostageRings$State") = some q from hq); exact b4
    | 5, hq => cases (show some (a5, FieldType.long) = some q from hq); exact b5
    | k + 6, hq => simp [kTy] at hq
theorem st_NK (hts : ∀ w ∈ lw_tbl, w.before args s = true) : NK s := ⟨va_Nw.of rfl (hts (.methodLinkNest RX7 28 yX1_init RX7) (by decide +kernel)), va_Nw.of rfl (hts (.methodLinkNest RX7 28 yX1_init RX7) (by decide +kernel)), va_Nw.of rfl (hts (.methodLinkNest RX5 37 yX4_init RX7) (by decide +kernel)), va_Nw.of rfl (hts (.methodLinkNest RX5 38 yX3_init RX7) (by decide +kernel)), va_Nw.of rfl (hts (.methodLinkNest RX5 70 yX7_isCell RX7) (by decide +kernel)), va_Nw.of rfl (hts (.methodLinkNest RX5 74 yX7_isWithin RX7) (by decide +kernel)), va_Nw.of rfl (hts (.methodLinkNest RX7 28 yX1_init RX7) (by decide +kernel))⟩
theorem st_AK (hts : ∀ w ∈ lw_tbl, w.before args s = true) : AK s := ⟨va_AO.of (hts (.arrayOver (.object "HostageRings$Ring")) (by decide +kernel)), va_AO.of (hts (.arrayOver (.object "HostageRings$Move")) (by decide +kernel)), va_AO.of (hts (.arrayOver (.object "HostageRings$State")) (by decide +kernel))⟩
theorem gv_xn : ∀ q ∈ xkN, Cond.not (.castable q.1 q.2) ∈ lw_gv := by decide +kernel
theorem st_XN (hg : ∀ w ∈ lw_gv, w.before args s = true) : XN s := fun q hq => va_Nc.of (hg _ (gv_xn q hq))
theorem gv_xw : ∀ w ∈ xkW, w ∈ lw_tbl ∧ w.onTables = true := by decide +kernel
theorem gv_xc : ∀ X ∈ xkE, Cond.castable X X ∈ lw_tbl := by decide +kernel
theorem gv_xs : ∀ q ∈ xkS, Cond.stringRef RX7 q.1 q.2 ∈ lw_tbl ∧ Cond.exactly (.string RX7 q.1) "java/lang/String" ∈ lw_gv := by decide +kernel
theorem st_XK (hts : ∀ w ∈ lw_tbl, w.before args s = true) (hg : ∀ w ∈ lw_gv, w.before args s = true) (hA : ∀ a : Nat, a < s.heap.size → ¬ A a) : XK A s s.heap := by
  refine ⟨fun w hw => va_tabs (gv_xw w hw).2 rfl (hts _ (gv_xw w hw).1), fun X hX => va_tabs rfl rfl (hts _ (gv_xc X hX)), fun q hq => ?_, ?_, ?_⟩
  · obtain ⟨a, c, cA, kA, q1, -⟩ := Cond.exactly_spec (args := args) (first := s) (o := none) (s := s) (idx := []) (t := .string RX7 q.1) (cls := "java/lang/String") (hg _ (gv_xs q hq).2)
    exact ⟨a, vk_R.of (hts _ (gv_xs q hq).1) q1⟩
  · exact vx_Zqof (hts (.laysStatic Bundle.tN "UNASSIGNED_STACK" Bundle.steD) (by decide +kernel)) (hts (.initialized Bundle.tN) (by decide +kernel)) (hg (.isRef (.static Bundle.tN "UNASSIGNED_STACK" Bundle.steD)) (by decide +kernel)) hA
  · exact vx_Zqof (hts (.laysStatic Bundle.tN "SUPPRESSED_SENTINEL" Bundle.listD) (by decide +kernel)) (hts (.initialized Bundle.tN) (by decide +kernel)) (hg (.isRef (.static Bundle.tN "SUPPRESSED_SENTINEL" Bundle.listD)) (by decide +kernel)) hA
theorem gv_rx : Cond.exactly (.static "HostageRings$Word" "RING" "LHostageRings$Word;") "HostageRings$Word" ∈ lw_gv := by decide +kernel
theorem gv_rl : Cond.laysStatic "HostageRings$Word" "RING" "LHostageRings$Word;" ∈ lw_tbl := by decide +kernel
theorem gv_ri : Cond.initialized "HostageRings$Word" ∈ lw_tbl := by decide +kernel
theorem st_KW (hts : ∀ w ∈ lw_tbl, w.before args s = true) (hg : ∀ w ∈ lw_gv, w.before args s = true) (hA : ∀ a : Nat, a < s.heap.size → ¬ A a) : ∃ (aW aS aV : Nat → Nat) (tW tM : Nat), KW A aW aS aV tW tM s s.heap := by
  obtain ⟨a, c, cA, kA, q1, -⟩ := Cond.exactly_spec (args := args) (first := s) (o := none) (s := s) (idx := []) (t := .static "HostageRings$Word" "RING" "LHostageRings$Word;") (cls := "HostageRings$Word") (hg _ gv_rx)
  exact ⟨fun _ => a, fun _ => 0, fun _ => 0, 0, 0, va_Zof (hts _ gv_rl) (hts _ gv_ri) q1 hA⟩
end ST
