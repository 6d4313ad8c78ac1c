/-! from the law's entry: the classes, the constants, what a throw stands on -/
def lw_gv : List Cond := flatC (Jvm.Cond.and given_1 narrow_1)
def kst : List Nat := [56, 62, 65, 68, 71, 74, 77, 80]
section ST
variable {args : Array Value} {s : State} {A : Nat → Prop}
theorem st_arr {ty : FieldType} (h : (Cond.arrayClass ty).before args s = true) (hty : ∀ cA, s.vm.findClass ("[" ++ ty.toString) = some cA → va_RA s cA ty) : ∃ cA, ArrOfT s cA ty ∧ va_RA s cA ty := by
  obtain ⟨cA, kA, comp, h1, h2, h3⟩ := Cond.arrayClass_spec h
  exact ⟨cA, fun n z => ⟨fun k h => (by cases h), kA, h2, comp, h3⟩, hty cA h1⟩
theorem st_arrO {C : String} (h : (Cond.arrayOver (.object C)).before args s = true) : ∃ cA, ArrOfT s cA (.object C) ∧ va_RA s cA (.object C) := by
  obtain ⟨comp, cA, kA, h1, -, h2, h3, h4⟩ := Cond.arrayOver_spec h
  exact ⟨cA, fun n z => ⟨fun k h => (by cases h), kA, h2, comp, h3⟩, kA, comp, h2, h3, h1, h4⟩
theorem st_K (hts : ∀ w ∈ lw_tbl, w.before args s = true) : ∃ (D : va_G) (cs : Nat → ClassId), va_K D vwCl (kTy cs) s := by
  obtain ⟨c0, i0, k0⟩ := u_known (C := RX1) (T := TX1) (N := 6) (n := 6) hts inX1 (hts (.instantiable RX1 6) (by decide +kernel))
  obtain ⟨c1, i1, k1⟩ := u_known (C := RX2) (T := TX2) (N := 3) (n := 3) hts inX2 (hts (.instantiable RX2 3) (by decide +kernel))
  obtain ⟨c2, i2, k2⟩ := u_known (C := RX3) (T := TX3) (N := 13) (n := 13) hts inX3 (hts (.instantiable RX3 13) (by decide +kernel))
  obtain ⟨c3, i3, k3⟩ := u_known (C := RX4) (T := TX4) (N := 4) (n := 4) hts inX4 (hts (.instantiable RX4 4) (by decide +kernel))
  obtain ⟨c4, i4, k4⟩ := u_known (C := RX5) (T := TX5) (N := 12) (n := 12) hts inX5 (hts (.instantiable RX5 12) (by decide +kernel))
  obtain ⟨c5, i5, k5⟩ := u_known (C := RX7) (T := TX7) (N := 4) (n := 4) hts inX7 (hts (.instantiable RX7 4) (by decide +kernel))
  obtain ⟨c6, i6, k6⟩ := u_known (C := RX8) (T := TX8) (N := 11) (n := 11) hts inX8 (hts (.instantiable RX8 11) (by decide +kernel))
  obtain ⟨a0, b0⟩ := st_arr (ty := .int) (hts (.arrayClass .int) (by decide +kernel)) (fun _ h => h)
  obtain ⟨a1, b1⟩ := st_arr (ty := .char) (hts (.arrayClass .char) (by decide +kernel)) (fun _ h => h)
  obtain ⟨a2, b2⟩ := st_arrO (C := "HostageRings$Ring") (hts (.arrayOver (.object "HostageRings$Ring")) (by decide +kernel))
  obtain ⟨a3, b3⟩ := st_arrO (C := "HostageRings$Move") (hts (.arrayOver (.object "HostageRings$Move")) (by decide +kernel))
  obtain ⟨a4, b4⟩ := st_arrO (C := "HostageRings$State") (hts (.arrayOver (.object "HostageRings$State")) (by decide +kernel))
  obtain ⟨a5, b5⟩ := st_arr (ty := .long) (hts (.arrayClass .long) (by decide +kernel)) (fun _ h => h)
  refine ⟨(fun k => if k = 0 then c0 else if k = 1 then c1 else if k = 2 then c2 else if k = 3 then c3 else if k = 4 then c4 else if k = 5 then c5 else c6, fun k => if k = 0 then i0 else if k = 1 then i1 else if k = 2 then i2 else if k = 3 then i3 else if k = 4 then i4 else if k = 5 then i5 else i6), fun k => if k = 0 then a0 else if k = 1 then a1 else if k = 2 then a2 else if k = 3 then a3 else if k = 4 then a4 else a5, fun k q hq => ?_, fun k q hq => ?_⟩
  · match k, hq with
    | 0, hq => cases hq; exact k0
    | 1, hq => cases hq; exact k1
    | 2, hq => cases hq; exact k2
    | 3, hq => cases hq; exact k3
    | 4, hq => cases hq; exact k4
    | 5, hq => cases hq; exact k5
    | 6, hq => cases hq; exact k6
    | k + 7, hq => simp [vwCl] at hq
  · match k, hq with
    | 0, hq => cases (show some (a0, FieldType.int) = some q from hq); exact b0
    | 1, hq => cases (show some (a1, FieldType.char) = some q from hq); exact b1
    | 2, hq => cases (show some (a2, FieldType.object "HostageRings$Ring") = some q from hq); exact b2
    | 3, hq => cases (show some (a3, FieldType.object "HostageRings$Move") = some q from hq); exact b3
    | 4, hq => cases (show some (a4, FieldType.object "HostageRings$State") = some q from hq); exact b4
    | 5, hq => cases (show some (a5, FieldType.long) = some q from hq); exact b5
    | k + 6, hq => simp [kTy] at hq
theorem st_NK (hts : ∀ w ∈ lw_tbl, w.before args s = true) : NK s := ⟨va_Nw.of rfl (hts (.methodLinkNest RX7 28 yX1_init RX7) (by decide +kernel)), va_Nw.of rfl (hts (.methodLinkNest RX1 57 yX7_isWithin RX7) (by decide +kernel)), va_Nw.of rfl (hts (.methodLinkNest RX5 37 yX4_init RX7) (by decide +kernel)), va_Nw.of rfl (hts (.methodLinkNest RX5 38 yX3_init RX7) (by decide +kernel)), va_Nw.of rfl (hts (.methodLinkNest RX5 70 yX7_isCell RX7) (by decide +kernel)), va_Nw.of rfl (hts (.methodLinkNest RX5 74 yX7_isWithin RX7) (by decide +kernel)), va_Nw.of rfl (hts (.fieldLinkNest RX1 69 RX7 "WORDS" "[LHostageRings$Word;" RX7) (by decide +kernel))⟩
theorem st_AK (hts : ∀ w ∈ lw_tbl, w.before args s = true) : AK s := ⟨va_AO.of (hts (.arrayOver (.object "HostageRings$Ring")) (by decide +kernel)), va_AO.of (hts (.arrayOver (.object "HostageRings$Move")) (by decide +kernel)), va_AO.of (hts (.arrayOver (.object "HostageRings$State")) (by decide +kernel))⟩
theorem gv_xn : ∀ q ∈ xkN, Cond.not (.castable q.1 q.2) ∈ lw_gv := by decide +kernel
theorem st_XN (hg : ∀ w ∈ lw_gv, w.before args s = true) : XN s := fun q hq => va_Nc.of (hg _ (gv_xn q hq))
theorem gv_xw : ∀ w ∈ xkW, w ∈ lw_tbl ∧ w.onTables = true := by decide +kernel
theorem gv_xc : ∀ X ∈ xkE, Cond.castable X X ∈ lw_tbl := by decide +kernel
theorem gv_xs : ∀ q ∈ xkS, Cond.stringRef RX7 q.1 q.2 ∈ lw_tbl ∧ Cond.exactly (.string RX7 q.1) "java/lang/String" ∈ lw_gv := by decide +kernel
theorem st_XK (hts : ∀ w ∈ lw_tbl, w.before args s = true) (hg : ∀ w ∈ lw_gv, w.before args s = true) (hA : ∀ a : Nat, a < s.heap.size → ¬ A a) : XK A s s.heap := by
  refine ⟨fun w hw => va_tabs (gv_xw w hw).2 rfl (hts _ (gv_xw w hw).1), fun X hX => va_tabs rfl rfl (hts _ (gv_xc X hX)), fun q hq => ?_, ?_, ?_⟩
  · obtain ⟨a, c, cA, kA, q1, -⟩ := Cond.exactly_spec (args := args) (first := s) (o := none) (s := s) (idx := []) (t := .string RX7 q.1) (cls := "java/lang/String") (hg _ (gv_xs q hq).2)
    exact ⟨a, vk_R.of (hts _ (gv_xs q hq).1) q1⟩
  · exact vx_Zqof (hts (.laysStatic Bundle.tN "UNASSIGNED_STACK" Bundle.steD) (by decide +kernel)) (hts (.initialized Bundle.tN) (by decide +kernel)) (hg (.isRef (.static Bundle.tN "UNASSIGNED_STACK" Bundle.steD)) (by decide +kernel)) hA
  · exact vx_Zqof (hts (.laysStatic Bundle.tN "SUPPRESSED_SENTINEL" Bundle.listD) (by decide +kernel)) (hts (.initialized Bundle.tN) (by decide +kernel)) (hg (.isRef (.static Bundle.tN "SUPPRESSED_SENTINEL" Bundle.listD)) (by decide +kernel)) hA
theorem gv_ls : ∀ i, i < wNM.length → Cond.laysStatic "HostageRings$Word" (wNM.getD i "") "LHostageRings$Word;" ∈ lw_tbl := by decide +kernel
theorem gv_ex : ∀ i, i < wNM.length → Cond.exactly (.static "HostageRings$Word" (wNM.getD i "") "LHostageRings$Word;") "HostageRings$Word" ∈ lw_gv := by decide +kernel
theorem gv_fi : ∀ q ∈ wFD, ∀ i, i < wNM.length → Cond.eq (.field (.static "HostageRings$Word" (wNM.getD i "") "LHostageRings$Word;") q.1 q.2.1 q.2.2.1) (.int (q.2.2.2.getD i 0)) ∈ lw_gv := by decide +kernel
theorem gv_le : ∀ i, i < 8 → Cond.eq (.field (.static "HostageRings$Word" (wNM.getD i "") "LHostageRings$Word;") "HostageRings$Word" "letters" "Ljava/lang/String;") (.string "HostageRings$Word" (kst.getD i 0)) ∈ lw_gv := by decide +kernel
set_option maxRecDepth 20000 in
theorem gv_ne : ∀ i j, i < wNM.length → j < wNM.length → i ≠ j → Cond.not (.eq (.static "HostageRings$Word" (wNM.getD i "") "LHostageRings$Word;") (.static "HostageRings$Word" (wNM.getD j "") "LHostageRings$Word;")) ∈ lw_gv ∨ Cond.not (.eq (.static "HostageRings$Word" (wNM.getD j "") "LHostageRings$Word;") (.static "HostageRings$Word" (wNM.getD i "") "LHostageRings$Word;")) ∈ lw_gv := by
  intro i j hi hj hne
  have hi : i < 8 := hi
  have hj : j < 8 := hj
  rcases (show i = 0 ∨ i = 1 ∨ i = 2 ∨ i = 3 ∨ i = 4 ∨ i = 5 ∨ i = 6 ∨ i = 7 by omega) with rfl | rfl | rfl | rfl | rfl | rfl | rfl | rfl
  · rcases (show j = 0 ∨ j = 1 ∨ j = 2 ∨ j = 3 ∨ j = 4 ∨ j = 5 ∨ j = 6 ∨ j = 7 by omega) with rfl | rfl | rfl | rfl | rfl | rfl | rfl | rfl
    · exact absurd rfl hne
    · exact Or.inl (List.mem_of_getElem? (i := 43) (by decide +kernel))
    · exact Or.inl (List.mem_of_getElem? (i := 48) (by decide +kernel))
    · exact Or.inl (List.mem_of_getElem? (i := 54) (by decide +kernel))
    · exact Or.inl (List.mem_of_getElem? (i := 61) (by decide +kernel))
    · exact Or.inl (List.mem_of_getElem? (i := 69) (by decide +kernel))
    · exact Or.inl (List.mem_of_getElem? (i := 78) (by decide +kernel))
    · exact Or.inl (List.mem_of_getElem? (i := 88) (by decide +kernel))
  · rcases (show j = 0 ∨ j = 1 ∨ j = 2 ∨ j = 3 ∨ j = 4 ∨ j = 5 ∨ j = 6 ∨ j = 7 by omega) with rfl | rfl | rfl | rfl | rfl | rfl | rfl | rfl
    · exact Or.inr (List.mem_of_getElem? (i := 43) (by decide +kernel))
    · exact absurd rfl hne
    · exact Or.inl (List.mem_of_getElem? (i := 49) (by decide +kernel))
    · exact Or.inl (List.mem_of_getElem? (i := 55) (by decide +kernel))
    · exact Or.inl (List.mem_of_getElem? (i := 62) (by decide +kernel))
    · exact Or.inl (List.mem_of_getElem? (i := 70) (by decide +kernel))
    · exact Or.inl (List.mem_of_getElem? (i := 79) (by decide +kernel))
    · exact Or.inl (List.mem_of_getElem? (i := 89) (by decide +kernel))
  · rcases (show j = 0 ∨ j = 1 ∨ j = 2 ∨ j = 3 ∨ j = 4 ∨ j = 5 ∨ j = 6 ∨ j = 7 by omega) with rfl | rfl | rfl | rfl | rfl | rfl | rfl | rfl
    · exact Or.inr (List.mem_of_getElem? (i := 48) (by decide +kernel))
    · exact Or.inr (List.mem_of_getElem? (i := 49) (by decide +kernel))
    · exact absurd rfl hne
    · exact Or.inl (List.mem_of_getElem? (i := 56) (by decide +kernel))
    · exact Or.inl (List.mem_of_getElem? (i := 63) (by decide +kernel))
    · exact Or.inl (List.mem_of_getElem? (i := 71) (by decide +kernel))
    · exact Or.inl (List.mem_of_getElem? (i := 80) (by decide +kernel))
    · exact Or.inl (List.mem_of_getElem? (i := 90) (by decide +kernel))
  · rcases (show j = 0 ∨ j = 1 ∨ j = 2 ∨ j = 3 ∨ j = 4 ∨ j = 5 ∨ j = 6 ∨ j = 7 by omega) with rfl | rfl | rfl | rfl | rfl | rfl | rfl | rfl
    · exact Or.inr (List.mem_of_getElem? (i := 54) (by decide +kernel))
    · exact Or.inr (List.mem_of_getElem? (i := 55) (by decide +kernel))
    · exact Or.inr (List.mem_of_getElem? (i := 56) (by decide +kernel))
    · exact absurd rfl hne
    · exact Or.inl (List.mem_of_getElem? (i := 64) (by decide +kernel))
    · exact Or.inl (List.mem_of_getElem? (i := 72) (by decide +kernel))
    · exact Or.inl (List.mem_of_getElem? (i := 81) (by decide +kernel))
    · exact Or.inl (List.mem_of_getElem? (i := 91) (by decide +kernel))
  · rcases (show j = 0 ∨ j = 1 ∨ j = 2 ∨ j = 3 ∨ j = 4 ∨ j = 5 ∨ j = 6 ∨ j = 7 by omega) with rfl | rfl | rfl | rfl | rfl | rfl | rfl | rfl
    · exact Or.inr (List.mem_of_getElem? (i := 61) (by decide +kernel))
    · exact Or.inr (List.mem_of_getElem? (i := 62) (by decide +kernel))
    · exact Or.inr (List.mem_of_getElem? (i := 63) (by decide +kernel))
    · exact Or.inr (List.mem_of_getElem? (i := 64) (by decide +kernel))
    · exact absurd rfl hne
    · exact Or.inl (List.mem_of_getElem? (i := 73) (by decide +kernel))
    · exact Or.inl (List.mem_of_getElem? (i := 82) (by decide +kernel))
    · exact Or.inl (List.mem_of_getElem? (i := 92) (by decide +kernel))
  · rcases (show j = 0 ∨ j = 1 ∨ j = 2 ∨ j = 3 ∨ j = 4 ∨ j = 5 ∨ j = 6 ∨ j = 7 by omega) with rfl | rfl | rfl | rfl | rfl | rfl | rfl | rfl
    · exact Or.inr (List.mem_of_getElem? (i := 69) (by decide +kernel))
    · exact Or.inr (List.mem_of_getElem? (i := 70) (by decide +kernel))
    · exact Or.inr (List.mem_of_getElem? (i := 71) (by decide +kernel))
    · exact Or.inr (List.mem_of_getElem? (i := 72) (by decide +kernel))
    · exact Or.inr (List.mem_of_getElem? (i := 73) (by decide +kernel))
    · exact absurd rfl hne
    · exact Or.inl (List.mem_of_getElem? (i := 83) (by decide +kernel))
    · exact Or.inl (List.mem_of_getElem? (i := 93) (by decide +kernel))
  · rcases (show j = 0 ∨ j = 1 ∨ j = 2 ∨ j = 3 ∨ j = 4 ∨ j = 5 ∨ j = 6 ∨ j = 7 by omega) with rfl | rfl | rfl | rfl | rfl | rfl | rfl | rfl
    · exact Or.inr (List.mem_of_getElem? (i := 78) (by decide +kernel))
    · exact Or.inr (List.mem_of_getElem? (i := 79) (by decide +kernel))
    · exact Or.inr (List.mem_of_getElem? (i := 80) (by decide +kernel))
    · exact Or.inr (List.mem_of_getElem? (i := 81) (by decide +kernel))
    · exact Or.inr (List.mem_of_getElem? (i := 82) (by decide +kernel))
    · exact Or.inr (List.mem_of_getElem? (i := 83) (by decide +kernel))
    · exact absurd rfl hne
    · exact Or.inl (List.mem_of_getElem? (i := 94) (by decide +kernel))
  · rcases (show j = 0 ∨ j = 1 ∨ j = 2 ∨ j = 3 ∨ j = 4 ∨ j = 5 ∨ j = 6 ∨ j = 7 by omega) with rfl | rfl | rfl | rfl | rfl | rfl | rfl | rfl
    · exact Or.inr (List.mem_of_getElem? (i := 88) (by decide +kernel))
    · exact Or.inr (List.mem_of_getElem? (i := 89) (by decide +kernel))
    · exact Or.inr (List.mem_of_getElem? (i := 90) (by decide +kernel))
    · exact Or.inr (List.mem_of_getElem? (i := 91) (by decide +kernel))
    · exact Or.inr (List.mem_of_getElem? (i := 92) (by decide +kernel))
    · exact Or.inr (List.mem_of_getElem? (i := 93) (by decide +kernel))
    · exact Or.inr (List.mem_of_getElem? (i := 94) (by decide +kernel))
    · exact absurd rfl hne
set_option maxRecDepth 20000 in
theorem gv_ns : ∀ i j, i < 8 → j < 8 → i ≠ j → Cond.not (.eq (.string "HostageRings$Word" (kst.getD i 0)) (.string "HostageRings$Word" (kst.getD j 0))) ∈ lw_gv ∨ Cond.not (.eq (.string "HostageRings$Word" (kst.getD j 0)) (.string "HostageRings$Word" (kst.getD i 0))) ∈ lw_gv := by
  intro i j hi hj hne
  have hi : i < 8 := hi
  have hj : j < 8 := hj
  rcases (show i = 0 ∨ i = 1 ∨ i = 2 ∨ i = 3 ∨ i = 4 ∨ i = 5 ∨ i = 6 ∨ i = 7 by omega) with rfl | rfl | rfl | rfl | rfl | rfl | rfl | rfl
  · rcases (show j = 0 ∨ j = 1 ∨ j = 2 ∨ j = 3 ∨ j = 4 ∨ j = 5 ∨ j = 6 ∨ j = 7 by omega) with rfl | rfl | rfl | rfl | rfl | rfl | rfl | rfl
    · exact absurd rfl hne
    · exact Or.inl (List.mem_of_getElem? (i := 407) (by decide +kernel))
    · exact Or.inl (List.mem_of_getElem? (i := 425) (by decide +kernel))
    · exact Or.inl (List.mem_of_getElem? (i := 446) (by decide +kernel))
    · exact Or.inl (List.mem_of_getElem? (i := 466) (by decide +kernel))
    · exact Or.inl (List.mem_of_getElem? (i := 486) (by decide +kernel))
    · exact Or.inl (List.mem_of_getElem? (i := 507) (by decide +kernel))
    · exact Or.inl (List.mem_of_getElem? (i := 531) (by decide +kernel))
  · rcases (show j = 0 ∨ j = 1 ∨ j = 2 ∨ j = 3 ∨ j = 4 ∨ j = 5 ∨ j = 6 ∨ j = 7 by omega) with rfl | rfl | rfl | rfl | rfl | rfl | rfl | rfl
    · exact Or.inr (List.mem_of_getElem? (i := 407) (by decide +kernel))
    · exact absurd rfl hne
    · exact Or.inl (List.mem_of_getElem? (i := 426) (by decide +kernel))
    · exact Or.inl (List.mem_of_getElem? (i := 447) (by decide +kernel))
    · exact Or.inl (List.mem_of_getElem? (i := 467) (by decide +kernel))
    · exact Or.inl (List.mem_of_getElem? (i := 487) (by decide +kernel))
    · exact Or.inl (List.mem_of_getElem? (i := 508) (by decide +kernel))
    · exact Or.inl (List.mem_of_getElem? (i := 532) (by decide +kernel))
  · rcases (show j = 0 ∨ j = 1 ∨ j = 2 ∨ j = 3 ∨ j = 4 ∨ j = 5 ∨ j = 6 ∨ j = 7 by omega) with rfl | rfl | rfl | rfl | rfl | rfl | rfl | rfl
    · exact Or.inr (List.mem_of_getElem? (i := 425) (by decide +kernel))
    · exact Or.inr (List.mem_of_getElem? (i := 426) (by decide +kernel))
    · exact absurd rfl hne
    · exact Or.inl (List.mem_of_getElem? (i := 448) (by decide +kernel))
    · exact Or.inl (List.mem_of_getElem? (i := 468) (by decide +kernel))
    · exact Or.inl (List.mem_of_getElem? (i := 488) (by decide +kernel))
    · exact Or.inl (List.mem_of_getElem? (i := 509) (by decide +kernel))
    · exact Or.inl (List.mem_of_getElem? (i := 533) (by decide +kernel))
  · rcases (show j = 0 ∨ j = 1 ∨ j = 2 ∨ j = 3 ∨ j = 4 ∨ j = 5 ∨ j = 6 ∨ j = 7 by omega) with rfl | rfl | rfl | rfl | rfl | rfl | rfl | rfl
    · exact Or.inr (List.mem_of_getElem? (i := 446) (by decide +kernel))
    · exact Or.inr (List.mem_of_getElem? (i := 447) (by decide +kernel))
    · exact Or.inr (List.mem_of_getElem? (i := 448) (by decide +kernel))
    · exact absurd rfl hne
    · exact Or.inl (List.mem_of_getElem? (i := 469) (by decide +kernel))
    · exact Or.inl (List.mem_of_getElem? (i := 489) (by decide +kernel))
    · exact Or.inl (List.mem_of_getElem? (i := 510) (by decide +kernel))
    · exact Or.inl (List.mem_of_getElem? (i := 534) (by decide +kernel))
  · rcases (show j = 0 ∨ j = 1 ∨ j = 2 ∨ j = 3 ∨ j = 4 ∨ j = 5 ∨ j = 6 ∨ j = 7 by omega) with rfl | rfl | rfl | rfl | rfl | rfl | rfl | rfl
    · exact Or.inr (List.mem_of_getElem? (i := 466) (by decide +kernel))
    · exact Or.inr (List.mem_of_getElem? (i := 467) (by decide +kernel))
    · exact Or.inr (List.mem_of_getElem? (i := 468) (by decide +kernel))
    · exact Or.inr (List.mem_of_getElem? (i := 469) (by decide +kernel))
    · exact absurd rfl hne
    · exact Or.inl (List.mem_of_getElem? (i := 490) (by decide +kernel))
    · exact Or.inl (List.mem_of_getElem? (i := 511) (by decide +kernel))
    · exact Or.inl (List.mem_of_getElem? (i := 535) (by decide +kernel))
  · rcases (show j = 0 ∨ j = 1 ∨ j = 2 ∨ j = 3 ∨ j = 4 ∨ j = 5 ∨ j = 6 ∨ j = 7 by omega) with rfl | rfl | rfl | rfl | rfl | rfl | rfl | rfl
    · exact Or.inr (List.mem_of_getElem? (i := 486) (by decide +kernel))
    · exact Or.inr (List.mem_of_getElem? (i := 487) (by decide +kernel))
    · exact Or.inr (List.mem_of_getElem? (i := 488) (by decide +kernel))
    · exact Or.inr (List.mem_of_getElem? (i := 489) (by decide +kernel))
    · exact Or.inr (List.mem_of_getElem? (i := 490) (by decide +kernel))
    · exact absurd rfl hne
    · exact Or.inl (List.mem_of_getElem? (i := 512) (by decide +kernel))
    · exact Or.inl (List.mem_of_getElem? (i := 536) (by decide +kernel))
  · rcases (show j = 0 ∨ j = 1 ∨ j = 2 ∨ j = 3 ∨ j = 4 ∨ j = 5 ∨ j = 6 ∨ j = 7 by omega) with rfl | rfl | rfl | rfl | rfl | rfl | rfl | rfl
    · exact Or.inr (List.mem_of_getElem? (i := 507) (by decide +kernel))
    · exact Or.inr (List.mem_of_getElem? (i := 508) (by decide +kernel))
    · exact Or.inr (List.mem_of_getElem? (i := 509) (by decide +kernel))
    · exact Or.inr (List.mem_of_getElem? (i := 510) (by decide +kernel))
    · exact Or.inr (List.mem_of_getElem? (i := 511) (by decide +kernel))
    · exact Or.inr (List.mem_of_getElem? (i := 512) (by decide +kernel))
    · exact absurd rfl hne
    · exact Or.inl (List.mem_of_getElem? (i := 537) (by decide +kernel))
  · rcases (show j = 0 ∨ j = 1 ∨ j = 2 ∨ j = 3 ∨ j = 4 ∨ j = 5 ∨ j = 6 ∨ j = 7 by omega) with rfl | rfl | rfl | rfl | rfl | rfl | rfl | rfl
    · exact Or.inr (List.mem_of_getElem? (i := 531) (by decide +kernel))
    · exact Or.inr (List.mem_of_getElem? (i := 532) (by decide +kernel))
    · exact Or.inr (List.mem_of_getElem? (i := 533) (by decide +kernel))
    · exact Or.inr (List.mem_of_getElem? (i := 534) (by decide +kernel))
    · exact Or.inr (List.mem_of_getElem? (i := 535) (by decide +kernel))
    · exact Or.inr (List.mem_of_getElem? (i := 536) (by decide +kernel))
    · exact Or.inr (List.mem_of_getElem? (i := 537) (by decide +kernel))
    · exact absurd rfl hne
theorem gv_sx : ∀ i, i < 8 → Cond.exactly (.string "HostageRings$Word" (kst.getD i 0)) "java/lang/String" ∈ lw_gv ∧ Cond.eq (.field (.string "HostageRings$Word" (kst.getD i 0)) "java/lang/String" "coder" "B") (.int 0) ∈ lw_gv ∧ Cond.arrayOf (.field (.string "HostageRings$Word" (kst.getD i 0)) "java/lang/String" "value" "[B") .byte ∈ lw_gv ∧ Cond.eq (.length (.field (.string "HostageRings$Word" (kst.getD i 0)) "java/lang/String" "value" "[B")) (.int (Int32.ofNat (wLN.getD i 0))) ∈ lw_gv := by decide +kernel
theorem gv_se : ∀ i, i < 8 → ∀ j, j < wLN.getD i 0 → Cond.eq (.elem (.field (.string "HostageRings$Word" (kst.getD i 0)) "java/lang/String" "value" "[B") (.int (Int32.ofNat j))) (.int ((wBY.getD i []).getD j 0)) ∈ lw_gv := by decide +kernel
theorem gv_wt : ∀ j, j < 8 → Cond.eq (.elem (.static "HostageRings" "WORDS" "[LHostageRings$Word;") (.int (Int32.ofNat j))) (.static "HostageRings$Word" (wNM.getD j "") "LHostageRings$Word;") ∈ lw_gv := by decide +kernel
theorem gv_mt : ∀ j, j < 8 → Cond.eq (.elem (.static "HostageRings$1" "$SwitchMap$HostageRings$Word" "[I") (.int (Int32.ofNat j))) (.int (nI (j + 1))) ∈ lw_gv := by decide +kernel
theorem st_KW (hts : ∀ w ∈ lw_tbl, w.before args s = true) (hg : ∀ w ∈ lw_gv, w.before args s = true) (hA : ∀ a : Nat, a < s.heap.size → ¬ A a) : ∃ (aW aS aV : Nat → Nat) (tW tM : Nat), KW A aW aS aV tW tM s s.heap := by
  obtain ⟨aW, hEn, hev⟩ := va_Enof2 (args := args) (s := s) (E := "HostageRings$Word") (d := "LHostageRings$Word;") (nm := wNM) (F := wFD) (A := A) (fun i hi => hts _ (gv_ls i hi)) (hts (.initialized "HostageRings$Word") (by decide +kernel)) (fun i hi => hg _ (gv_ex i hi)) (fun q hq i hi => hg _ (gv_fi q hq i hi)) (fun i j hi hj hne => (gv_ne i j hi hj hne).imp (fun h => hg _ h) (fun h => hg _ h)) hA
  obtain ⟨aS, aV, hSt, hsv⟩ := vk_Sof (args := args) (s := s) (N := 8) (tm := fun i => .string "HostageRings$Word" (kst.getD i 0)) (len := wLN) (byt := wBY) (A := A) (by decide +kernel) (fun i hi => hg _ (gv_sx i hi).1) (fun i hi => hg _ (gv_sx i hi).2.1) (fun i hi => hg _ (gv_sx i hi).2.2.1) (fun i hi => hg _ (gv_sx i hi).2.2.2) (fun i hi j hj => hg _ (gv_se i hi j hj)) (fun i j hi hj hne => (gv_ns i j hi hj hne).imp (fun h => hg _ h) (fun h => hg _ h)) hA
  have hEf := va_Efof (args := args) (s := s) (N := 8) (E := "HostageRings$Word") (d0 := "LHostageRings$Word;") (o := "HostageRings$Word") (n := "letters") (d := "Ljava/lang/String;") (nm := wNM) (v := fun k => .ref (aS k)) (tm := fun i => .string "HostageRings$Word" (kst.getD i 0)) (ad := aW) (A := A) (fun i hi => hev i hi) (fun i hi => hg _ (gv_le i hi)) (fun i hi => hsv i hi) hA
  obtain ⟨tW, hw1, hw2⟩ := va_Tof (args := args) (s := s) (tm := (.static "HostageRings" "WORDS" "[LHostageRings$Word;")) (ty := .object "HostageRings$Word") (N := 8) (f := fun j => .ref (aW j)) (A := A) (by decide) (hg (.arrayOf (.static "HostageRings" "WORDS" "[LHostageRings$Word;") (.object "HostageRings$Word")) (by decide +kernel)) (va_eqt (hg (.eq (.length (.static "HostageRings" "WORDS" "[LHostageRings$Word;")) (.int (Int32.ofNat 8))) (by decide +kernel))) (fun j hj => va_eqv (hg _ (gv_wt j hj)) (hev j hj)) hA
  obtain ⟨tM, hm1, hm2⟩ := va_Tof (args := args) (s := s) (tm := (.static "HostageRings$1" "$SwitchMap$HostageRings$Word" "[I")) (ty := .int) (N := 8) (f := fun j => .int (nI (j + 1))) (A := A) (by decide) (hg (.arrayOf (.static "HostageRings$1" "$SwitchMap$HostageRings$Word" "[I") .int) (by decide +kernel)) (va_eqt (hg (.eq (.length (.static "HostageRings$1" "$SwitchMap$HostageRings$Word" "[I")) (.int (Int32.ofNat 8))) (by decide +kernel))) (fun j hj => va_eqt (hg _ (gv_mt j hj))) hA
  exact ⟨aW, aS, aV, tW, tM, hEn, hEf, hSt,
    va_Zref (hts (.laysStatic "HostageRings" "WORDS" "[LHostageRings$Word;") (by decide +kernel)) (hts (.initialized "HostageRings") (by decide +kernel)) hw1 hA, hw2,
    va_Zref (hts (.laysStatic "HostageRings$1" "$SwitchMap$HostageRings$Word" "[I") (by decide +kernel)) (hts (.initialized "HostageRings$1") (by decide +kernel)) hm1 hA, hm2,
    va_Zof (hts (.laysStatic "java/lang/String" "COMPACT_STRINGS" "Z") (by decide +kernel)) (hts (.initialized "java/lang/String") (by decide +kernel)) (va_eqt (hg (.eq (.static "java/lang/String" "COMPACT_STRINGS" "Z") (.int 1)) (by decide +kernel))) hA,
    va_Zqof (hts (.laysStatic "jdk/internal/util/Preconditions" "SIOOBE_FORMATTER" "Ljava/util/function/BiFunction;") (by decide +kernel)) (hts (.initialized "jdk/internal/util/Preconditions") (by decide +kernel)) (hg (.isRef (.static "jdk/internal/util/Preconditions" "SIOOBE_FORMATTER" "Ljava/util/function/BiFunction;")) (by decide +kernel)) hA⟩
end ST
