/-! what the law's calls come to: refusal numbers read backwards, the field thrown, equal answers -/
section LAWP
variable {z e : Nat → Int32} {g : Nat → Int64} {nx cn : Nat} {se : Nat → Nat → Int32} {sg : Nat → Nat → Int64} {b : Nat → Int32} {ln : Nat} {x y : Int32}
theorem svT_t (z : Nat → Int32) (hv : Sv z ≤ 4) : svT z 4403 = nI 0 := by unfold svT; rw [saveF_hi _ hv (by omega) (by omega), upd_at, if_pos rfl]
theorem wpt_3 : wpt z x y ≤ 2 := by unfold wpt; repeat (first | omega | split)
theorem wse_3 : wse x y ≤ 1 := by unfold wse; repeat (first | omega | split)
theorem wsg_3 : wsg z x ≤ 2 := by unfold wsg; repeat (first | omega | split)
theorem wst_3 : wst z x y ≤ 2 := by unfold wst; repeat (first | omega | split)
theorem wtk_3 : wtk z x ≤ 2 := by unfold wtk; repeat (first | omega | split)
theorem cw_c : cwN x = 0 ∨ cwN x = 1 := by unfold cwN; split <;> simp
theorem cw_0 (h : cwN x = 0) : ∃ r, r < 48 ∧ x = nI r := by
  unfold cwN at h
  by_cases q : wiB x (nI 0) (nI 47) = true
  · obtain ⟨r, -, h2, h3⟩ := wi_nat (by decide) (by decide) q
    exact ⟨r, by omega, h3⟩
  · rw [if_neg q] at h; exact absurd h (by decide)
theorem cw_1 (h : cwN x = 1) : wiB x (nI 0) (nI 47) = false := by
  unfold cwN at h
  by_cases q : wiB x (nI 0) (nI 47) = true
  · rw [if_pos q] at h; exact absurd h (by decide)
  · exact Bool.eq_false_iff.mpr q
theorem ww_c : wwN x = 0 ∨ wwN x = 1 := by unfold wwN; split <;> simp
theorem ww_0 (h : wwN x = 0) : ∃ r, r < 15 ∧ x = nI r := by
  unfold wwN at h
  by_cases q : wiB x (nI 0) (nI 14) = true
  · obtain ⟨r, -, h2, h3⟩ := wi_nat (by decide) (by decide) q
    exact ⟨r, by omega, h3⟩
  · rw [if_neg q] at h; exact absurd h (by decide)
theorem ww_1 (h : wwN x = 1) : wiB x (nI 0) (nI 14) = false := by
  unfold wwN at h
  by_cases q : wiB x (nI 0) (nI 14) = true
  · rw [if_pos q] at h; exact absurd h (by decide)
  · exact Bool.eq_false_iff.mpr q
theorem mw_c : mwN z x = 0 ∨ mwN z x = 1 := by unfold mwN; split <;> simp
theorem mw_0 (hI : Inv z) (h : mwN z x = 0) : ∃ m, m < Mn z ∧ x = nI m := by
  have h24 := hI.M24
  unfold mwN at h
  by_cases q : lsB x (Mn z) = true
  · exact (lsB_iff (by omega)).mp q
  · rw [if_neg q] at h; exact absurd h (by decide)
theorem mw_1 (h : mwN z x = 1) : lsB x (Mn z) = false := by
  unfold mwN at h
  by_cases q : lsB x (Mn z) = true
  · rw [if_pos q] at h; exact absurd h (by decide)
  · exact Bool.eq_false_iff.mpr q
theorem rw_c : rwN z x y = 0 ∨ rwN z x y = 1 ∨ rwN z x y = 2 := by unfold rwN; split; simp; split <;> simp
theorem rw_0 (hI : Inv z) (h : rwN z x y = 0) : ∃ r w, r < Rn z ∧ w < 8 ∧ x = nI r ∧ y = nI w := by
  have h6 := hI.R6
  unfold rwN at h
  by_cases q : lsB x (Rn z) = false
  · rw [if_pos q] at h; exact absurd h (by decide)
  · rw [if_neg q] at h
    by_cases q2 : wiB y (nI 0) (nI 7) = true
    · obtain ⟨r, h1, h2⟩ := ls_of (by omega) q
      obtain ⟨w, -, h3, h4⟩ := wi_nat (by decide) (by decide) q2
      exact ⟨r, w, h1, by omega, h2, h4⟩
    · rw [if_neg q2] at h; exact absurd h (by decide)
theorem rw_1 (h : rwN z x y = 1) : lsB x (Rn z) = false := by
  unfold rwN at h
  by_cases q : lsB x (Rn z) = false
  · exact q
  · rw [if_neg q] at h
    by_cases q2 : wiB y (nI 0) (nI 7) = true
    · rw [if_pos q2] at h; exact absurd h (by decide)
    · rw [if_neg q2] at h; exact absurd h (by decide)
theorem rw_2 (h : rwN z x y = 2) : lsB x (Rn z) = true ∧ wiB y (nI 0) (nI 7) = false := by
  unfold rwN at h
  by_cases q : lsB x (Rn z) = false
  · rw [if_pos q] at h; exact absurd h (by decide)
  · rw [if_neg q] at h
    by_cases q2 : wiB y (nI 0) (nI 7) = true
    · rw [if_pos q2] at h; exact absurd h (by decide)
    · exact ⟨bt_of q, Bool.eq_false_iff.mpr q2⟩
theorem ow_c : owN z x y = 0 ∨ owN z x y = 1 ∨ owN z x y = 2 := by unfold owN; split; simp; split <;> simp
theorem ow_0 (hI : Inv z) (h : owN z x y = 0) : ∃ r w, r < Mn z ∧ w < 10 ∧ x = nI r ∧ y = nI w := by
  have h6 := hI.M24
  unfold owN at h
  by_cases q : lsB x (Mn z) = false
  · rw [if_pos q] at h; exact absurd h (by decide)
  · rw [if_neg q] at h
    by_cases q2 : wiB y (nI 0) (nI 9) = true
    · obtain ⟨r, h1, h2⟩ := ls_of (by omega) q
      obtain ⟨w, -, h3, h4⟩ := wi_nat (by decide) (by decide) q2
      exact ⟨r, w, h1, by omega, h2, h4⟩
    · rw [if_neg q2] at h; exact absurd h (by decide)
theorem ow_1 (h : owN z x y = 1) : lsB x (Mn z) = false := by
  unfold owN at h
  by_cases q : lsB x (Mn z) = false
  · exact q
  · rw [if_neg q] at h
    by_cases q2 : wiB y (nI 0) (nI 9) = true
    · rw [if_pos q2] at h; exact absurd h (by decide)
    · rw [if_neg q2] at h; exact absurd h (by decide)
theorem ow_2 (hI : Inv z) (h : owN z x y = 2) : ∃ r, r < Mn z ∧ x = nI r ∧ wiB y (nI 0) (nI 9) = false := by
  have h6 := hI.M24
  unfold owN at h
  by_cases q : lsB x (Mn z) = false
  · rw [if_pos q] at h; exact absurd h (by decide)
  · rw [if_neg q] at h
    by_cases q2 : wiB y (nI 0) (nI 9) = true
    · rw [if_pos q2] at h; exact absurd h (by decide)
    · obtain ⟨r, h1, h2⟩ := ls_of (by omega) q
      exact ⟨r, h1, h2, Bool.eq_false_iff.mpr q2⟩
theorem hw_c : hwN z x y = 0 ∨ hwN z x y = 1 ∨ hwN z x y = 2 := by unfold hwN; split; simp; split <;> simp
theorem hw_0 (hI : Inv z) (h : hwN z x y = 0) : ∃ r w, r < Mn z ∧ w < 2 ^ 31 ∧ x = nI r ∧ y = nI w := by
  have h6 := hI.M24
  unfold hwN at h
  by_cases q : lsB x (Mn z) = false
  · rw [if_pos q] at h; exact absurd h (by decide)
  · rw [if_neg q] at h
    by_cases q2 : (0 : Int32) ≤ y
    · obtain ⟨r, h1, h2⟩ := ls_of (by omega) q
      have h3 : y ≤ nI 2147483647 := by
        rw [Int32.le_iff_toInt_le, show (nI 2147483647).toInt = 2147483647 by decide]
        have := Int32.toInt_lt y; omega
      obtain ⟨w, -, h4, h5⟩ := wi_nat (x := y) (lo := 0) (hi := 2147483647) (by decide) (by decide) (wi_iff.mpr ⟨q2, h3⟩)
      exact ⟨r, w, h1, by omega, h2, h5⟩
    · rw [if_neg q2] at h; exact absurd h (by decide)
theorem hw_1 (h : hwN z x y = 1) : lsB x (Mn z) = false := by
  unfold hwN at h
  by_cases q : lsB x (Mn z) = false
  · exact q
  · rw [if_neg q] at h
    by_cases q2 : (0 : Int32) ≤ y
    · rw [if_pos q2] at h; exact absurd h (by decide)
    · rw [if_neg q2] at h; exact absurd h (by decide)
theorem hw_2 (hI : Inv z) (h : hwN z x y = 2) : ∃ r, r < Mn z ∧ x = nI r ∧ y < 0 := by
  have h6 := hI.M24
  unfold hwN at h
  by_cases q : lsB x (Mn z) = false
  · rw [if_pos q] at h; exact absurd h (by decide)
  · rw [if_neg q] at h
    by_cases q2 : (0 : Int32) ≤ y
    · rw [if_pos q2] at h; exact absurd h (by decide)
    · obtain ⟨r, h1, h2⟩ := ls_of (by omega) q
      exact ⟨r, h1, h2, Int32.not_le.mp q2⟩
theorem tw_c : twN z x = 0 ∨ twN z x = 1 ∨ twN z x = 2 := by unfold twN; split; simp; split <;> simp
theorem tw_0 (hT : Tl z ≤ 150) (h : twN z x = 0) : ∃ r, r ≤ 127 ∧ x = nI r ∧ Tl z < 150 := by
  unfold twN at h
  by_cases q : wiB x (nI 0) (nI 127) = false
  · rw [if_pos q] at h; exact absurd h (by decide)
  · rw [if_neg q] at h
    by_cases q2 : Tl z = 150
    · rw [if_pos q2] at h; exact absurd h (by decide)
    · obtain ⟨r, -, h2, h3⟩ := wi_nat (by decide) (by decide) (bt_of q)
      exact ⟨r, h2, h3, by omega⟩
theorem tw_1 (h : twN z x = 1) : wiB x (nI 0) (nI 127) = false := by
  unfold twN at h
  by_cases q : wiB x (nI 0) (nI 127) = false
  · exact q
  · rw [if_neg q] at h
    by_cases q2 : Tl z = 150
    · rw [if_pos q2] at h; exact absurd h (by decide)
    · rw [if_neg q2] at h; exact absurd h (by decide)
theorem tw_2 (h : twN z x = 2) : ∃ r, r ≤ 127 ∧ x = nI r ∧ Tl z = 150 := by
  unfold twN at h
  by_cases q : wiB x (nI 0) (nI 127) = false
  · rw [if_pos q] at h; exact absurd h (by decide)
  · rw [if_neg q] at h
    by_cases q2 : Tl z = 150
    · obtain ⟨r, -, h2, h3⟩ := wi_nat (by decide) (by decide) (bt_of q)
      exact ⟨r, h2, h3, q2⟩
    · rw [if_neg q2] at h; exact absurd h (by decide)
theorem uw_c : uwN z = 0 ∨ uwN z = 1 := by unfold uwN; split <;> simp
theorem uw_0 (h : uwN z = 0) : 1 ≤ Sv z := by
  unfold uwN at h
  by_cases q : 0 < Sv z
  · exact q
  · rw [if_neg q] at h; exact absurd h (by decide)
theorem uw_1 (h : uwN z = 1) : Sv z = 0 := by
  unfold uwN at h
  by_cases q : 0 < Sv z
  · rw [if_pos q] at h; exact absurd h (by decide)
  · omega
theorem ra_sv (h : RelA z e g nx cn se sg b ln) : svT z 4403 = nI 0 := svT_t z (by rw [h.sv]; exact h.2.2.1.1.2.2)
theorem ra_cell (h : RelA z e g nx cn se sg b ln) {r : Nat} (hr : r < 48) : e (8 + r) = z (8 + r) := h.1.1.1 _ (by omega)
theorem ra_undoI (h : RelA z e g nx cn se sg b ln) (h1 : 1 ≤ cn) : Inv (se ((nx + 3) % 4)) := ev_R (h.2.2.1.2 0 (by omega)).1
theorem t0_thr (z : Nat → Int32) : t0 z 4403 = nI 0 := by show upd z 4403 (nI 0) 4403 = nI 0; rw [upd_at, if_pos rfl]
theorem ty_thr (hT : Tl z < 150) (x : Int32) : tyF z x 4403 = nI 0 := by
  unfold tyF; rw [upd_at, if_neg (by omega), upd_at, if_neg (by omega)]; exact t0_thr z
theorem ud_thr : udF z 4403 = nI 0 := by
  unfold udF; rw [cpZ_at, if_neg (by omega), upd_at, if_neg (by omega)]; exact t0_thr z
theorem dz_thr {k : Nat} (hk : k ≤ 24) : dzK (t0 z) k 4403 = nI 0 := by
  unfold dzK; rw [if_neg (by omega)]; exact t0_thr z
theorem th_thr (v : Int32) : upd z 4403 v 4403 = v := by rw [upd_at, if_pos rfl]
theorem dg_thr {y : Nat → Int32} (h : DgP (t0 z) y) : y 4403 = nI 0 := (h 4403 (by omega)).trans (th_thr _)
theorem vp_upd0 (f : Nat → Int64) (v : Int64) : vp_updL f 0 v 0 = v := by unfold vp_updL; rw [if_pos rfl]
end LAWP
/-! the law's body: what stands in its loop -/
/-- what stands from the law's entry on -/
def LwG (p : Program) (l : Launch) (s : State) (m : MethodId) (c : Code) (D : va_G) (cs : Nat → ClassId) (L : Nat) (aW aS aV : Nat → Nat) (tW tM bs N : Nat) (xs : Nat → Int32) : Prop :=
  p.tables.exec = Jvm.exec ∧ c.code = cL_law ∧ c.maxLocals = 8 ∧ s.vm.findClass RL = some m.cls ∧ (∀ w ∈ wsL_law, w.before #[Value.ref bs] s = true) ∧ va_K D vwCl (kTy cs) s ∧ NK s ∧ KW (fun y => L ≤ y) aW aS aV tW tM s s.heap ∧ XK (fun y => L ≤ y) s s.heap ∧ XN s ∧ va_X bs N xs s s.heap ∧ bs < s.heap.size ∧ L = s.heap.size ∧ N ≤ 3072 ∧ l.stackTraces = false
/-- the class's object at L, the reference's at L + 360, the row of answers at L + 367 -/
def LwD (D : va_G) (cs : Nat → ClassId) (L : Nat) (aW : Nat → Nat) (H : Heap) : Prop :=
  ∃ (z e : Nat → Int32) (g : Nat → Int64) (e1 : Nat → Int32) (g1 : Nat → Int64) (nx cn : Nat) (se : Nat → Nat → Int32) (sg : Nat → Nat → Int64) (bt nn9 : Nat → Int32) (k9 ln pa : Nat) (ft : Int32) (f : Nat → Int64), HrC D cs L e g e1 g1 nx cn se sg bt nn9 (aW k9) ln pa ft H ∧ va_at D vwCl (L + 367, .inl (cs 5, 1, .inr (.inl f))) H ∧ MdC D (cs 0) (L + 360) z H ∧ RelA z e g nx cn se sg bt ln ∧ k9 < 8 ∧ L + 368 ≤ H.size
section LAW4
variable {p : Program} {l : Launch} {en : Env} {R : Room} {s : State} {m : MethodId} {args : Array Value} {below : List Frame} {meth : Method} {c : Code} {H H1 H0 : Heap} {locs : List Loc} {cells slots : Nat} {Q : State → Prop}
variable {cc : ByteArray} {pc : Nat} {ls : Array Slot} {rest st0 : List Value} {A : Nat → Prop} {D : va_G} {cs : Nat → ClassId} {x : Nat} {e : Nat → Int32} {g : Nat → Int64} {e1 : Nat → Int32} {g1 : Nat → Int64} {nx cn : Nat} {se : Nat → Nat → Int32} {sg : Nat → Nat → Int64} {b nn : Nat → Int32} {wd ln pa : Nat} {ft : Int32}
theorem HrC.keepR (h : HrC D cs x e g e1 g1 nx cn se sg b nn wd ln pa ft H) (hk : ∀ y : Nat, x ≤ y → y < x + 360 → H1[y]? = H[y]?) : HrC D cs x e g e1 g1 nx cn se sg b nn wd ln pa ft H1 :=
  ⟨h.1.kept (hk _ (by omega) (by omega)), h.2.1.keep (fun y h1 h2 => hk y (by omega) (by omega)), h.2.2.1.keep (fun y h1 h2 => hk y (by omega) (by omega)), h.2.2.2.1.keep (fun y h1 h2 => hk y (by omega) (by omega)),
    h.2.2.2.2.1.kept (hk _ (by omega) (by omega)), h.2.2.2.2.2.1.kept (hk _ (by omega) (by omega)), h.2.2.2.2.2.2.kept (hk _ (by omega) (by omega))⟩
theorem kx_sld (hexec : p.tables.exec = Jvm.exec) (hb : c.code = cc) {bs N : Nat} {xs : Nat → Int32} (hX : va_X bs N xs s H0) (hbl : bs < H0.size) (hbA : ¬ A bs) (hS : va_S A H0 H locs) {j : Nat} (hj : j < N) (hN : N ≤ 3072) {v : Int32} (hv : v = xs j) (hdg : decode cc pc = .ok (.iaload, 1))
    (kk : W p l en R s m args below meth c H locs cells slots Q (F0 m (pc + 1) ls (.int v :: rest))) : W p l en R s m args below meth c H locs cells slots Q (F0 m pc ls (.int (nI j) :: .ref bs :: rest)) := by
  subst hv
  exact va_sld hexec hb hX hbl hbA hS (vp_in_nI hj (by omega)) hdg (by rw [nI_clamp (by omega)]; exact kk)
end LAW4
