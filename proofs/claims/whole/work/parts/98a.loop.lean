/-! THE CLAIM OUT OF ONE WALK OF THE LAW'S BODY. Your part is whole_start (and what it stands on); all else here is the same for every law, but numbers. -/
def R_law : String := "HostageRingsLaw"
def lw_P (b : Addr) (xs : List Int32) (args : Array Value) (s : State) : Prop := args = #[.ref b] ∧ s.IntsAt b xs ∧ xs.length ≤ 3072 ∧ (Jvm.Cond.and given_1 narrow_1).before args s = true
def lw_Q (_ : Array Value) (s : State) (o : Outcome) (t : State) : Prop := o = .returned (some (.int 1)) ∧ Framed s o t [] 601024 7293034
def lw_Z (below : List Frame) (a : Array Value) (s : State) : State → Prop := fun t => ∃ o, t.status = .running ∧ Ended t below o ∧ lw_Q a s o t
/-- the law's own end, with 1 on the stack, nothing written that was there before, its room as the claim has it -/
theorem lw_ret {p : Program} {l : Launch} {e : Env} {s : State} {m : MethodId} {below : List Frame} {meth : Method} {c : Code} {b : Nat} (hx : p.tables.exec = Jvm.exec) (hb : c.code = code) (hr : meth.sig.returnType = ret) (hlocks : meth.locks = false) {pc : Nat} {H : Heap} {ls : Array Slot} (hdg : decode code pc = .ok (.ireturn, 1)) : W p l e room_1 s m #[Value.ref b] below meth c H [] 601024 7293034 (lw_Z below #[Value.ref b] s) (F0 m pc ls [.int 1]) := by
  intro T hT X
  obtain ⟨fs, hret, hrun, hended, hW, hframe⟩ := X.leave (v := some (.int 1)) (hlocks := hlocks) (fun h => by rw [hr] at h; cases h)
  have hmeth' : T.vm.method? m = some meth := X.method'
  refine ⟨T.setFrames fs, ?_, .returned (some (.int 1)), hrun, hended, rfl, ⟨_, rfl⟩, hW, hframe⟩
  jvm_step X.here [X.here.top, hx, hb, hdg, hmeth', hr, ret, narrow_b1]
  (try refine ⟨rfl, ?_⟩); (try refine ⟨rfl, ?_⟩)
  first | (intro acts; rw [hret _ acts rfl rfl rfl]) | rw [hret _ _ rfl rfl rfl]
  exact Steps.refl _
/-- what holds at the law's entry: the machine, the code, the tables' words (any of lw_tbl by 'hts w (by decide +kernel)'), the script of L ints xs at the cell b, what the Statement gives of the start (any of its parts by flat_of_before) -/
def lw_At (p : Program) (s : State) (m : MethodId) (meth : Method) (c : Code) (b L : Nat) (xs : Nat → Int32) : Prop :=
  p.tables.exec = Jvm.exec ∧ c.code = code ∧ meth.sig.returnType = ret ∧ c.maxLocals = 8 ∧ s.vm.findClass R_law = some m.cls ∧ (∀ w ∈ lw_tbl, w.before #[Value.ref b] s = true) ∧ va_X b L xs s s.heap ∧ b < s.heap.size ∧ meth.locks = false ∧ (Jvm.Cond.and given_1 narrow_1).before #[Value.ref b] s = true
theorem and31 (v : Int32) : ∃ k, k < 32 ∧ v &&& nI 31 = nI k := by
  refine ⟨(v.toBitVec &&& (nI 31).toBitVec).toNat, ?_, ?_⟩
  · rw [BitVec.toNat_and, show (nI 31).toBitVec.toNat = 31 by decide]
    exact Nat.lt_succ_of_le Nat.and_le_right
  · apply Int32.toBitVec_inj.mp
    show v.toBitVec &&& (nI 31).toBitVec = BitVec.ofNat 32 (v.toBitVec &&& (nI 31).toBitVec).toNat
    rw [BitVec.ofNat_toNat, BitVec.setWidth_eq]
theorem lp_gt {N i : Nat} (hN : N ≤ 3072) (hi : i ≤ 4000) : nI N - nI 6 < nI i ↔ N < i + 6 := by
  rw [Int32.lt_iff_toInt_lt, pk_sub_toInt (by omega) (by omega), nI_toInt (by omega)]
  omega
set_option maxHeartbeats 2500000 in
set_option maxRecDepth 100000 in
theorem law_loop {p : Program} {l : Launch} {en : Env} {s : State} {m : MethodId} {below : List Frame} {meth : Method} {c : Code} {D : va_G} {cs : Nat → ClassId} {L : Nat} {aW aS aV : Nat → Nat} {tW tM bs N : Nat} {xs : Nat → Int32} (G : LwG p l s m c D cs L aW aS aV tW tM bs N xs) (hr9 : meth.sig.returnType = ret) (hlocks : meth.locks = false) :
    ∀ (fu t : Nat), N < 6 * t + fu → 6 * t ≤ N → ∀ (H : Heap) (locs : List Loc) (cells slots : Nat) (ls : Array Slot), LwD D cs L aW H → va_S (fun q : Nat => L ≤ q) s.heap H locs → cells ≤ 368 + t → slots ≤ 9591 + 6 * t → lv_has ls 8 [(4, .int (nI (6 * t))), (0, .ref bs), (1, .ref L), (2, .ref (L + 360)), (3, .ref (L + 367))] → W p l en room_1 s m #[Value.ref bs] below meth c H locs cells slots (lw_Z below #[Value.ref bs] s) (F0 m 23 ls []) := by
  intro fu
  induction fu with
  | zero => intro t h1 h2; exact absurd h1 (by omega)
  | succ fu ih =>
    intro t h1 h2 H locs cells slots ls hW hS hc9 hs9 hl
    obtain ⟨hx, hb, hml, hown, hts, hK, hN, hKW0, hXK0, hXN, hXs, hbl, hLs, hN9, hfl⟩ := id G
    have hbA : ¬ (fun q : Nat => L ≤ q) bs := by show ¬ L ≤ bs; omega
    refine lv_iload hx hb dL_law_23 (lv_at hl 0 rfl) ?_
    refine lv_aload_n hx hb dL_law_25 rfl (lv_at hl 1 rfl) ?_
    refine va_slen hx hb hXs hbl hbA hS dL_law_26 ?_
    refine kx_ci (y := nI N) rfl ?_
    refine lv_bipush (v := nI 6) hx hb dL_law_27 (by decide) ?_
    refine lv_isub hx hb dL_law_29 ?_
    refine lv_icmp_gt (tgt := 1613) hx hb dL_law_30 (by decide) (fun h9 => ?_) (fun h9 => ?_)
    · refine lv_iconst (v := 1) hx hb dL_law_1613 (by decide) ?_
      refine va_forget (fun q hq => by have h8 : L ≤ q.base := hS.2.2 q hq; omega) ?_
      refine W.widen (k := 601024) (n := 7293034) (by omega) (by omega) ?_
      exact lw_ret hx hb hr9 hlocks dL_law_1614
    · have hi : 6 * t + 6 ≤ N := Nat.not_lt.mp (fun q => h9 ((lp_gt hN9 (by omega)).mpr q))
      refine lv_aload_n hx hb dL_law_33 rfl (lv_at hl 1 rfl) ?_
      refine lv_iload hx hb dL_law_34 (lv_at hl 0 rfl) ?_
      refine kx_sld hx hb hXs hbl hbA hS (j := 6 * t) (by omega) hN9 rfl dL_law_36 ?_
      refine lv_bipush (v := nI 31) hx hb dL_law_37 (by decide) ?_
      refine lv_iand hx hb dL_law_39 ?_
      obtain ⟨k, hk, ek⟩ := and31 (xs (6 * t))
      refine kx_ci (y := nI k) ek ?_
      have hr : cells + 1 ≤ 601024 ∧ slots + 6 ≤ 7293034 := ⟨by omega, by omega⟩
      have K : ∀ (H : Heap) (locs : List Loc) (c1 s1 : Nat) (ls : Array Slot), LwD D cs L aW H → va_S (fun q : Nat => L ≤ q) s.heap H locs → c1 ≤ cells + 1 → s1 ≤ slots + 6 → lv_has ls 8 [(4, .int (nI (6 * t))), (0, .ref bs), (1, .ref L), (2, .ref (L + 360)), (3, .ref (L + 367))] → W p l en room_1 s m #[Value.ref bs] below meth c H locs c1 s1 (lw_Z below #[Value.ref bs] s) (F0 m 1607 ls []) := by
        intro H locs c1 s1 ls hW hS hc1 hs1 hl
        refine lv_iinc (v := nI (6 * t + 6)) (lv' := [(4, .int (nI (6 * t + 6))), (0, .ref bs), (1, .ref L), (2, .ref (L + 360)), (3, .ref (L + 367))]) (k := 0) hx hb dL_law_1607 hl rfl (nI_add _ _) (by decide) rfl (fun ls hl => ?_)
        refine lv_goto (tgt := 23) hx hb dL_law_1610 (by decide) ?_
        exact ih (t + 1) (by omega) (by omega) H locs c1 s1 ls hW hS (by omega) (by omega) hl
      rcases (show k = 0 ∨ k = 1 ∨ k = 2 ∨ k = 3 ∨ k = 4 ∨ k = 5 ∨ k = 6 ∨ k = 7 ∨ k = 8 ∨ k = 9 ∨ k = 10 ∨ k = 11 ∨ k = 12 ∨ k = 13 ∨ k = 14 ∨ k = 15 ∨ k = 16 ∨ k = 17 ∨ k = 18 ∨ k = 19 ∨ k = 20 ∨ k = 21 ∨ k = 22 ∨ k = 23 ∨ k = 24 ∨ k = 25 ∨ k = 26 ∨ 27 ≤ k by omega) with rfl | rfl | rfl | rfl | rfl | rfl | rfl | rfl | rfl | rfl | rfl | rfl | rfl | rfl | rfl | rfl | rfl | rfl | rfl | rfl | rfl | rfl | rfl | rfl | rfl | rfl | rfl | hk27
      · refine lv_tableIn (off := 124) (tgt := 164) hx hb dL_law_40 (by decide) (by decide) (by rfl) (by decide) ?_
        exact cs_addRing G hi hr hW hS hl K
      · refine lv_tableIn (off := 204) (tgt := 244) hx hb dL_law_40 (by decide) (by decide) (by rfl) (by decide) ?_
        exact cs_setPatience G hi hr hW hS hl K
      · refine lv_tableIn (off := 272) (tgt := 312) hx hb dL_law_40 (by decide) (by decide) (by rfl) (by decide) ?_
        exact cs_set G hi hr hW hS hl K
      · refine lv_tableIn (off := 340) (tgt := 380) hx hb dL_law_40 (by decide) (by decide) (by rfl) (by decide) ?_
        exact cs_write G hi hr hW hS hl K
      · refine lv_tableIn (off := 408) (tgt := 448) hx hb dL_law_40 (by decide) (by decide) (by rfl) (by decide) ?_
        exact cs_move G hi hr hW hS hl K
      · refine lv_tableIn (off := 512) (tgt := 552) hx hb dL_law_40 (by decide) (by decide) (by rfl) (by decide) ?_
        exact cs_sign G hi hr hW hS hl K
      · refine lv_tableIn (off := 568) (tgt := 608) hx hb dL_law_40 (by decide) (by decide) (by rfl) (by decide) ?_
        exact cs_strike G hi hr hW hS hl K
      · refine lv_tableIn (off := 652) (tgt := 692) hx hb dL_law_40 (by decide) (by decide) (by rfl) (by decide) ?_
        exact cs_pass G hi hr hW hS hl K
      · refine lv_tableIn (off := 708) (tgt := 748) hx hb dL_law_40 (by decide) (by decide) (by rfl) (by decide) ?_
        exact cs_sweep G hi hr hW hS hl K
      · refine lv_tableIn (off := 721) (tgt := 761) hx hb dL_law_40 (by decide) (by decide) (by rfl) (by decide) ?_
        exact cs_cell G hi hr hW hS hl K
      · refine lv_tableIn (off := 777) (tgt := 817) hx hb dL_law_40 (by decide) (by decide) (by rfl) (by decide) ?_
        exact cs_ring G hi hr hW hS hl K
      · refine lv_tableIn (off := 845) (tgt := 885) hx hb dL_law_40 (by decide) (by decide) (by rfl) (by decide) ?_
        exact cs_moveOf G hi hr hW hS hl K
      · refine lv_tableIn (off := 913) (tgt := 953) hx hb dL_law_40 (by decide) (by decide) (by rfl) (by decide) ?_
        exact cs_hostage G hi hr hW hS hl K
      · refine lv_tableIn (off := 981) (tgt := 1021) hx hb dL_law_40 (by decide) (by decide) (by rfl) (by decide) ?_
        exact cs_cellSet G hi hr hW hS hl K
      · refine lv_tableIn (off := 1064) (tgt := 1104) hx hb dL_law_40 (by decide) (by decide) (by rfl) (by decide) ?_
        exact cs_held G hi hr hW hS hl K
      · refine lv_tableIn (off := 1078) (tgt := 1118) hx hb dL_law_40 (by decide) (by decide) (by rfl) (by decide) ?_
        exact cs_whole G hi hr hW hS hl K
      · refine lv_tableIn (off := 1134) (tgt := 1174) hx hb dL_law_40 (by decide) (by decide) (by rfl) (by decide) ?_
        exact cs_reason G hi hr hW hS hl K
      · refine lv_tableIn (off := 1190) (tgt := 1230) hx hb dL_law_40 (by decide) (by decide) (by rfl) (by decide) ?_
        exact cs_waitsFor G hi hr hW hS hl K
      · refine lv_tableIn (off := 1246) (tgt := 1286) hx hb dL_law_40 (by decide) (by decide) (by rfl) (by decide) ?_
        exact cs_depth G hi hr hW hS hl K
      · refine lv_tableIn (off := 1302) (tgt := 1342) hx hb dL_law_40 (by decide) (by decide) (by rfl) (by decide) ?_
        exact cs_finalValue G hi hr hW hS hl K
      · refine lv_tableIn (off := 1358) (tgt := 1398) hx hb dL_law_40 (by decide) (by decide) (by rfl) (by decide) ?_
        exact cs_copiedIn G hi hr hW hS hl K
      · refine lv_tableIn (off := 1414) (tgt := 1454) hx hb dL_law_40 (by decide) (by decide) (by rfl) (by decide) ?_
        exact cs_stuck G hi hr hW hS hl K
      · refine lv_tableIn (off := 1427) (tgt := 1467) hx hb dL_law_40 (by decide) (by decide) (by rfl) (by decide) ?_
        exact cs_type G hi hr hW hS hl K
      · refine lv_tableIn (off := 1483) (tgt := 1523) hx hb dL_law_40 (by decide) (by decide) (by rfl) (by decide) ?_
        exact cs_clearCommands G hi hr hW hS hl K
      · refine lv_tableIn (off := 1496) (tgt := 1536) hx hb dL_law_40 (by decide) (by decide) (by rfl) (by decide) ?_
        exact cs_runCommands G hi hr hW hS hl K
      · refine lv_tableIn (off := 1509) (tgt := 1549) hx hb dL_law_40 (by decide) (by decide) (by rfl) (by decide) ?_
        exact cs_undo G hi hr hW hS hl K
      · refine lv_tableIn (off := 1553) (tgt := 1593) hx hb dL_law_40 (by decide) (by decide) (by rfl) (by decide) ?_
        exact cs_digest G hi hr hW hS hl K
      · refine lv_tableOut (tgt := 1607) hx hb dL_law_40 (Or.inr (by rw [nI_toInt (by omega)]; omega)) (by decide) ?_
        exact K H locs cells slots ls hW hS (by omega) (by omega) hl
