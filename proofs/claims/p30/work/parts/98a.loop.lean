/-! THE CLAIM OUT OF ONE WALK OF THE LAW'S BODY. Your part is whole_start (and what it stands on); all else here is the same for every law, but numbers. -/
def R_law : String := "HostageRingsLaw"
def lw_P (b : Addr) (xs : List Int32) (args : Array Value) (s : State) : Prop := args = #[.ref b] ∧ s.IntsAt b xs ∧ xs.length ≤ 260 ∧ (Jvm.Cond.and given_1 narrow_1).before args s = true
def lw_Q (_ : Array Value) (s : State) (o : Outcome) (t : State) : Prop := o = .returned (some (.int 1)) ∧ Framed s o t [] 600086 7301441
def lw_Z (below : List Frame) (a : Array Value) (s : State) : State → Prop := fun t => ∃ o, t.status = .running ∧ Ended t below o ∧ lw_Q a s o t
/-- the law's own end, with 1 on the stack, nothing written that was there before, its room as the claim has it -/
theorem lw_ret {p : Program} {l : Launch} {e : Env} {s : State} {m : MethodId} {below : List Frame} {meth : Method} {c : Code} {b : Nat} (hx : p.tables.exec = Jvm.exec) (hb : c.code = code) (hr : meth.sig.returnType = ret) (hlocks : meth.locks = false) {pc : Nat} {H : Heap} {ls : Array Slot} (hdg : decode code pc = .ok (.ireturn, 1)) : W p l e room_1 s m #[Value.ref b] below meth c H [] 600086 7301441 (lw_Z below #[Value.ref b] s) (F0 m pc ls [.int 1]) := by
  intro T hT X
  obtain ⟨fs, hret, hrun, hended, hW, hframe⟩ := X.leave (v := some (.int 1)) (hlocks := hlocks) (fun h => by rw [hr] at h; cases h)
  have hmeth' : T.vm.method? m = some meth := X.method'
  refine ⟨T.setFrames fs, ?_, .returned (some (.int 1)), hrun, hended, rfl, ⟨_, rfl⟩, hW, hframe⟩
  jvm_step X.here [X.here.top, hx, hb, hdg, hmeth', hr, ret, narrow_b1]
  (try refine ⟨rfl, ?_⟩); (try refine ⟨rfl, ?_⟩)
  first | (intro acts; rw [hret _ acts rfl rfl rfl]) | rw [hret _ _ rfl rfl rfl]
  exact Steps.refl _
/-- what holds at the law's entry: the machine, the code, the tables' words (any of lw_tbl by 'hts w (by decide +kernel)'), the script of L ints xs at the cell b, what the Statement gives of the start (any of its parts by flat_of_before) -/
def lw_At (p : Program) (s : State) (m : MethodId) (meth : Method) (c : Code) (b L : Nat) (xs : Nat → Int32) : Prop :=
  p.tables.exec = Jvm.exec ∧ c.code = code ∧ meth.sig.returnType = ret ∧ c.maxLocals = 16 ∧ s.vm.findClass R_law = some m.cls ∧ (∀ w ∈ lw_tbl, w.before #[Value.ref b] s = true) ∧ va_X b L xs s s.heap ∧ b < s.heap.size ∧ meth.locks = false ∧ (Jvm.Cond.and given_1 narrow_1).before #[Value.ref b] s = true
set_option maxHeartbeats 2500000 in
set_option maxRecDepth 100000 in
theorem law_loop {p : Program} {l : Launch} {en : Env} {s : State} {m : MethodId} {below : List Frame} {meth : Method} {c : Code} {D : va_G} {cs : Nat → ClassId} {x bs N : Nat} {xs : Nat → Int32} (G : LwG p l s m c D cs x bs N xs) (hr9 : meth.sig.returnType = ret) (hlocks : meth.locks = false) :
    ∀ (fu t T : Nat), 16 - t < fu → t ≤ 16 → T ≤ 4 * t → ∀ (H : Heap) (locs : List Loc) (cells slots : Nat) (ls : Array Slot), LwD D cs x T H → va_S (fun y9 : Nat => x ≤ y9) s.heap H locs → cells ≤ 400 + 10 * t → slots ≤ 6000 + 74 * t → lv_has ls 16 [(0, .ref (bs)), (1, .ref (x)), (2, .ref (x + 360)), (3, .ref (x + 360 + 1)), (4, .ref (x + 360 + 2)), (5, .ref (x + 360 + 3)), (6, .ref (x + 360 + 4)), (7, .ref (x + 360 + 5)), (8, .int (nI (t)))] → W p l en room_1 s m #[Value.ref bs] below meth c H locs cells slots (lw_Z below #[Value.ref bs] s) (F0 m 292 ls []) := by
  intro fu
  induction fu with
  | zero => intro t T h1; exact absurd h1 (Nat.not_lt_zero _)
  | succ fu ih =>
    intro t T h1 h2 hT9 H locs cells slots ls W0 hS hc9 hs9 hl
    obtain ⟨hx, hb, hml, hown, hts, hK, hN, hXK0, hXN, hXs, hbl, hxs, hN9, hfl⟩ := id G
    have hbA : ¬ x ≤ bs := by omega
    have hXs9 : va_X bs N xs s H := hXs.kept (hS.2.1 bs hbl hbA)
    have hbl9 : bs < H.size := Nat.lt_of_lt_of_le hbl hS.1
    have K : t < 16 → ∀ (H : Heap) (locs : List Loc) (c1 s1 : Nat) (ls : Array Slot) (T1 : Nat), T1 ≤ T + 4 → LwD D cs x T1 H → va_S (fun y9 : Nat => x ≤ y9) s.heap H locs → c1 ≤ cells + 1 → s1 ≤ slots + 6 → lv_has ls 16 [(0, .ref (bs)), (1, .ref (x)), (2, .ref (x + 360)), (3, .ref (x + 360 + 1)), (4, .ref (x + 360 + 2)), (5, .ref (x + 360 + 3)), (6, .ref (x + 360 + 4)), (7, .ref (x + 360 + 5)), (8, .int (nI (t)))] → W p l en room_1 s m #[Value.ref bs] below meth c H locs c1 s1 (lw_Z below #[Value.ref bs] s) (F0 m 769 ls []) := by
      intro ht H locs c1 s1 ls T1 hT1 W1 hS hc1 hs1 hl
      exact cs_same G (by omega) (by omega) W1 hS hl (fun H locs c2 s2 ls W2 hS hc2 hs2 hl => ih (t + 1) T1 (by omega) (by omega) (by omega) H locs c2 s2 ls W2 hS (by omega) (by omega) hl)
    refine lv_iload hx hb dL_law_292 (lv_at hl 8 rfl) ?_
    refine lv_bipush (v := nI 16) hx hb dL_law_294 (by decide) ?_
    refine kn_icmp_ge (tgt := 794) hx hb dL_law_296 (by decide) (by omega) (by decide) (fun c296 => ?_) (fun c296 => ?_)
    · refine lv_iconst (v := 1) hx hb dL_law_794 (by decide) ?_
      refine va_forget (fun q hq => by have h8 : x ≤ q.base := hS.2.2 q hq; omega) ?_
      refine W.widen (k := 600086) (n := 7301441) (by omega) (by omega) ?_
      exact lw_ret hx hb hr9 hlocks dL_law_795
    · refine lv_aload_n hx hb dL_law_299 rfl (lv_at hl 0 rfl) ?_
      refine lv_iconst (v := nI 4) hx hb dL_law_300 (by decide) ?_
      refine lv_iload hx hb dL_law_301 (lv_at hl 8 rfl) ?_
      refine kn_add hx hb dL_law_303 ?_
      refine kx_retP (va_runS (As := [.ref (bs), .int (nI (4 + t))]) (rest := []) ⟨hx, hb, hml, hown, hts⟩ (k_L_cell l D cs bs N xs (4 + t) (by omega) hN9) (cwS 2 hts gL_law_L_cell rfl rfl rfl (by decide +kernel) ⟨Nat.le_of_ble_eq_true rfl, Nat.le_of_ble_eq_true rfl⟩) (kx_preSC hK hN hXs9 hbl9) rfl rfl hl.1 rfl (lv_room (Nat.le_of_ble_eq_true rfl)) dL_law_304 ⟨by show cells + 0 ≤ 600086; omega, by show slots + 0 ≤ 7301441; omega⟩) ?_
      refine lv_istore (lv' := [(9, .int (cvI xs N (4 + t))), (0, .ref (bs)), (1, .ref (x)), (2, .ref (x + 360)), (3, .ref (x + 360 + 1)), (4, .ref (x + 360 + 2)), (5, .ref (x + 360 + 3)), (6, .ref (x + 360 + 4)), (7, .ref (x + 360 + 5)), (8, .int (nI (t)))]) hx hb dL_law_307 hl (by decide) rfl (fun ls hl => ?_)
      refine lv_iload hx hb dL_law_309 (lv_at hl 0 rfl) ?_
      refine lv_bipush (v := nI 8) hx hb dL_law_311 (by decide) ?_
      refine kx_retP (va_runS (As := [.int (cvI xs N (4 + t)), .int (nI (8))]) (rest := []) ⟨hx, hb, hml, hown, hts⟩ (k_L_low l D cs (cvI xs N (4 + t)) 8 (by decide) (by decide)) (cwS 2 hts gL_law_L_low rfl rfl rfl (by decide +kernel) ⟨Nat.le_of_ble_eq_true rfl, Nat.le_of_ble_eq_true rfl⟩) (kx_preS hK hN trivial) rfl rfl hl.1 rfl (lv_room (Nat.le_of_ble_eq_true rfl)) dL_law_313 ⟨by show cells + 0 ≤ 600086; omega, by show slots + 0 ≤ 7301441; omega⟩) ?_
      refine lv_istore (lv' := [(10, .int (nI (lowN (cvI xs N (4 + t)) 8))), (9, .int (cvI xs N (4 + t))), (0, .ref (bs)), (1, .ref (x)), (2, .ref (x + 360)), (3, .ref (x + 360 + 1)), (4, .ref (x + 360 + 2)), (5, .ref (x + 360 + 3)), (6, .ref (x + 360 + 4)), (7, .ref (x + 360 + 5)), (8, .int (nI (t)))]) hx hb dL_law_316 hl (by decide) rfl (fun ls hl => ?_)
      refine lv_iload hx hb dL_law_318 (lv_at hl 1 rfl) ?_
      refine lv_iconst (v := nI 3) hx hb dL_law_320 (by decide) ?_
      refine lv_ishr hx hb dL_law_321 ?_
      refine lv_istore (lv' := [(11, .int ((cvI xs N (4 + t)) >>> ((nI (3)) &&& 31))), (10, .int (nI (lowN (cvI xs N (4 + t)) 8))), (9, .int (cvI xs N (4 + t))), (0, .ref (bs)), (1, .ref (x)), (2, .ref (x + 360)), (3, .ref (x + 360 + 1)), (4, .ref (x + 360 + 2)), (5, .ref (x + 360 + 3)), (6, .ref (x + 360 + 4)), (7, .ref (x + 360 + 5)), (8, .int (nI (t)))]) hx hb dL_law_322 hl (by decide) rfl (fun ls hl => ?_)
      refine lv_iload hx hb dL_law_324 (lv_at hl 0 rfl) ?_
      refine lv_iconst (v := nI 3) hx hb dL_law_326 (by decide) ?_
      refine kx_retP (va_runS (As := [.int ((cvI xs N (4 + t)) >>> ((nI (3)) &&& 31)), .int (nI (3))]) (rest := []) ⟨hx, hb, hml, hown, hts⟩ (k_L_low l D cs ((cvI xs N (4 + t)) >>> ((nI (3)) &&& 31)) 3 (by decide) (by decide)) (cwS 2 hts gL_law_L_low rfl rfl rfl (by decide +kernel) ⟨Nat.le_of_ble_eq_true rfl, Nat.le_of_ble_eq_true rfl⟩) (kx_preS hK hN trivial) rfl rfl hl.1 rfl (lv_room (Nat.le_of_ble_eq_true rfl)) dL_law_327 ⟨by show cells + 0 ≤ 600086; omega, by show slots + 0 ≤ 7301441; omega⟩) ?_
      have hrr : lowN ((cvI xs N (4 + t)) >>> ((nI (3)) &&& 31)) 3 < 3 := lowN_lt _ (by decide)
      refine lv_istore (lv' := [(12, .int (nI (lowN ((cvI xs N (4 + t)) >>> ((nI (3)) &&& 31)) 3))), (11, .int ((cvI xs N (4 + t)) >>> ((nI (3)) &&& 31))), (10, .int (nI (lowN (cvI xs N (4 + t)) 8))), (9, .int (cvI xs N (4 + t))), (0, .ref (bs)), (1, .ref (x)), (2, .ref (x + 360)), (3, .ref (x + 360 + 1)), (4, .ref (x + 360 + 2)), (5, .ref (x + 360 + 3)), (6, .ref (x + 360 + 4)), (7, .ref (x + 360 + 5)), (8, .int (nI (t)))]) hx hb dL_law_330 hl (by decide) rfl (fun ls hl => ?_)
      refine lv_iload hx hb dL_law_332 (lv_at hl 2 rfl) ?_
      refine lv_iconst (v := nI 3) hx hb dL_law_334 (by decide) ?_
      refine kn_icmp_ge (tgt := 356) hx hb dL_law_335 (by decide) (Nat.lt_trans (lowN_lt _ (by decide)) (by decide)) (by decide) (fun c_1 => ?_) (fun c_1 => ?_)
      · refine lv_iload hx hb dL_law_356 (lv_at hl 2 rfl) ?_
        refine lv_iconst (v := nI 5) hx hb dL_law_358 (by decide) ?_
        refine kn_icmp_ge (tgt := 425) hx hb dL_law_359 (by decide) (Nat.lt_trans (lowN_lt _ (by decide)) (by decide)) (by decide) (fun c_2 => ?_) (fun c_2 => ?_)
        · refine lv_iload hx hb dL_law_425 (lv_at hl 2 rfl) ?_
          refine lv_iconst (v := nI 5) hx hb dL_law_427 (by decide) ?_
          refine kn_icmp_ne (tgt := 535) hx hb dL_law_428 (by decide) (Nat.lt_trans (lowN_lt _ (by decide)) (by decide)) (by decide) (fun c_3 => ?_) (fun c_3 => ?_)
          · refine lv_iload hx hb dL_law_535 (lv_at hl 2 rfl) ?_
            refine lv_bipush (v := nI 6) hx hb dL_law_537 (by decide) ?_
            refine kn_icmp_ne (tgt := 685) hx hb dL_law_539 (by decide) (Nat.lt_trans (lowN_lt _ (by decide)) (by decide)) (by decide) (fun c_4 => ?_) (fun c_4 => ?_)
            · exact cs_write G (T := T) (t := t) (by omega) (by omega) (by omega) W0 hS (lowN (cvI xs N (4 + t)) 8) (lowN ((cvI xs N (4 + t)) >>> ((nI (3)) &&& 31)) 3) (cvI xs N (4 + t)) ((cvI xs N (4 + t)) >>> ((nI (3)) &&& 31)) hrr (lv_sub hl [4, 5, 6, 7, 8, 9, 10, 11, 12, 3, 2, 1, 0] rfl) (K (by omega))
            · exact cs_strike G (T := T) (t := t) (by omega) (by omega) (by omega) W0 hS (lowN (cvI xs N (4 + t)) 8) (lowN ((cvI xs N (4 + t)) >>> ((nI (3)) &&& 31)) 3) (cvI xs N (4 + t)) ((cvI xs N (4 + t)) >>> ((nI (3)) &&& 31)) hrr (lv_sub hl [4, 5, 6, 7, 8, 9, 10, 11, 12, 3, 2, 1, 0] rfl) (K (by omega))
          · exact cs_sign G (T := T) (t := t) (by omega) (by omega) (by omega) W0 hS (lowN (cvI xs N (4 + t)) 8) (lowN ((cvI xs N (4 + t)) >>> ((nI (3)) &&& 31)) 3) (cvI xs N (4 + t)) ((cvI xs N (4 + t)) >>> ((nI (3)) &&& 31)) hrr (lv_sub hl [4, 5, 6, 7, 8, 9, 10, 11, 12, 3, 2, 1, 0] rfl) (K (by omega))
        · exact cs_pass G (T := T) (t := t) (by omega) (by omega) (by omega) W0 hS (lowN (cvI xs N (4 + t)) 8) (lowN ((cvI xs N (4 + t)) >>> ((nI (3)) &&& 31)) 3) (cvI xs N (4 + t)) ((cvI xs N (4 + t)) >>> ((nI (3)) &&& 31)) hrr (lv_sub hl [4, 5, 6, 7, 8, 9, 10, 11, 12, 3, 2, 1, 0] rfl) (K (by omega))
      · exact cs_told G (T := T) (t := t) (by omega) (by omega) (by omega) W0 hS (lowN (cvI xs N (4 + t)) 8) (lowN ((cvI xs N (4 + t)) >>> ((nI (3)) &&& 31)) 3) (cvI xs N (4 + t)) ((cvI xs N (4 + t)) >>> ((nI (3)) &&& 31)) hrr (lv_sub hl [4, 5, 6, 7, 8, 9, 10, 11, 12, 3, 2, 1, 0] rfl) (K (by omega))
