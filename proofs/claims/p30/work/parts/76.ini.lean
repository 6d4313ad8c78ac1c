/-! the constructors -/
theorem at_congrQ {D : va_G} {cl : List vw_C} {a n : Nat} {cA : ClassId} {f g : Nat → Option Nat} {H : Heap} (h : va_at D cl (a, .inl (cA, n, .inr (.inr (.inr (.inr f))))) H) (hfg : ∀ j, j < n → f j = g j) : va_at D cl (a, .inl (cA, n, .inr (.inr (.inr (.inr g))))) H := by
  have e : vp_cell cA (n, .inr (.inr (.inr (.inr f)))) = vp_cell cA (n, .inr (.inr (.inr (.inr g)))) := by
    rw [vp_cell_q, vp_cell_q]
    unfold arrV
    congr 2
    exact funext fun j => congrArg va_rf (hfg j.val j.isLt)
  show H[a]? = some (vp_cell cA (n, .inr (.inr (.inr (.inr g)))))
  rw [← e]; exact h
set_option maxHeartbeats 2500000 in
set_option maxRecDepth 100000 in
theorem k_X4_init (l : Launch) (D : va_G) (cs : Nat → ClassId) (q : Nat) : Met l yX4_init wsX4_init ({ frames := 1, cells := 0, slots := 0, locals := 12 } : Room) (PcK D cs [.ref q] (fun _ => True)) (QcP none) 0 0 nowhere := by
  refine kx_met (cc := cX4_init) (maxL := 1) (ret := none) (by decide) rfl (Nat.le_of_ble_eq_true rfl) ?_
  intro p en s m args below meth c hx hb hml hrt hts hown hlk hK hN hP ls hl
  have hl : lv_has ls 1 [(0, .ref q)] := hl
  refine lv_aload_n hx hb dX4_init_0 rfl (lv_at hl 0 rfl) ?_
  refine W.objInit hx hb hown (hts (.methodLink RX4 3 objectInit) (by decide +kernel)) (hts (.instanceMethod objectInit) (by decide +kernel)) (hts (.code objectInit ⟨#[0xb1]⟩ 1 none) (by decide +kernel)) rfl (by rw [hml]; exact hl.1) rfl dX4_init_1 (Nat.le_of_ble_eq_true rfl) (Nat.le_of_ble_eq_true rfl) ?_
  refine W.eq (g2 := F0 m 4 ls []) rfl ?_
  exact kx_vretP hx hb hrt hlk dX4_init_4
def MvZ : List Value := [.int 0, .int 0, .int 0, .int 0, .int 0, .long 0, .long 0, .int 0, .int 0, .int 0, .int 0, .int 0, .null]
set_option maxHeartbeats 2500000 in
set_option maxRecDepth 100000 in
theorem k_X3_init (l : Launch) (D : va_G) (cs : Nat → ClassId) (q : Nat) : Met l yX3_init wsX3_init ({ frames := 1, cells := 1, slots := 16, locals := 12 } : Room) (PcA D cs [.ref q] (fun H => va_at D vwCl (q, .inr (2, MvZ)) H ∧ H.size = q + 1))
    (QcM none (fun H => va_at D vwCl (q, .inr (2, MvZ.set 12 (.ref (q + 1)))) H ∧ va_at D vwCl (q + 1, .inl (cs 0, 16, .inl (fun _ => 0))) H ∧ H.size = q + 2) (fun x => q ≤ x)) 1 16 (fun x => q ≤ x) := by
  refine kx_metA (cc := cX3_init) (maxL := 1) (ret := none) (by decide) rfl (Nat.le_of_ble_eq_true rfl) ?_
  intro p en s m args below meth c hx hb hml hrt hts hown hlk hK hN hX hin9 hP ls hl
  have hl : lv_has ls 1 [(0, .ref q)] := hl
  obtain ⟨H, hHe⟩ : ∃ H : Heap, H = s.heap := ⟨_, rfl⟩
  rw [← hHe] at hP ⊢
  have hS : va_S (fun x => q ≤ x) s.heap H [] := by rw [← hHe]; exact va_S.rf
  have hinX3 : ∀ w ∈ wsX30, w ∈ wsX3_init := by decide +kernel
  obtain ⟨hO, hz⟩ := hP
  refine lv_aload_n hx hb dX3_init_0 rfl (lv_at hl 0 rfl) ?_
  refine W.objInit hx hb hown (hts (.methodLink RX3 3 objectInit) (by decide +kernel)) (hts (.instanceMethod objectInit) (by decide +kernel)) (hts (.code objectInit ⟨#[0xb1]⟩ 1 none) (by decide +kernel)) rfl (by rw [hml]; exact hl.1) rfl dX3_init_1 (Nat.le_of_ble_eq_true rfl) (Nat.le_of_ble_eq_true rfl) ?_
  refine W.eq (g2 := F0 m 4 ls []) rfl ?_
  refine lv_aload_n hx hb dX3_init_4 rfl (lv_at hl 0 rfl) ?_
  refine lv_bipush (v := nI 16) hx hb dX3_init_5 rfl ?_
  refine kx_newi hx hb hts (by decide +kernel) hK hS hz 0 rfl (by decide) (Nat.le_of_ble_eq_true rfl) (Nat.le_of_ble_eq_true rfl) dX3_init_7 (fun H1 hT z1 o1 hS => ?_)
  have hO := hO.kept (o1 _ (by omega))
  refine kx_putF hx hb hts hinX3 tyX3_ok nmX3 hown hK hO rfl hS (Nat.le_refl q) 12 (by decide) (by decide +kernel) rfl hin9 rfl rfl rfl (by decide) dX3_init_9 (fun H2 locs hc hU hS => ?_)
  have hT := hT.kept (hU.2 _ (by omega))
  exact kx_vretN hx hb hrt hlk ⟨hc, hT, by rw [hU.1, z1]⟩ hS (Nat.le_of_ble_eq_true rfl) (Nat.le_of_ble_eq_true rfl) dX3_init_12
def fq (h : Nat → Nat) (r : Nat) : Nat → Option Nat := fun j => if j < r then some (h j) else none
theorem fq_up (h : Nat → Nat) (r : Nat) : va_up (fq h r) r (some (h r)) = fq h (r + 1) := by
  funext j
  unfold va_up fq
  by_cases e : j = r
  · rw [if_pos e, if_pos (by omega), e]
  · rw [if_neg e]
    by_cases e2 : j < r
    · rw [if_pos e2, if_pos (by omega)]
    · rw [if_neg e2, if_neg (by omega)]
theorem fq_0 (h : Nat → Nat) : fq h 0 = fun _ => none := funext fun j => if_neg (Nat.not_lt_zero j)
/-- the numbers of a new state -/
def e0F : Nat → Int32 := fun j => if j = 1 ∨ j = 2 then nI 2 else 0
def g0F : Nat → Int64 := fun _ => 0
theorem e0F_at {j : Nat} (h1 : j ≠ 1) (h2 : j ≠ 2) : e0F j = 0 := if_neg (fun q => q.elim h1 h2)
def StZ : List Value := [.null, .null, .null, .null, .int 0, .int 0, .int 0, .int 0, .int 0, .int 0, .int 0, .int 0]
def RgZ : List Value := [.int 0, .int 0, .int 0, .int 0]
theorem RgO_e0 (r : Nat) : RgO e0F r = RgZ := by
  unfold RgO RgZ
  rw [e0F_at (by omega) (by omega), e0F_at (by omega) (by omega), e0F_at (by omega) (by omega), e0F_at (by omega) (by omega)]
theorem MvO_e0 (q m : Nat) : MvO q e0F g0F m = MvZ.set 12 (.ref (q + 11 + 2 * m + 1)) := by
  unfold MvO MvZ g0F
  rw [e0F_at (by omega) (by omega), e0F_at (by omega) (by omega), e0F_at (by omega) (by omega), e0F_at (by omega) (by omega), e0F_at (by omega) (by omega), e0F_at (by omega) (by omega), e0F_at (by omega) (by omega), e0F_at (by omega) (by omega), e0F_at (by omega) (by omega), e0F_at (by omega) (by omega), show q + 12 + 2 * m = q + 11 + 2 * m + 1 by omega]
  rfl
