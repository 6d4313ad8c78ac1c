/-! the three rings of the law, in plain words -/
theorem e0F_inv : Inv e0F := by
  have hR : Rn e0F = 0 := by decide
  have hM : Mn e0F = 0 := by decide
  have hS : Sp e0F = 2 := by decide
  refine ⟨⟨by rw [hR]; rfl, by omega⟩, ⟨by rw [hM]; rfl, by omega⟩, ⟨by rw [hS]; rfl, by omega, by omega⟩, fun r hr => absurd hr (by omega), fun m hm => absurd hm (by omega)⟩
def zr : Nat → Int32 := fun _ => 0
/-- r rings stand, with their cells written -/
def RB (r : Nat) (e : Nat → Int32) : Prop := Inv e ∧ Rn e = r ∧ Mn e = 0 ∧ e 0 = nI 0 ∧ (∀ i, i < r → 16 * i ≤ rF e i ∧ rF e i + rL e i ≤ 16 * i + 12 ∧ rL e i ≤ 8) ∧ (∀ j, 56 + 4 * r ≤ j → j < 80 → e j = nI 0) ∧ (∀ m, m < 8 → e (80 + 10 * m + 8) = nI 0) ∧ ∀ c, 16 * r ≤ c → c < 48 → e (8 + c) = nI 0
/-- the ring r stands too, k of its cells are written -/
def RC (r o q k : Nat) (e : Nat → Int32) : Prop := Inv e ∧ Rn e = r + 1 ∧ Mn e = 0 ∧ e 0 = nI 0 ∧ (∀ i, i < r → 16 * i ≤ rF e i ∧ rF e i + rL e i ≤ 16 * i + 12 ∧ rL e i ≤ 8) ∧ (e (56 + 4 * r + 0) = nI (16 * r + o) ∧ e (56 + 4 * r + 1) = nI (2 + q)) ∧ (∀ j, 56 + 4 * (r + 1) ≤ j → j < 80 → e j = nI 0) ∧ (∀ m, m < 8 → e (80 + 10 * m + 8) = nI 0) ∧ ∀ c, 16 * r + o + k ≤ c → c < 48 → e (8 + c) = nI 0
section RGP
variable {e : Nat → Int32} {r o q p k : Nat}
theorem rb_w (h : RB r e) (hr : r < 3) (ho : o < 5) (hq : q < 7) (hp : p < 4) : wrg e (nI (16 * r + o)) (nI (2 + q)) (nI p) = 0 := by
  obtain ⟨hI, hR, hM, h0, hi, -⟩ := h
  have ha : anyN (Rn e) (ovB e (nI (16 * r + o)) (nI (2 + q))) = false := anyN_false (fun i hi9 => by
    have h9 := hi i (by omega)
    unfold ovB
    rw [decide_eq_true (nI_le (show rF e i + rL e i ≤ 16 * r + o by omega) (by omega))]; rfl)
  rw [wrg_any (by omega), wi_n (by omega) (by omega) (by decide), if_neg (by decide), wi_n (by omega) (by omega) (by decide), wi_n (by omega) (by omega) (by decide), nI_add, if_neg (fun h => by
    rcases h with h | h | h
    · exact absurd h (by decide)
    · exact absurd h (by decide)
    · exact h (nI_le (by omega) (by decide))), ha, if_neg (fun h => by
    rcases h with h | h
    · omega
    · exact absurd h (by decide))]
theorem rb_rc (h : RB r e) (hr : r < 3) (ho : o < 5) (hq : q < 7) (hp : p < 4) : RC r o q 0 (prF e (nI (16 * r + o)) (nI (2 + q)) (nI p)) := by
  have hw := rb_w h hr ho hq hp
  obtain ⟨hI, hR, hM, h0, hi, hj, h8, hc⟩ := h
  have out {j : Nat} (h3 : j ≠ 3) (h4 : j < 56 + 4 * r ∨ 56 + 4 * r + 4 ≤ j) : prF e (nI (16 * r + o)) (nI (2 + q)) (nI p) j = e j := pr_out e _ _ _ h3 (by omega)
  refine ⟨pr_inv hI hw, (pr_R e _ _ _ (by omega)).trans (by rw [hR]), (pr_M e _ _ _).trans hM, (out (by omega) (by omega)).trans h0, fun i hi9 => ?_, ⟨?_, ?_⟩, fun j a b => (out (by omega) (by omega)).trans (hj j (by omega) b), fun m hm => (out (by omega) (by omega)).trans (h8 m hm), fun c a b => (out (by omega) (by omega)).trans (hc c (by omega) b)⟩
  · rw [show rF (prF e (nI (16 * r + o)) (nI (2 + q)) (nI p)) i = rF e i from acc_eq _ (out (by omega) (by omega)), show rL (prF e (nI (16 * r + o)) (nI (2 + q)) (nI p)) i = rL e i from acc_eq _ (out (by omega) (by omega))]
    exact hi i hi9
  · subst hR; rw [pr_at]; repeat (first | rw [if_pos rfl] | rw [if_neg (by omega)])
  · subst hR; rw [pr_at]; repeat (first | rw [if_pos rfl] | rw [if_neg (by omega)])
theorem ring_tr (h : RB r e) (hr : r < 3) (f ln pt : Int32) : Tr (upd (upd (upd e (56 + (4 * r)) f) (56 + (4 * r + 1)) ln) (56 + (4 * r + 2)) pt) (prF e f ln pt) := by
  obtain ⟨hI, hR, hM, h0, hi, hj, -⟩ := h
  have key {j : Nat} (h3 : j ≠ 3) : prF e f ln pt j = upd (upd (upd e (56 + (4 * r)) f) (56 + (4 * r + 1)) ln) (56 + (4 * r + 2)) pt j := by
    rw [pr_at, hR, if_neg h3]
    simp only [upd_at]
    repeat' split
    all_goals first | rfl | (exfalso; omega) | exact (hj j (by omega) (by omega)).symm
  exact ⟨⟨key (by omega), key (by omega), key (by omega), key (by omega)⟩, fun j hj => key (by omega), fun m p hm hp h7 => key (by omega), fun m i hm hi => key (by omega)⟩
theorem RC.I (h : RC r o q k e) : Inv e := h.1
theorem RC.f0 (h : RC r o q k e) : e (56 + 4 * r + 0) = nI (16 * r + o) := h.2.2.2.2.2.1.1
theorem RC.f1 (h : RC r o q k e) : e (56 + 4 * r + 1) = nI (2 + q) := h.2.2.2.2.2.1.2
theorem RC.z (h : RC r o q k e) {c : Nat} (h1 : 16 * r + o + k ≤ c) (h2 : c < 48) : e (8 + c) = nI 0 := h.2.2.2.2.2.2.2.2 c h1 h2
theorem RC.w (h : RC r o q k e) (hr : r < 3) (ho : o < 5) (hq : q < 7) (hk : k < 2 + q) : wwr e (nI (16 * r + o + k)) (nI (100 * r + k + 1)) = 0 := by
  have hM := h.2.2.1
  have hrs : rsC e (16 * r + o + k) = 0 := by unfold rsC; rw [hM]; show 4 % 4 = 0; decide
  have hv : wiB (nI (100 * r + k + 1)) (-999) (nI 999) = true := wi_iff.mpr ⟨by rw [Int32.le_iff_toInt_le, nI_toInt (by omega), show (-999 : Int32).toInt = -999 by decide]; omega, nI_le (by omega) (by decide)⟩
  unfold wwr
  rw [wi_n (by omega) (by omega) (by decide), if_neg (by decide), hv, if_neg (by decide), nn_nI (by omega), hrs, if_neg (by omega)]
theorem RC.s (h : RC r o q k e) (hr : r < 3) (ho : o < 5) (hq : q < 7) (hk : k < 2 + q) (v : Int32) : RC r o q (k + 1) (upd e (8 + (16 * r + o + k)) v) := by
  obtain ⟨hI, hR, hM, h0, hi, ⟨f0, f1⟩, hj, h8, hc⟩ := h
  have out {j : Nat} (h : j < 8 ∨ 56 ≤ j) : upd e (8 + (16 * r + o + k)) v j = e j := upd_ne (by omega)
  refine ⟨lo_inv hI (by omega) (by omega) (by omega) (by omega) v, (acc_eq 3 (out (by omega))).trans hR, (acc_eq 4 (out (by omega))).trans hM, (out (by omega)).trans h0, fun i hi9 => ?_, ⟨(out (by omega)).trans f0, (out (by omega)).trans f1⟩, fun j a b => (out (by omega)).trans (hj j a b), fun m hm => (out (by omega)).trans (h8 m hm), fun c a b => (upd_ne (by omega)).trans (hc c (by omega) b)⟩
  rw [show rF (upd e (8 + (16 * r + o + k)) v) i = rF e i from acc_eq _ (out (by omega)), show rL (upd e (8 + (16 * r + o + k)) v) i = rL e i from acc_eq _ (out (by omega))]
  exact hi i hi9
theorem RC.rb (h : RC r o q (2 + q) e) (hr : r < 3) (ho : o < 5) (hq : q < 7) : RB (r + 1) e := by
  obtain ⟨hI, hR, hM, h0, hi, ⟨f0, f1⟩, hj, h8, hc⟩ := h
  refine ⟨hI, hR, hM, h0, fun i hi9 => ?_, hj, h8, fun c a b => hc c (by omega) b⟩
  by_cases q9 : i = r
  · subst q9
    have e0 : rF e i = 16 * i + o := by unfold rF; rw [f0, nn_nI (by omega)]
    have e1 : rL e i = 2 + q := by unfold rL; rw [f1, nn_nI (by omega)]
    omega
  · exact hi i (by omega)
theorem RB.lb (h : RB 3 e) : LB e := by
  obtain ⟨hI, hR, hM, h0, hi, hj, h8, hc⟩ := h
  exact ⟨hR, by omega, fun r hr => (hi r hr).2.2, fun m hm => absurd hm (by omega), fun m _ hm8 => h8 m hm8⟩
theorem RB.msk (h : RB 3 e) (g : Nat → Int64) : Msk e g := fun m hm => absurd hm (by have := h.2.2.1; omega)
theorem sets_1 {sp : Nat} (h1 : 1 ≤ sp) (h4 : sp ≤ 4) : wse (nI 0) (nI sp) = 0 := by
  unfold wse; rw [if_pos (Or.inl ⟨rfl, wi_n h1 (by omega) (by decide)⟩)]
theorem sets_2 {la : Nat} (h1 : 1 ≤ la) (h4 : la ≤ 3) : wse (nI 1) (nI la) = 0 := by
  unfold wse; rw [if_pos (Or.inr ⟨rfl, wi_n h1 (by omega) (by decide)⟩)]
theorem ini_1 {sp : Nat} (h1 : 1 ≤ sp) (h4 : sp ≤ 4) : Inv (upd e0F (1 + 0) (nI sp)) := sp_inv e0F_inv h1 (by omega)
theorem ini_rb {sp la : Nat} (h1 : 1 ≤ sp) (h4 : sp ≤ 4) : RB 0 (upd (upd e0F (1 + 0) (nI sp)) (1 + 1) (nI la)) := by
  have o {j : Nat} (a : j ≠ 1) (b : j ≠ 2) : upd (upd e0F (1 + 0) (nI sp)) (1 + 1) (nI la) j = nI 0 := by
    rw [upd_ne (by omega), upd_ne (by omega)]; exact e0F_at a b
  refine ⟨lo_inv (ini_1 h1 h4) (by omega) (by omega) (by omega) (by omega) _, by unfold Rn; rw [o (by omega) (by omega)]; rfl, by unfold Mn; rw [o (by omega) (by omega)]; rfl, o (by omega) (by omega), fun i hi => absurd hi (Nat.not_lt_zero i), fun j a b => o (by omega) (by omega), fun m hm => o (by omega) (by omega), fun c a b => o (by omega) (by omega)⟩
theorem ini_eq (sp la : Int32) : upd (upd zr 1 sp) 2 la = upd (upd e0F (1 + 0) sp) (1 + 1) la := by
  funext j
  simp only [upd_at]
  by_cases q2 : j = 2
  · rw [if_pos q2, if_pos q2]
  · rw [if_neg q2, if_neg q2]
    by_cases q1 : j = 1
    · rw [if_pos q1, if_pos q1]
    · rw [if_neg q1, if_neg q1]; exact (e0F_at q1 q2).symm
end RGP
