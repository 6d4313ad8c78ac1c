/-! the class's State: a row of numbers e (0 to 703 as the reference's state, from 704 on the depths), a row of longs g (2 m: sources of the move m, 2 m + 1: its targets); 59 cells from q on: the object, cells, rings, moves, depths, six Rings, 24 times a Move and its taken row -/
theorem obj_congr {D : va_G} {cl : List vw_C} {a ci : Nat} {fs fs' : List Value} {H : Heap} (h : va_at D cl (a, .inr (ci, fs)) H) (e : fs = fs') : va_at D cl (a, .inr (ci, fs')) H := by rw [← e]; exact h
theorem upd_shift {e : Nat → Int32} {b i j : Nat} {v : Int32} : upd (fun j => e (b + j)) i v j = upd e (b + i) v (b + j) := by
  rw [upd_at, upd_at]
  by_cases x : j = i
  · rw [if_pos x, if_pos (by omega)]
  · rw [if_neg x, if_neg (by omega)]
def StO (q : Nat) (e : Nat → Int32) : List Value := [.ref (q + 1), .ref (q + 2), .ref (q + 3), .ref (q + 4), .int (e 3), .int (e 4), .int (e 1), .int (e 2), .int (e 0), .int (e 5), .int (e 6), .int (e 7)]
def RgO (e : Nat → Int32) (r : Nat) : List Value := [.int (e (56 + 4 * r + 0)), .int (e (56 + 4 * r + 1)), .int (e (56 + 4 * r + 2)), .int (e (56 + 4 * r + 3))]
def MvO (q : Nat) (e : Nat → Int32) (g : Nat → Int64) (m : Nat) : List Value := [.int (e (80 + 10 * m + 0)), .int (e (80 + 10 * m + 1)), .int (e (80 + 10 * m + 2)), .int (e (80 + 10 * m + 3)), .int (e (80 + 10 * m + 4)), .long (g (2 * m)), .long (g (2 * m + 1)), .int (e (80 + 10 * m + 5)), .int (e (80 + 10 * m + 6)), .int (e (80 + 10 * m + 7)), .int (e (80 + 10 * m + 8)), .int (e (80 + 10 * m + 9)), .ref (q + 12 + 2 * m)]
def StC (D : va_G) (cs : Nat → ClassId) (q : Nat) (e : Nat → Int32) (g : Nat → Int64) (H : Heap) : Prop :=
  va_at D vwCl (q, .inr (4, StO q e)) H ∧ va_at D vwCl (q + 1, .inl (cs 0, 48, .inl (fun j => e (8 + j)))) H ∧ va_at D vwCl (q + 2, .inl (cs 2, 6, .inr (.inr (.inr (.inr (fun j => some (q + 5 + j))))))) H ∧ va_at D vwCl (q + 3, .inl (cs 3, 24, .inr (.inr (.inr (.inr (fun j => some (q + 11 + 2 * j))))))) H ∧ va_at D vwCl (q + 4, .inl (cs 0, 24, .inl (fun j => e (704 + j)))) H ∧ (∀ r, r < 6 → va_at D vwCl (q + 5 + r, .inr (3, RgO e r)) H) ∧ (∀ m, m < 24 → va_at D vwCl (q + 11 + 2 * m, .inr (2, MvO q e g m)) H) ∧ ∀ m, m < 24 → va_at D vwCl (q + 12 + 2 * m, .inl (cs 0, 16, .inl (fun i => e (320 + 16 * m + i)))) H
abbrev rgS (q : Nat) : Nat → Prop := fun x => q ≤ x ∧ x < q + 59
section STW
variable {D : va_G} {cs : Nat → ClassId} {q : Nat} {e e' : Nat → Int32} {g g' : Nat → Int64} {H H1 : Heap}
theorem StC.obj (h : StC D cs q e g H) : va_at D vwCl (q, .inr (4, StO q e)) H := h.1
theorem StC.cells (h : StC D cs q e g H) : va_at D vwCl (q + 1, .inl (cs 0, 48, .inl (fun j => e (8 + j)))) H := h.2.1
theorem StC.rings (h : StC D cs q e g H) : va_at D vwCl (q + 2, .inl (cs 2, 6, .inr (.inr (.inr (.inr (fun j => some (q + 5 + j))))))) H := h.2.2.1
theorem StC.moves (h : StC D cs q e g H) : va_at D vwCl (q + 3, .inl (cs 3, 24, .inr (.inr (.inr (.inr (fun j => some (q + 11 + 2 * j))))))) H := h.2.2.2.1
theorem StC.depths (h : StC D cs q e g H) : va_at D vwCl (q + 4, .inl (cs 0, 24, .inl (fun j => e (704 + j)))) H := h.2.2.2.2.1
theorem StC.rg (h : StC D cs q e g H) {r : Nat} (hr : r < 6) : va_at D vwCl (q + 5 + r, .inr (3, RgO e r)) H := h.2.2.2.2.2.1 r hr
theorem StC.mv (h : StC D cs q e g H) {m : Nat} (hm : m < 24) : va_at D vwCl (q + 11 + 2 * m, .inr (2, MvO q e g m)) H := h.2.2.2.2.2.2.1 m hm
theorem StC.tk (h : StC D cs q e g H) {m : Nat} (hm : m < 24) : va_at D vwCl (q + 12 + 2 * m, .inl (cs 0, 16, .inl (fun i => e (320 + 16 * m + i)))) H := h.2.2.2.2.2.2.2 m hm
theorem StC.lt (h : StC D cs q e g H) (x : Nat) (h1 : q ≤ x) (h2 : x < q + 59) : x < H.size := by
  by_cases e0 : x < q + 5
  · have e : x = q ∨ x = q + 1 ∨ x = q + 2 ∨ x = q + 3 ∨ x = q + 4 := by omega
    rcases e with rfl | rfl | rfl | rfl | rfl
    · exact h.obj.lt
    · exact h.cells.lt
    · exact h.rings.lt
    · exact h.moves.lt
    · exact h.depths.lt
  · by_cases e1 : x < q + 11
    · have := (h.rg (r := x - (q + 5)) (by omega)).lt
      have e2 : q + 5 + (x - (q + 5)) = x := by omega
      exact e2 ▸ this
    · by_cases e3 : (x - (q + 11)) % 2 = 0
      · have := (h.mv (m := (x - (q + 11)) / 2) (by omega)).lt
        have e2 : q + 11 + 2 * ((x - (q + 11)) / 2) = x := by omega
        exact e2 ▸ this
      · have := (h.tk (m := (x - (q + 11)) / 2) (by omega)).lt
        have e2 : q + 12 + 2 * ((x - (q + 11)) / 2) = x := by omega
        exact e2 ▸ this
theorem StO_congr (h : ∀ j, j < 8 → e j = e' j) : StO q e = StO q e' := by
  unfold StO; rw [h 0 (by omega), h 1 (by omega), h 2 (by omega), h 3 (by omega), h 4 (by omega), h 5 (by omega), h 6 (by omega), h 7 (by omega)]
theorem RgO_congr {r : Nat} (h : ∀ pt, pt < 4 → e (56 + 4 * r + pt) = e' (56 + 4 * r + pt)) : RgO e r = RgO e' r := by
  unfold RgO; rw [h 0 (by omega), h 1 (by omega), h 2 (by omega), h 3 (by omega)]
theorem MvO_congr {m : Nat} (h : ∀ pt, pt < 10 → e (80 + 10 * m + pt) = e' (80 + 10 * m + pt)) (h1 : g (2 * m) = g' (2 * m)) (h2 : g (2 * m + 1) = g' (2 * m + 1)) : MvO q e g m = MvO q e' g' m := by
  unfold MvO; rw [h 0 (by omega), h 1 (by omega), h 2 (by omega), h 3 (by omega), h 4 (by omega), h 5 (by omega), h 6 (by omega), h 7 (by omega), h 8 (by omega), h 9 (by omega), h1, h2]
/-- the parts but one (that at b) as they were; the one at b is right -/
theorem StC.put (h : StC D cs q e g H) {b : Nat} (hU : Same1 b H H1)
    (c0 : if q = b then va_at D vwCl (q, .inr (4, StO q e')) H1 else ∀ j, j < 8 → e j = e' j)
    (c1 : if q + 1 = b then va_at D vwCl (q + 1, .inl (cs 0, 48, .inl (fun j => e' (8 + j)))) H1 else ∀ j, j < 48 → e (8 + j) = e' (8 + j))
    (c2 : q + 2 ≠ b) (c3 : q + 3 ≠ b)
    (c4 : if q + 4 = b then va_at D vwCl (q + 4, .inl (cs 0, 24, .inl (fun j => e' (704 + j)))) H1 else ∀ j, j < 24 → e (704 + j) = e' (704 + j))
    (c5 : ∀ r, r < 6 → if q + 5 + r = b then va_at D vwCl (q + 5 + r, .inr (3, RgO e' r)) H1 else ∀ pt, pt < 4 → e (56 + 4 * r + pt) = e' (56 + 4 * r + pt))
    (c6 : ∀ m, m < 24 → if q + 11 + 2 * m = b then va_at D vwCl (q + 11 + 2 * m, .inr (2, MvO q e' g' m)) H1 else (∀ pt, pt < 10 → e (80 + 10 * m + pt) = e' (80 + 10 * m + pt)) ∧ g (2 * m) = g' (2 * m) ∧ g (2 * m + 1) = g' (2 * m + 1))
    (c7 : ∀ m, m < 24 → if q + 12 + 2 * m = b then va_at D vwCl (q + 12 + 2 * m, .inl (cs 0, 16, .inl (fun i => e' (320 + 16 * m + i)))) H1 else ∀ i, i < 16 → e (320 + 16 * m + i) = e' (320 + 16 * m + i)) : StC D cs q e' g' H1 := by
  refine ⟨?_, ?_, h.rings.kept (hU.2 _ c2), h.moves.kept (hU.2 _ c3), ?_, fun r hr => ?_, fun m hm => ?_, fun m hm => ?_⟩
  · split at c0
    · exact c0
    · rename_i n; exact obj_congr (h.obj.kept (hU.2 _ n)) (StO_congr c0)
  · split at c1
    · exact c1
    · rename_i n; exact at_congr (h.cells.kept (hU.2 _ n)) c1
  · split at c4
    · exact c4
    · rename_i n; exact at_congr (h.depths.kept (hU.2 _ n)) c4
  · have c := c5 r hr
    split at c
    · exact c
    · rename_i n; exact obj_congr ((h.rg hr).kept (hU.2 _ n)) (RgO_congr c)
  · have c := c6 m hm
    split at c
    · exact c
    · rename_i n; exact obj_congr ((h.mv hm).kept (hU.2 _ n)) (MvO_congr c.1 c.2.1 c.2.2)
  · have c := c7 m hm
    split at c
    · exact c
    · rename_i n; exact at_congr ((h.tk hm).kept (hU.2 _ n)) c
theorem StC.keep (h : StC D cs q e g H) (hk : ∀ x, q ≤ x → x < q + 59 → H1[x]? = H[x]?) : StC D cs q e g H1 :=
  ⟨h.obj.kept (hk _ (by omega) (by omega)), h.cells.kept (hk _ (by omega) (by omega)), h.rings.kept (hk _ (by omega) (by omega)), h.moves.kept (hk _ (by omega) (by omega)), h.depths.kept (hk _ (by omega) (by omega)), fun r hr => (h.rg hr).kept (hk _ (by omega) (by omega)), fun m hm => (h.mv hm).kept (hk _ (by omega) (by omega)), fun m hm => (h.tk hm).kept (hk _ (by omega) (by omega))⟩
theorem StC.frame {P : Nat → Prop} (h : StC D cs q e g H) (hk : H.size ≤ H1.size ∧ ∀ x, x < H.size → ¬ P x → H1[x]? = H[x]?) (hd : ∀ x, q ≤ x → x < q + 59 → ¬ P x) : StC D cs q e g H1 := h.keep (fun x h1 h2 => hk.2 x (h.lt x h1 h2) (hd x h1 h2))
theorem StC.off (h : StC D cs q e g H) {b : Nat} (hU : Same1 b H H1) (hb : b < q ∨ q + 59 ≤ b) : StC D cs q e g H1 := h.keep (fun x h1 h2 => hU.2 x (by omega))
theorem StC.put_ringCount {v : Int32} (h : StC D cs q e g H) (hc : va_at D vwCl (q, .inr (4, (StO q e).set 4 (.int v))) H1) (hU : Same1 (q) H H1) : StC D cs q (upd e 3 v) g H1 :=
  h.put hU (by rw [if_pos rfl]; exact obj_congr hc rfl) (by rw [if_neg (by omega)]; exact fun j hj => by rw [upd_at, if_neg (by omega)]) (by omega) (by omega) (by rw [if_neg (by omega)]; exact fun j hj => by rw [upd_at, if_neg (by omega)]) (fun r' hr' => by rw [if_neg (by omega)]; exact fun pt hp => by rw [upd_at, if_neg (by omega)]) (fun m' hm' => by rw [if_neg (by omega)]; exact ⟨fun pt hp => by rw [upd_at, if_neg (by omega)], rfl, rfl⟩) (fun m' hm' => by rw [if_neg (by omega)]; exact fun i hi => by rw [upd_at, if_neg (by omega)])
theorem StC.put_moveCount {v : Int32} (h : StC D cs q e g H) (hc : va_at D vwCl (q, .inr (4, (StO q e).set 5 (.int v))) H1) (hU : Same1 (q) H H1) : StC D cs q (upd e 4 v) g H1 :=
  h.put hU (by rw [if_pos rfl]; exact obj_congr hc rfl) (by rw [if_neg (by omega)]; exact fun j hj => by rw [upd_at, if_neg (by omega)]) (by omega) (by omega) (by rw [if_neg (by omega)]; exact fun j hj => by rw [upd_at, if_neg (by omega)]) (fun r' hr' => by rw [if_neg (by omega)]; exact fun pt hp => by rw [upd_at, if_neg (by omega)]) (fun m' hm' => by rw [if_neg (by omega)]; exact ⟨fun pt hp => by rw [upd_at, if_neg (by omega)], rfl, rfl⟩) (fun m' hm' => by rw [if_neg (by omega)]; exact fun i hi => by rw [upd_at, if_neg (by omega)])
theorem StC.put_speed {v : Int32} (h : StC D cs q e g H) (hc : va_at D vwCl (q, .inr (4, (StO q e).set 6 (.int v))) H1) (hU : Same1 (q) H H1) : StC D cs q (upd e 1 v) g H1 :=
  h.put hU (by rw [if_pos rfl]; exact obj_congr hc rfl) (by rw [if_neg (by omega)]; exact fun j hj => by rw [upd_at, if_neg (by omega)]) (by omega) (by omega) (by rw [if_neg (by omega)]; exact fun j hj => by rw [upd_at, if_neg (by omega)]) (fun r' hr' => by rw [if_neg (by omega)]; exact fun pt hp => by rw [upd_at, if_neg (by omega)]) (fun m' hm' => by rw [if_neg (by omega)]; exact ⟨fun pt hp => by rw [upd_at, if_neg (by omega)], rfl, rfl⟩) (fun m' hm' => by rw [if_neg (by omega)]; exact fun i hi => by rw [upd_at, if_neg (by omega)])
theorem StC.put_lanes {v : Int32} (h : StC D cs q e g H) (hc : va_at D vwCl (q, .inr (4, (StO q e).set 7 (.int v))) H1) (hU : Same1 (q) H H1) : StC D cs q (upd e 2 v) g H1 :=
  h.put hU (by rw [if_pos rfl]; exact obj_congr hc rfl) (by rw [if_neg (by omega)]; exact fun j hj => by rw [upd_at, if_neg (by omega)]) (by omega) (by omega) (by rw [if_neg (by omega)]; exact fun j hj => by rw [upd_at, if_neg (by omega)]) (fun r' hr' => by rw [if_neg (by omega)]; exact fun pt hp => by rw [upd_at, if_neg (by omega)]) (fun m' hm' => by rw [if_neg (by omega)]; exact ⟨fun pt hp => by rw [upd_at, if_neg (by omega)], rfl, rfl⟩) (fun m' hm' => by rw [if_neg (by omega)]; exact fun i hi => by rw [upd_at, if_neg (by omega)])
theorem StC.put_tick {v : Int32} (h : StC D cs q e g H) (hc : va_at D vwCl (q, .inr (4, (StO q e).set 8 (.int v))) H1) (hU : Same1 (q) H H1) : StC D cs q (upd e 0 v) g H1 :=
  h.put hU (by rw [if_pos rfl]; exact obj_congr hc rfl) (by rw [if_neg (by omega)]; exact fun j hj => by rw [upd_at, if_neg (by omega)]) (by omega) (by omega) (by rw [if_neg (by omega)]; exact fun j hj => by rw [upd_at, if_neg (by omega)]) (fun r' hr' => by rw [if_neg (by omega)]; exact fun pt hp => by rw [upd_at, if_neg (by omega)]) (fun m' hm' => by rw [if_neg (by omega)]; exact ⟨fun pt hp => by rw [upd_at, if_neg (by omega)], rfl, rfl⟩) (fun m' hm' => by rw [if_neg (by omega)]; exact fun i hi => by rw [upd_at, if_neg (by omega)])
theorem StC.put_copiedInAll {v : Int32} (h : StC D cs q e g H) (hc : va_at D vwCl (q, .inr (4, (StO q e).set 9 (.int v))) H1) (hU : Same1 (q) H H1) : StC D cs q (upd e 5 v) g H1 :=
  h.put hU (by rw [if_pos rfl]; exact obj_congr hc rfl) (by rw [if_neg (by omega)]; exact fun j hj => by rw [upd_at, if_neg (by omega)]) (by omega) (by omega) (by rw [if_neg (by omega)]; exact fun j hj => by rw [upd_at, if_neg (by omega)]) (fun r' hr' => by rw [if_neg (by omega)]; exact fun pt hp => by rw [upd_at, if_neg (by omega)]) (fun m' hm' => by rw [if_neg (by omega)]; exact ⟨fun pt hp => by rw [upd_at, if_neg (by omega)], rfl, rfl⟩) (fun m' hm' => by rw [if_neg (by omega)]; exact fun i hi => by rw [upd_at, if_neg (by omega)])
theorem StC.put_signedInAll {v : Int32} (h : StC D cs q e g H) (hc : va_at D vwCl (q, .inr (4, (StO q e).set 10 (.int v))) H1) (hU : Same1 (q) H H1) : StC D cs q (upd e 6 v) g H1 :=
  h.put hU (by rw [if_pos rfl]; exact obj_congr hc rfl) (by rw [if_neg (by omega)]; exact fun j hj => by rw [upd_at, if_neg (by omega)]) (by omega) (by omega) (by rw [if_neg (by omega)]; exact fun j hj => by rw [upd_at, if_neg (by omega)]) (fun r' hr' => by rw [if_neg (by omega)]; exact fun pt hp => by rw [upd_at, if_neg (by omega)]) (fun m' hm' => by rw [if_neg (by omega)]; exact ⟨fun pt hp => by rw [upd_at, if_neg (by omega)], rfl, rfl⟩) (fun m' hm' => by rw [if_neg (by omega)]; exact fun i hi => by rw [upd_at, if_neg (by omega)])
theorem StC.put_sweptInAll {v : Int32} (h : StC D cs q e g H) (hc : va_at D vwCl (q, .inr (4, (StO q e).set 11 (.int v))) H1) (hU : Same1 (q) H H1) : StC D cs q (upd e 7 v) g H1 :=
  h.put hU (by rw [if_pos rfl]; exact obj_congr hc rfl) (by rw [if_neg (by omega)]; exact fun j hj => by rw [upd_at, if_neg (by omega)]) (by omega) (by omega) (by rw [if_neg (by omega)]; exact fun j hj => by rw [upd_at, if_neg (by omega)]) (fun r' hr' => by rw [if_neg (by omega)]; exact fun pt hp => by rw [upd_at, if_neg (by omega)]) (fun m' hm' => by rw [if_neg (by omega)]; exact ⟨fun pt hp => by rw [upd_at, if_neg (by omega)], rfl, rfl⟩) (fun m' hm' => by rw [if_neg (by omega)]; exact fun i hi => by rw [upd_at, if_neg (by omega)])
theorem StC.put_cells {i : Nat} {v : Int32} (hi : i < 48) (h : StC D cs q e g H) (hc : va_at D vwCl (q + 1, .inl (cs 0, 48, .inl (upd (fun j => e (8 + j)) i v))) H1) (hU : Same1 (q + 1) H H1) : StC D cs q (upd e (8 + i) v) g H1 :=
  h.put hU (by rw [if_neg (by omega)]; exact fun j hj => by rw [upd_at, if_neg (by omega)]) (by rw [if_pos rfl]; exact at_congr hc (fun j hj => upd_shift)) (by omega) (by omega) (by rw [if_neg (by omega)]; exact fun j hj => by rw [upd_at, if_neg (by omega)]) (fun r' hr' => by rw [if_neg (by omega)]; exact fun pt hp => by rw [upd_at, if_neg (by omega)]) (fun m' hm' => by rw [if_neg (by omega)]; exact ⟨fun pt hp => by rw [upd_at, if_neg (by omega)], rfl, rfl⟩) (fun m' hm' => by rw [if_neg (by omega)]; exact fun i hi => by rw [upd_at, if_neg (by omega)])
theorem StC.put_depths {i : Nat} {v : Int32} (hi : i < 24) (h : StC D cs q e g H) (hc : va_at D vwCl (q + 4, .inl (cs 0, 24, .inl (upd (fun j => e (704 + j)) i v))) H1) (hU : Same1 (q + 4) H H1) : StC D cs q (upd e (704 + i) v) g H1 :=
  h.put hU (by rw [if_neg (by omega)]; exact fun j hj => by rw [upd_at, if_neg (by omega)]) (by rw [if_neg (by omega)]; exact fun j hj => by rw [upd_at, if_neg (by omega)]) (by omega) (by omega) (by rw [if_pos rfl]; exact at_congr hc (fun j hj => upd_shift)) (fun r' hr' => by rw [if_neg (by omega)]; exact fun pt hp => by rw [upd_at, if_neg (by omega)]) (fun m' hm' => by rw [if_neg (by omega)]; exact ⟨fun pt hp => by rw [upd_at, if_neg (by omega)], rfl, rfl⟩) (fun m' hm' => by rw [if_neg (by omega)]; exact fun i hi => by rw [upd_at, if_neg (by omega)])
theorem StC.put_first {r : Nat} {v : Int32} (hr : r < 6) (h : StC D cs q e g H) (hc : va_at D vwCl (q + 5 + r, .inr (3, (RgO e r).set 0 (.int v))) H1) (hU : Same1 (q + 5 + r) H H1) : StC D cs q (upd e (56 + 4 * r + 0) v) g H1 :=
  h.put hU (by rw [if_neg (by omega)]; exact fun j hj => by rw [upd_at, if_neg (by omega)]) (by rw [if_neg (by omega)]; exact fun j hj => by rw [upd_at, if_neg (by omega)]) (by omega) (by omega) (by rw [if_neg (by omega)]; exact fun j hj => by rw [upd_at, if_neg (by omega)]) (fun r' hr' => by
    by_cases x : r' = r
    · subst x; rw [if_pos rfl]; refine obj_congr hc ?_; unfold RgO; simp [upd_at]
    · rw [if_neg (by omega)]; exact fun pt hp => by rw [upd_at, if_neg (by omega)]) (fun m' hm' => by rw [if_neg (by omega)]; exact ⟨fun pt hp => by rw [upd_at, if_neg (by omega)], rfl, rfl⟩) (fun m' hm' => by rw [if_neg (by omega)]; exact fun i hi => by rw [upd_at, if_neg (by omega)])
theorem StC.put_length {r : Nat} {v : Int32} (hr : r < 6) (h : StC D cs q e g H) (hc : va_at D vwCl (q + 5 + r, .inr (3, (RgO e r).set 1 (.int v))) H1) (hU : Same1 (q + 5 + r) H H1) : StC D cs q (upd e (56 + 4 * r + 1) v) g H1 :=
  h.put hU (by rw [if_neg (by omega)]; exact fun j hj => by rw [upd_at, if_neg (by omega)]) (by rw [if_neg (by omega)]; exact fun j hj => by rw [upd_at, if_neg (by omega)]) (by omega) (by omega) (by rw [if_neg (by omega)]; exact fun j hj => by rw [upd_at, if_neg (by omega)]) (fun r' hr' => by
    by_cases x : r' = r
    · subst x; rw [if_pos rfl]; refine obj_congr hc ?_; unfold RgO; simp [upd_at]
    · rw [if_neg (by omega)]; exact fun pt hp => by rw [upd_at, if_neg (by omega)]) (fun m' hm' => by rw [if_neg (by omega)]; exact ⟨fun pt hp => by rw [upd_at, if_neg (by omega)], rfl, rfl⟩) (fun m' hm' => by rw [if_neg (by omega)]; exact fun i hi => by rw [upd_at, if_neg (by omega)])
theorem StC.put_patience {r : Nat} {v : Int32} (hr : r < 6) (h : StC D cs q e g H) (hc : va_at D vwCl (q + 5 + r, .inr (3, (RgO e r).set 2 (.int v))) H1) (hU : Same1 (q + 5 + r) H H1) : StC D cs q (upd e (56 + 4 * r + 2) v) g H1 :=
  h.put hU (by rw [if_neg (by omega)]; exact fun j hj => by rw [upd_at, if_neg (by omega)]) (by rw [if_neg (by omega)]; exact fun j hj => by rw [upd_at, if_neg (by omega)]) (by omega) (by omega) (by rw [if_neg (by omega)]; exact fun j hj => by rw [upd_at, if_neg (by omega)]) (fun r' hr' => by
    by_cases x : r' = r
    · subst x; rw [if_pos rfl]; refine obj_congr hc ?_; unfold RgO; simp [upd_at]
    · rw [if_neg (by omega)]; exact fun pt hp => by rw [upd_at, if_neg (by omega)]) (fun m' hm' => by rw [if_neg (by omega)]; exact ⟨fun pt hp => by rw [upd_at, if_neg (by omega)], rfl, rfl⟩) (fun m' hm' => by rw [if_neg (by omega)]; exact fun i hi => by rw [upd_at, if_neg (by omega)])
theorem StC.put_strikes {r : Nat} {v : Int32} (hr : r < 6) (h : StC D cs q e g H) (hc : va_at D vwCl (q + 5 + r, .inr (3, (RgO e r).set 3 (.int v))) H1) (hU : Same1 (q + 5 + r) H H1) : StC D cs q (upd e (56 + 4 * r + 3) v) g H1 :=
  h.put hU (by rw [if_neg (by omega)]; exact fun j hj => by rw [upd_at, if_neg (by omega)]) (by rw [if_neg (by omega)]; exact fun j hj => by rw [upd_at, if_neg (by omega)]) (by omega) (by omega) (by rw [if_neg (by omega)]; exact fun j hj => by rw [upd_at, if_neg (by omega)]) (fun r' hr' => by
    by_cases x : r' = r
    · subst x; rw [if_pos rfl]; refine obj_congr hc ?_; unfold RgO; simp [upd_at]
    · rw [if_neg (by omega)]; exact fun pt hp => by rw [upd_at, if_neg (by omega)]) (fun m' hm' => by rw [if_neg (by omega)]; exact ⟨fun pt hp => by rw [upd_at, if_neg (by omega)], rfl, rfl⟩) (fun m' hm' => by rw [if_neg (by omega)]; exact fun i hi => by rw [upd_at, if_neg (by omega)])
theorem StC.put_from {m : Nat} {v : Int32} (hm : m < 24) (h : StC D cs q e g H) (hc : va_at D vwCl (q + 11 + 2 * m, .inr (2, (MvO q e g m).set 0 (.int v))) H1) (hU : Same1 (q + 11 + 2 * m) H H1) : StC D cs q (upd e (80 + 10 * m + 0) v) g H1 :=
  h.put hU (by rw [if_neg (by omega)]; exact fun j hj => by rw [upd_at, if_neg (by omega)]) (by rw [if_neg (by omega)]; exact fun j hj => by rw [upd_at, if_neg (by omega)]) (by omega) (by omega) (by rw [if_neg (by omega)]; exact fun j hj => by rw [upd_at, if_neg (by omega)]) (fun r' hr' => by rw [if_neg (by omega)]; exact fun pt hp => by rw [upd_at, if_neg (by omega)]) (fun m' hm' => by
    by_cases x : m' = m
    · subst x; rw [if_pos rfl]; refine obj_congr hc ?_; unfold MvO; simp [upd_at]
    · rw [if_neg (by omega)]; exact ⟨fun pt hp => by rw [upd_at, if_neg (by omega)], rfl, rfl⟩) (fun m' hm' => by rw [if_neg (by omega)]; exact fun i hi => by rw [upd_at, if_neg (by omega)])
theorem StC.put_fromPlace {m : Nat} {v : Int32} (hm : m < 24) (h : StC D cs q e g H) (hc : va_at D vwCl (q + 11 + 2 * m, .inr (2, (MvO q e g m).set 1 (.int v))) H1) (hU : Same1 (q + 11 + 2 * m) H H1) : StC D cs q (upd e (80 + 10 * m + 1) v) g H1 :=
  h.put hU (by rw [if_neg (by omega)]; exact fun j hj => by rw [upd_at, if_neg (by omega)]) (by rw [if_neg (by omega)]; exact fun j hj => by rw [upd_at, if_neg (by omega)]) (by omega) (by omega) (by rw [if_neg (by omega)]; exact fun j hj => by rw [upd_at, if_neg (by omega)]) (fun r' hr' => by rw [if_neg (by omega)]; exact fun pt hp => by rw [upd_at, if_neg (by omega)]) (fun m' hm' => by
    by_cases x : m' = m
    · subst x; rw [if_pos rfl]; refine obj_congr hc ?_; unfold MvO; simp [upd_at]
    · rw [if_neg (by omega)]; exact ⟨fun pt hp => by rw [upd_at, if_neg (by omega)], rfl, rfl⟩) (fun m' hm' => by rw [if_neg (by omega)]; exact fun i hi => by rw [upd_at, if_neg (by omega)])
theorem StC.put_to {m : Nat} {v : Int32} (hm : m < 24) (h : StC D cs q e g H) (hc : va_at D vwCl (q + 11 + 2 * m, .inr (2, (MvO q e g m).set 2 (.int v))) H1) (hU : Same1 (q + 11 + 2 * m) H H1) : StC D cs q (upd e (80 + 10 * m + 2) v) g H1 :=
  h.put hU (by rw [if_neg (by omega)]; exact fun j hj => by rw [upd_at, if_neg (by omega)]) (by rw [if_neg (by omega)]; exact fun j hj => by rw [upd_at, if_neg (by omega)]) (by omega) (by omega) (by rw [if_neg (by omega)]; exact fun j hj => by rw [upd_at, if_neg (by omega)]) (fun r' hr' => by rw [if_neg (by omega)]; exact fun pt hp => by rw [upd_at, if_neg (by omega)]) (fun m' hm' => by
    by_cases x : m' = m
    · subst x; rw [if_pos rfl]; refine obj_congr hc ?_; unfold MvO; simp [upd_at]
    · rw [if_neg (by omega)]; exact ⟨fun pt hp => by rw [upd_at, if_neg (by omega)], rfl, rfl⟩) (fun m' hm' => by rw [if_neg (by omega)]; exact fun i hi => by rw [upd_at, if_neg (by omega)])
theorem StC.put_toPlace {m : Nat} {v : Int32} (hm : m < 24) (h : StC D cs q e g H) (hc : va_at D vwCl (q + 11 + 2 * m, .inr (2, (MvO q e g m).set 3 (.int v))) H1) (hU : Same1 (q + 11 + 2 * m) H H1) : StC D cs q (upd e (80 + 10 * m + 3) v) g H1 :=
  h.put hU (by rw [if_neg (by omega)]; exact fun j hj => by rw [upd_at, if_neg (by omega)]) (by rw [if_neg (by omega)]; exact fun j hj => by rw [upd_at, if_neg (by omega)]) (by omega) (by omega) (by rw [if_neg (by omega)]; exact fun j hj => by rw [upd_at, if_neg (by omega)]) (fun r' hr' => by rw [if_neg (by omega)]; exact fun pt hp => by rw [upd_at, if_neg (by omega)]) (fun m' hm' => by
    by_cases x : m' = m
    · subst x; rw [if_pos rfl]; refine obj_congr hc ?_; unfold MvO; simp [upd_at]
    · rw [if_neg (by omega)]; exact ⟨fun pt hp => by rw [upd_at, if_neg (by omega)], rfl, rfl⟩) (fun m' hm' => by rw [if_neg (by omega)]; exact fun i hi => by rw [upd_at, if_neg (by omega)])
theorem StC.put_count {m : Nat} {v : Int32} (hm : m < 24) (h : StC D cs q e g H) (hc : va_at D vwCl (q + 11 + 2 * m, .inr (2, (MvO q e g m).set 4 (.int v))) H1) (hU : Same1 (q + 11 + 2 * m) H H1) : StC D cs q (upd e (80 + 10 * m + 4) v) g H1 :=
  h.put hU (by rw [if_neg (by omega)]; exact fun j hj => by rw [upd_at, if_neg (by omega)]) (by rw [if_neg (by omega)]; exact fun j hj => by rw [upd_at, if_neg (by omega)]) (by omega) (by omega) (by rw [if_neg (by omega)]; exact fun j hj => by rw [upd_at, if_neg (by omega)]) (fun r' hr' => by rw [if_neg (by omega)]; exact fun pt hp => by rw [upd_at, if_neg (by omega)]) (fun m' hm' => by
    by_cases x : m' = m
    · subst x; rw [if_pos rfl]; refine obj_congr hc ?_; unfold MvO; simp [upd_at]
    · rw [if_neg (by omega)]; exact ⟨fun pt hp => by rw [upd_at, if_neg (by omega)], rfl, rfl⟩) (fun m' hm' => by rw [if_neg (by omega)]; exact fun i hi => by rw [upd_at, if_neg (by omega)])
theorem StC.put_phase {m : Nat} {v : Int32} (hm : m < 24) (h : StC D cs q e g H) (hc : va_at D vwCl (q + 11 + 2 * m, .inr (2, (MvO q e g m).set 7 (.int v))) H1) (hU : Same1 (q + 11 + 2 * m) H H1) : StC D cs q (upd e (80 + 10 * m + 5) v) g H1 :=
  h.put hU (by rw [if_neg (by omega)]; exact fun j hj => by rw [upd_at, if_neg (by omega)]) (by rw [if_neg (by omega)]; exact fun j hj => by rw [upd_at, if_neg (by omega)]) (by omega) (by omega) (by rw [if_neg (by omega)]; exact fun j hj => by rw [upd_at, if_neg (by omega)]) (fun r' hr' => by rw [if_neg (by omega)]; exact fun pt hp => by rw [upd_at, if_neg (by omega)]) (fun m' hm' => by
    by_cases x : m' = m
    · subst x; rw [if_pos rfl]; refine obj_congr hc ?_; unfold MvO; simp [upd_at]
    · rw [if_neg (by omega)]; exact ⟨fun pt hp => by rw [upd_at, if_neg (by omega)], rfl, rfl⟩) (fun m' hm' => by rw [if_neg (by omega)]; exact fun i hi => by rw [upd_at, if_neg (by omega)])
theorem StC.put_written {m : Nat} {v : Int32} (hm : m < 24) (h : StC D cs q e g H) (hc : va_at D vwCl (q + 11 + 2 * m, .inr (2, (MvO q e g m).set 8 (.int v))) H1) (hU : Same1 (q + 11 + 2 * m) H H1) : StC D cs q (upd e (80 + 10 * m + 6) v) g H1 :=
  h.put hU (by rw [if_neg (by omega)]; exact fun j hj => by rw [upd_at, if_neg (by omega)]) (by rw [if_neg (by omega)]; exact fun j hj => by rw [upd_at, if_neg (by omega)]) (by omega) (by omega) (by rw [if_neg (by omega)]; exact fun j hj => by rw [upd_at, if_neg (by omega)]) (fun r' hr' => by rw [if_neg (by omega)]; exact fun pt hp => by rw [upd_at, if_neg (by omega)]) (fun m' hm' => by
    by_cases x : m' = m
    · subst x; rw [if_pos rfl]; refine obj_congr hc ?_; unfold MvO; simp [upd_at]
    · rw [if_neg (by omega)]; exact ⟨fun pt hp => by rw [upd_at, if_neg (by omega)], rfl, rfl⟩) (fun m' hm' => by rw [if_neg (by omega)]; exact fun i hi => by rw [upd_at, if_neg (by omega)])
theorem StC.put_started {m : Nat} {v : Int32} (hm : m < 24) (h : StC D cs q e g H) (hc : va_at D vwCl (q + 11 + 2 * m, .inr (2, (MvO q e g m).set 9 (.int v))) H1) (hU : Same1 (q + 11 + 2 * m) H H1) : StC D cs q (upd e (80 + 10 * m + 7) v) g H1 :=
  h.put hU (by rw [if_neg (by omega)]; exact fun j hj => by rw [upd_at, if_neg (by omega)]) (by rw [if_neg (by omega)]; exact fun j hj => by rw [upd_at, if_neg (by omega)]) (by omega) (by omega) (by rw [if_neg (by omega)]; exact fun j hj => by rw [upd_at, if_neg (by omega)]) (fun r' hr' => by rw [if_neg (by omega)]; exact fun pt hp => by rw [upd_at, if_neg (by omega)]) (fun m' hm' => by
    by_cases x : m' = m
    · subst x; rw [if_pos rfl]; refine obj_congr hc ?_; unfold MvO; simp [upd_at]
    · rw [if_neg (by omega)]; exact ⟨fun pt hp => by rw [upd_at, if_neg (by omega)], rfl, rfl⟩) (fun m' hm' => by rw [if_neg (by omega)]; exact fun i hi => by rw [upd_at, if_neg (by omega)])
theorem StC.put_copied {m : Nat} {v : Int32} (hm : m < 24) (h : StC D cs q e g H) (hc : va_at D vwCl (q + 11 + 2 * m, .inr (2, (MvO q e g m).set 10 (.int v))) H1) (hU : Same1 (q + 11 + 2 * m) H H1) : StC D cs q (upd e (80 + 10 * m + 8) v) g H1 :=
  h.put hU (by rw [if_neg (by omega)]; exact fun j hj => by rw [upd_at, if_neg (by omega)]) (by rw [if_neg (by omega)]; exact fun j hj => by rw [upd_at, if_neg (by omega)]) (by omega) (by omega) (by rw [if_neg (by omega)]; exact fun j hj => by rw [upd_at, if_neg (by omega)]) (fun r' hr' => by rw [if_neg (by omega)]; exact fun pt hp => by rw [upd_at, if_neg (by omega)]) (fun m' hm' => by
    by_cases x : m' = m
    · subst x; rw [if_pos rfl]; refine obj_congr hc ?_; unfold MvO; simp [upd_at]
    · rw [if_neg (by omega)]; exact ⟨fun pt hp => by rw [upd_at, if_neg (by omega)], rfl, rfl⟩) (fun m' hm' => by rw [if_neg (by omega)]; exact fun i hi => by rw [upd_at, if_neg (by omega)])
theorem StC.put_signed {m : Nat} {v : Int32} (hm : m < 24) (h : StC D cs q e g H) (hc : va_at D vwCl (q + 11 + 2 * m, .inr (2, (MvO q e g m).set 11 (.int v))) H1) (hU : Same1 (q + 11 + 2 * m) H H1) : StC D cs q (upd e (80 + 10 * m + 9) v) g H1 :=
  h.put hU (by rw [if_neg (by omega)]; exact fun j hj => by rw [upd_at, if_neg (by omega)]) (by rw [if_neg (by omega)]; exact fun j hj => by rw [upd_at, if_neg (by omega)]) (by omega) (by omega) (by rw [if_neg (by omega)]; exact fun j hj => by rw [upd_at, if_neg (by omega)]) (fun r' hr' => by rw [if_neg (by omega)]; exact fun pt hp => by rw [upd_at, if_neg (by omega)]) (fun m' hm' => by
    by_cases x : m' = m
    · subst x; rw [if_pos rfl]; refine obj_congr hc ?_; unfold MvO; simp [upd_at]
    · rw [if_neg (by omega)]; exact ⟨fun pt hp => by rw [upd_at, if_neg (by omega)], rfl, rfl⟩) (fun m' hm' => by rw [if_neg (by omega)]; exact fun i hi => by rw [upd_at, if_neg (by omega)])
theorem updL_at {f : Nat → Int64} {k j : Nat} {x : Int64} : vp_updL f k x j = if j = k then x else f j := rfl
theorem StC.put_sources {m : Nat} {v : Int64} (hm : m < 24) (h : StC D cs q e g H) (hc : va_at D vwCl (q + 11 + 2 * m, .inr (2, (MvO q e g m).set 5 (.long v))) H1) (hU : Same1 (q + 11 + 2 * m) H H1) : StC D cs q e (vp_updL g (2 * m) v) H1 :=
  h.put hU (by rw [if_neg (by omega)]; exact fun _ _ => rfl) (by rw [if_neg (by omega)]; exact fun _ _ => rfl) (by omega) (by omega) (by rw [if_neg (by omega)]; exact fun _ _ => rfl) (fun r' hr' => by rw [if_neg (by omega)]; exact fun _ _ => rfl) (fun m' hm' => by
    by_cases x : m' = m
    · subst x; rw [if_pos rfl]; refine obj_congr hc ?_; unfold MvO; simp [updL_at]
    · rw [if_neg (by omega)]; exact ⟨fun _ _ => rfl, by rw [updL_at, if_neg (by omega)], by rw [updL_at, if_neg (by omega)]⟩) (fun m' hm' => by rw [if_neg (by omega)]; exact fun _ _ => rfl)
theorem StC.put_targets {m : Nat} {v : Int64} (hm : m < 24) (h : StC D cs q e g H) (hc : va_at D vwCl (q + 11 + 2 * m, .inr (2, (MvO q e g m).set 6 (.long v))) H1) (hU : Same1 (q + 11 + 2 * m) H H1) : StC D cs q e (vp_updL g (2 * m + 1) v) H1 :=
  h.put hU (by rw [if_neg (by omega)]; exact fun _ _ => rfl) (by rw [if_neg (by omega)]; exact fun _ _ => rfl) (by omega) (by omega) (by rw [if_neg (by omega)]; exact fun _ _ => rfl) (fun r' hr' => by rw [if_neg (by omega)]; exact fun _ _ => rfl) (fun m' hm' => by
    by_cases x : m' = m
    · subst x; rw [if_pos rfl]; refine obj_congr hc ?_; unfold MvO; simp [updL_at]
    · rw [if_neg (by omega)]; exact ⟨fun _ _ => rfl, by rw [updL_at, if_neg (by omega)], by rw [updL_at, if_neg (by omega)]⟩) (fun m' hm' => by rw [if_neg (by omega)]; exact fun _ _ => rfl)
theorem StC.put_taken {m i : Nat} {v : Int32} (hm : m < 24) (hi : i < 16) (h : StC D cs q e g H) (hc : va_at D vwCl (q + 12 + 2 * m, .inl (cs 0, 16, .inl (upd (fun j => e (320 + 16 * m + j)) i v))) H1) (hU : Same1 (q + 12 + 2 * m) H H1) : StC D cs q (upd e (320 + 16 * m + i) v) g H1 :=
  h.put hU (by rw [if_neg (by omega)]; exact fun j hj => by rw [upd_at, if_neg (by omega)]) (by rw [if_neg (by omega)]; exact fun j hj => by rw [upd_at, if_neg (by omega)]) (by omega) (by omega) (by rw [if_neg (by omega)]; exact fun j hj => by rw [upd_at, if_neg (by omega)]) (fun r' hr' => by rw [if_neg (by omega)]; exact fun pt hp => by rw [upd_at, if_neg (by omega)]) (fun m' hm' => by rw [if_neg (by omega)]; exact ⟨fun pt hp => by rw [upd_at, if_neg (by omega)], rfl, rfl⟩) (fun m' hm' => by
    by_cases y : m' = m
    · subst y; rw [if_pos rfl]; exact at_congr hc (fun j hj => upd_shift)
    · rw [if_neg (by omega)]; exact fun j hj => by rw [upd_at, if_neg (by omega)])
end STW
