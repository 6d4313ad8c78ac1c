/-! depths as the law finds them; rows for methods that make arrays -/
def dtF (z : Nat → Int32) (k : Nat) : Nat → Int32 := fun j => nI (dpT z k j)
def dwF (z : Nat → Int32) (k e : Nat) : Nat → Int32 := fun j => if j = k then nI (dpV z (dpT z k) k e) else nI (dpT z k j)
theorem dpT_hi (z : Nat → Int32) : ∀ (k j : Nat), k ≤ j → dpT z k j = 0
  | 0, _, _ => rfl
  | k + 1, j, h => by
    show (if j = k then dpV z (dpT z k) k k else dpT z k j) = 0
    rw [if_neg (by omega)]; exact dpT_hi z k j (by omega)
theorem dpV_0 (z : Nat → Int32) (t : Nat → Nat) (m : Nat) : dpV z t m 0 = 0 := rfl
theorem dt_0 (z : Nat → Int32) : dtF z 0 = fun _ => 0 := rfl
theorem dw_0 (z : Nat → Int32) (k : Nat) : dwF z k 0 = dtF z k := by
  funext j; unfold dwF dtF
  by_cases q : j = k
  · rw [if_pos q, dpV_0, q, dpT_hi z k k (Nat.le_refl k)]
  · rw [if_neg q]
theorem dw_end (z : Nat → Int32) (k : Nat) : dwF z k k = dtF z (k + 1) := by
  funext j; unfold dwF dtF
  show _ = nI (if j = k then dpV z (dpT z k) k k else dpT z k j)
  split <;> rfl
theorem dw_lo (z : Nat → Int32) {k e j : Nat} (h : j < k) : dwF z k e j = nI (dpT z k j) := by unfold dwF; rw [if_neg (by omega)]
theorem dw_at (z : Nat → Int32) (k e : Nat) : dwF z k e k = nI (dpV z (dpT z k) k e) := by unfold dwF; rw [if_pos rfl]
theorem dw_up (z : Nat → Int32) {k e : Nat} (h : woN z k / 2 ^ e &&& 1 = 1) (h2 : dpV z (dpT z k) k e ≤ dpT z k e) : upd (dwF z k e) k (nI (dpT z k e + 1)) = dwF z k (e + 1) := by
  rw [Nat.and_one_is_mod] at h
  funext j; rw [upd_at]; unfold dwF
  by_cases q : j = k
  · rw [if_pos q, if_pos q, dpV_s, if_pos h, if_neg (by omega)]
  · rw [if_neg q, if_neg q, if_neg q]
theorem dw_no (z : Nat → Int32) {k e : Nat} (h : ¬ woN z k / 2 ^ e &&& 1 = 1 ∨ dpT z k e < dpV z (dpT z k) k e) : dwF z k (e + 1) = dwF z k e := by
  rw [Nat.and_one_is_mod] at h
  funext j; unfold dwF
  by_cases q : j = k
  · rw [if_pos q, if_pos q, dpV_s]
    by_cases b : woN z k / 2 ^ e % 2 = 1
    · rcases h with h | h
      · exact absurd b h
      · rw [if_pos b, if_pos (by omega)]
    · rw [if_neg b, if_pos (by omega)]
  · rw [if_neg q, if_neg q]
theorem dpT_lt (z : Nat → Int32) {k j : Nat} (h : j ≤ 24) : dpT z k j < 2 ^ 20 := Nat.lt_of_le_of_lt (dpT_le z k j) (by omega)
theorem dpV_lt (z : Nat → Int32) {k e : Nat} (h : e ≤ k) (hk : k ≤ 24) : dpV z (dpT z k) k e < 2 ^ 20 := by
  have h1 := dpV_le z (t := dpT z k) (m := k) (n := 30) e (fun j hj => Nat.lt_of_le_of_lt (dpT_le z k j) (by omega))
  omega
section ROWS9
variable {p : Program} {l : Launch} {e : Env} {R : Room} {s : State} {m : MethodId} {args : Array Value} {below : List Frame} {meth : Method} {c : Code} {H : Heap} {locs : List Loc} {cells slots : Nat} {Q : State → Prop}
variable {cc : ByteArray} {pc : Nat} {ls : Array Slot} {A : Nat → Prop}
theorem kx_cnt {c' s' : Nat} {g : JFrame} (hc : cells = c') (hs : slots = s') (k : W p l e R s m args below meth c H locs c' s' Q g) : W p l e R s m args below meth c H locs cells slots Q g := by
  subst hc; subst hs; exact k
theorem kx_zretN {P : Heap → Prop} {v : Int32} {b0 : Bool} (hexec : p.tables.exec = Jvm.exec) (hb : c.code = cc) (hr : meth.sig.returnType = some .boolean) (hlocks : meth.locks = false) (hv : v = bI b0) (hP : P H) (hS : va_S A s.heap H locs) {mc ms : Nat} (h1 : cells ≤ mc) (h2 : slots ≤ ms) (hdg : decode cc pc = .ok (.ireturn, 1)) : W p l e R s m args below meth c H locs cells slots (MQ below (QcM (some (.int (bI b0))) P A) args s mc ms A) (F0 m pc ls [.int v]) := by
  subst hv
  exact W.widen h1 h2 (W.zret hexec hb hr (bI_nar b0) (fun t ht _ => ⟨rfl, by rw [ht]; exact hP, hS.F ht⟩) hS.2.2 hdg hlocks)
end ROWS9
