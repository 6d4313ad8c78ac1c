/-! what is asked, what is answered -/
abbrev t0 (z : Nat → Int32) : Nat → Int32 := upd z 4403 (nI 0)
def wpt (z : Nat → Int32) (x y : Int32) : Nat := if lsB x (Rn z) = false then 1 else if wiB y (nI 0) (nI 50) = true then 0 else 2
def cwN (x : Int32) : Nat := if wiB x (nI 0) (nI 47) = true then 0 else 1
def mwN (z : Nat → Int32) (x : Int32) : Nat := if lsB x (Mn z) = true then 0 else 1
def rwN (z : Nat → Int32) (x y : Int32) : Nat := if lsB x (Rn z) = false then 1 else if wiB y (nI 0) (nI 7) = true then 0 else 2
def owN (z : Nat → Int32) (x y : Int32) : Nat := if lsB x (Mn z) = false then 1 else if wiB y (nI 0) (nI 9) = true then 0 else 2
def hwN (z : Nat → Int32) (x y : Int32) : Nat := if lsB x (Mn z) = false then 1 else if 0 ≤ y then 0 else 2
def wwN (x : Int32) : Nat := if wiB x (nI 0) (nI 14) = true then 0 else 1
def twN (z : Nat → Int32) (x : Int32) : Nat := if wiB x (nI 0) (nI 127) = false then 1 else if Tl z = 150 then 2 else 0
def uwN (z : Nat → Int32) : Nat := if 0 < Sv z then 0 else 1
theorem wpt_2 (z : Nat → Int32) (x y : Int32) : wpt z x y ≤ 3 := by unfold wpt; repeat (first | omega | split)
theorem cwN_2 (x : Int32) : cwN x ≤ 3 := by unfold cwN; repeat (first | omega | split)
theorem mwN_2 (z : Nat → Int32) (x : Int32) : mwN z x ≤ 3 := by unfold mwN; repeat (first | omega | split)
theorem rwN_2 (z : Nat → Int32) (x y : Int32) : rwN z x y ≤ 3 := by unfold rwN; repeat (first | omega | split)
theorem owN_2 (z : Nat → Int32) (x y : Int32) : owN z x y ≤ 3 := by unfold owN; repeat (first | omega | split)
theorem hwN_2 (z : Nat → Int32) (x y : Int32) : hwN z x y ≤ 3 := by unfold hwN; repeat (first | omega | split)
theorem wwN_2 (x : Int32) : wwN x ≤ 3 := by unfold wwN; repeat (first | omega | split)
theorem twN_2 (z : Nat → Int32) (x : Int32) : twN z x ≤ 3 := by unfold twN; repeat (first | omega | split)
theorem uwN_2 (z : Nat → Int32) : uwN z ≤ 3 := by unfold uwN; repeat (first | omega | split)
theorem cwN_0 {x : Int32} (h : cwN x = 0) : ∃ q, q < 48 ∧ x = nI q := by
  unfold cwN at h; split at h
  · exact cell_of (by assumption)
  · omega
theorem mwN_0 {z : Nat → Int32} {x : Int32} (hI : Inv z) (h : mwN z x = 0) : ∃ q, q < Mn z ∧ x = nI q := by
  have := hI.M24
  unfold mwN at h; split at h
  · exact (lsB_iff (x := x) (n := Mn z) (by omega)).mp (by assumption)
  · omega
theorem bt_of {b : Bool} (h : ¬ b = false) : b = true := by cases b <;> simp_all
theorem rwN_0 {z : Nat → Int32} {x y : Int32} (hI : Inv z) (h : rwN z x y = 0) : ∃ r w, r < Rn z ∧ w < 8 ∧ x = nI r ∧ y = nI w := by
  have := hI.R6
  unfold rwN at h; split at h
  · omega
  · rename_i h1
    split at h
    · rename_i h2
      obtain ⟨r, hr, e⟩ := (lsB_iff (x := x) (n := Rn z) (by omega)).mp (bt_of h1)
      obtain ⟨w, -, hw, e2⟩ := wi_nat (lo := 0) (hi := 7) (by decide) (by decide) h2
      exact ⟨r, w, hr, by omega, e, e2⟩
    · omega
theorem wpt_0 {z : Nat → Int32} {x y : Int32} (hI : Inv z) (h : wpt z x y = 0) : ∃ r, r < Rn z ∧ x = nI r := by
  have := hI.R6
  unfold wpt at h; split at h
  · omega
  · rename_i h1
    exact (lsB_iff (x := x) (n := Rn z) (by omega)).mp (bt_of h1)
theorem owN_0 {z : Nat → Int32} {x y : Int32} (hI : Inv z) (h : owN z x y = 0) : ∃ r w, r < Mn z ∧ w < 10 ∧ x = nI r ∧ y = nI w := by
  have := hI.M24
  unfold owN at h; split at h
  · omega
  · rename_i h1
    split at h
    · rename_i h2
      obtain ⟨r, hr, e⟩ := (lsB_iff (x := x) (n := Mn z) (by omega)).mp (bt_of h1)
      obtain ⟨w, -, hw, e2⟩ := wi_nat (lo := 0) (hi := 9) (by decide) (by decide) h2
      exact ⟨r, w, hr, by omega, e, e2⟩
    · omega
theorem hwN_0 {z : Nat → Int32} {x y : Int32} (hI : Inv z) (h : hwN z x y = 0) : ∃ r w, r < Mn z ∧ w < 2 ^ 31 ∧ x = nI r ∧ y = nI w := by
  have := hI.M24
  unfold hwN at h; split at h
  · omega
  · rename_i h1
    split at h
    · rename_i h2
      obtain ⟨r, hr, e⟩ := (lsB_iff (x := x) (n := Mn z) (by omega)).mp (bt_of h1)
      obtain ⟨w, hw, e2⟩ := nI_of (x := y) (by rw [i_nlt]; exact h2)
      exact ⟨r, w, hr, hw, e, e2⟩
    · omega
theorem wwN_0 {x : Int32} (h : wwN x = 0) : ∃ w, w < 15 ∧ x = nI w := by
  unfold wwN at h; split at h
  · rename_i h2
    obtain ⟨w, -, hw, e2⟩ := wi_nat (lo := 0) (hi := 14) (by decide) (by decide) h2
    exact ⟨w, by omega, e2⟩
  · omega
def hsI (y : Nat → Int32) (q k : Nat) : Int32 := if k < hgN y q then y (320 + 16 * q + mW y q + k) else -1000
theorem hgN_le (y : Nat → Int32) (q : Nat) : hgN y q ≤ mC y q - mW y q := by unfold hgN; split <;> omega
def kpt (z : Nat → Int32) : Nat → Int32 := cpZ (t0 z) 0 704
theorem kpt_lo (z : Nat → Int32) {j : Nat} (h : j < 704) : kpt z j = z j := by
  show cpZ (t0 z) 0 704 j = z j
  rw [cpZ_at, if_neg (by omega)]
  exact if_neg (by omega)
theorem kpt_inv {z : Nat → Int32} (hI : Inv z) : Inv (kpt z) := st_inv hI (fun j h => kpt_lo z h)
def ciP (z : Nat → Int32) (q k : Nat) : Bool := decide (2 ≤ mS (psF (kpt z) k) q)
def ciK (z : Nat → Int32) (q : Nat) : Nat := firstN 300 (ciP z q)
def ciI (z : Nat → Int32) (q : Nat) : Int32 := if mS (psF (kpt z) (ciK z q)) q < 2 then -1000 else nI (ciK z q)
def skB (z : Nat → Int32) : Bool := !decide (msN (t0 z) 0 = 0) && decide (msN (t0 z) 1 = 0)
def skI (z : Nat → Int32) : Nat := if skB z = true then (if msN (psF (kpt z) 60) 0 = msN (t0 z) 0 then 1 else 0) else 0
def csK (z : Nat → Int32) (t : Bool) (m k : Nat) : Nat := foldN k (fun i b => b ||| 2 ^ (if t = true then tgtC z m i else srcC z m i)) 0
def csN (z : Nat → Int32) (t : Bool) (m : Nat) : Nat := csK z t m (mC z m)
def swN (y : Nat → Int32) : Nat := firstN (Mn y) (fun m => !decide (mS y m = 3))
/-- moves up to k stand g places ahead -/
def swK (y : Nat → Int32) (g k : Nat) : Nat → Int32 := fun j => if 80 ≤ j ∧ j < 80 + 10 * (k - g) then y (j + 10 * g) else if 320 ≤ j ∧ j < 320 + 16 * (k - g) then y (j + 16 * g) else y j
/-- and of the move k so many parts, so many taken values -/
def swP (y : Nat → Int32) (g k p t : Nat) : Nat → Int32 := fun j => if 80 ≤ j ∧ j < 80 + 10 * (k - g) + p then y (j + 10 * g) else if 320 ≤ j ∧ j < 320 + 16 * (k - g) + t then y (j + 16 * g) else y j
theorem swP_0 (y : Nat → Int32) (g k : Nat) : swP y g k 0 0 = swK y g k := rfl
theorem swP_p (y : Nat → Int32) {g k p : Nat} (hg : g ≤ k) (hk : k < 24) (hp : p < 10) : upd (swP y g k p 0) (80 + 10 * (k - g) + p) (y (80 + 10 * k + p)) = swP y g k (p + 1) 0 := by
  funext j
  rw [upd_at]; unfold swP
  by_cases e : j = 80 + 10 * (k - g) + p
  · rw [if_pos e, if_pos (by omega)]; exact congrArg y (by omega)
  · rw [if_neg e]
    by_cases e2 : 80 ≤ j ∧ j < 80 + 10 * (k - g) + p
    · rw [if_pos e2, if_pos (by omega)]
    · rw [if_neg e2, if_neg (show ¬ (80 ≤ j ∧ j < 80 + 10 * (k - g) + (p + 1)) by omega)]
theorem swP_t (y : Nat → Int32) {g k t : Nat} (hg : g ≤ k) (hk : k < 24) (ht : t < 16) : upd (swP y g k 10 t) (320 + 16 * (k - g) + t) (y (320 + 16 * k + t)) = swP y g k 10 (t + 1) := by
  funext j
  rw [upd_at]; unfold swP
  by_cases e : j = 320 + 16 * (k - g) + t
  · rw [if_pos e, if_neg (by omega), if_pos (by omega)]; exact congrArg y (by omega)
  · rw [if_neg e]
    by_cases e2 : 80 ≤ j ∧ j < 80 + 10 * (k - g) + 10
    · rw [if_pos e2, if_pos e2]
    · rw [if_neg e2, if_neg e2]
      by_cases e3 : 320 ≤ j ∧ j < 320 + 16 * (k - g) + t
      · rw [if_pos e3, if_pos (by omega)]
      · rw [if_neg e3, if_neg (show ¬ (320 ≤ j ∧ j < 320 + 16 * (k - g) + (t + 1)) by omega)]
theorem swP_e (y : Nat → Int32) {g k : Nat} (hg : g ≤ k) : swP y g k 10 16 = swK y g (k + 1) := by
  funext j
  unfold swP swK
  rw [show 80 + 10 * (k - g) + 10 = 80 + 10 * (k + 1 - g) by omega, show 320 + 16 * (k - g) + 16 = 320 + 16 * (k + 1 - g) by omega]
theorem swK_g (y : Nat → Int32) (g : Nat) : swK y g g = y := by
  funext j; unfold swK; rw [if_neg (by omega), if_neg (by omega)]
theorem swP_src (y : Nat → Int32) {g k p q t : Nat} (hg : g ≤ k) (hk : k < 24) (hp : p ≤ q) (hq : q < 10) : swP y g k p t (80 + 10 * k + q) = y (80 + 10 * k + q) := by
  unfold swP
  by_cases h : g = 0
  · subst h
    by_cases e : 80 ≤ 80 + 10 * k + q ∧ 80 + 10 * k + q < 80 + 10 * (k - 0) + p
    · rw [if_pos e]; exact congrArg y (by omega)
    · rw [if_neg e, if_neg (by omega)]
  · rw [if_neg (by omega), if_neg (by omega)]
theorem swP_srct (y : Nat → Int32) {g k t q : Nat} (hg : g ≤ k) (hk : k < 24) (ht : t ≤ q) (hq : q < 16) : swP y g k 10 t (320 + 16 * k + q) = y (320 + 16 * k + q) := by
  unfold swP
  rw [if_neg (by omega)]
  by_cases h : g = 0
  · subst h
    by_cases e : 320 ≤ 320 + 16 * k + q ∧ 320 + 16 * k + q < 320 + 16 * (k - 0) + t
    · rw [if_pos e]; exact congrArg y (by omega)
    · rw [if_neg e]
  · rw [if_neg (by omega)]
theorem swK_lo (y : Nat → Int32) (g k : Nat) {j : Nat} (h : j < 80) : swK y g k j = y j := by unfold swK; rw [if_neg (by omega), if_neg (by omega)]
theorem swP_lo (y : Nat → Int32) (g k p t : Nat) {j : Nat} (h : j < 80) : swP y g k p t j = y j := by unfold swP; rw [if_neg (by omega), if_neg (by omega)]
def swF (y : Nat → Int32) : Nat → Int32 := upd (upd (swK y (swN y) (Mn y)) 4 (nI (Mn y - swN y))) 7 (y 7 + nI (swN y))
def tyF (z : Nat → Int32) (x : Int32) : Nat → Int32 := upd (upd (t0 z) (4224 + Tl z) x) 4405 (nI (Tl z + 1))
def udF (z : Nat → Int32) : Nat → Int32 := cpZ (upd (t0 z) 4404 (nI (Sv z - 1))) (1408 + (Sv z - 1) * 704) 0
theorem ci_is {z : Nat → Int32} {q k : Nat} (h : ∀ j, j < k → ciP z q j = false) (h2 : k = 300 ∨ ciP z q k = true) (hk : k ≤ 300) : ciK z q = k := by
  unfold ciK
  rcases h2 with e | e
  · subst e; exact firstN_none h
  · rcases Nat.lt_or_ge k 300 with l | l
    · exact firstN_is h l e
    · have : k = 300 := by omega
      subst this; exact firstN_none h
theorem sw_is {y : Nat → Int32} {g : Nat} (h : ∀ j, j < g → mS y j = 3) (h2 : g = Mn y ∨ ¬ mS y g = 3) (hg : g ≤ Mn y) : swN y = g := by
  unfold swN
  rcases Nat.lt_or_ge g (Mn y) with l | l
  · rcases h2 with e | e
    · omega
    · exact firstN_is (fun j hj => by simp [h j hj]) l (by simp [e])
  · have : g = Mn y := by omega
    rw [firstN_none (fun j hj => by simp [h j (by omega)])]; omega
theorem tw_lt {z : Nat → Int32} {x : Int32} (hZ : InvZ z) (h : twN z x = 0) : Tl z < 150 := by
  have := hZ.2.2.2.2
  unfold twN at h; split at h
  · omega
  · split at h <;> omega
theorem uw_lt {z : Nat → Int32} (h : uwN z = 0) : 0 < Sv z := by
  unfold uwN at h; split at h <;> omega
theorem t0_at (z : Nat → Int32) {j : Nat} (h : j ≠ 4403) : t0 z j = z j := if_neg h
