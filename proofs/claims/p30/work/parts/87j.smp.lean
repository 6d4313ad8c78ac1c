/-! what the law compares, in plain words -/
def smF (e : Nat → Int32) (k : Nat) : Nat → Int32 := fun j => nI (msK e j k)
section SMP
variable {e y : Nat → Int32} {g : Nat → Int64} {k j : Nat}
theorem sm_0 (e : Nat → Int32) : smF e 0 = fun _ => 0 := rfl
theorem sm_s (e : Nat → Int32) (k : Nat) : upd (smF e k) (mS e k) (nI (msK e (mS e k) k + 1)) = smF e (k + 1) := by
  funext j; rw [upd_at]; unfold smF
  by_cases q : j = mS e k
  · rw [if_pos q, msK_s, q, if_pos rfl]
  · rw [if_neg q, msK_s, if_neg (fun h => q h.symm), Nat.add_zero]
theorem dcK_dcK (hI : Inv e) (hk : k < Mn e) : dcK (dcK e k) (k + 1) = dcK e (k + 1) := by
  have hE := dc_ei hI k
  funext i
  unfold dcK
  by_cases q : 704 ≤ i ∧ i < 704 + (k + 1)
  · rw [if_pos q, if_pos q]
    have h := ev_dpT hE (k + 1) (by omega)
    have h2 := congrFun h (i - 704)
    exact congrArg nI h2
  · rw [if_neg q, if_neg q, if_neg (fun h => q ⟨h.1, by omega⟩)]
theorem hx_is (hE : EI e y) (hk : k < Mn e) (hj : j < 2 ^ 31) : hxI y k (nI j) = hsI e k j := by
  unfold hxI
  rw [if_neg (kn_neg hj), nn_nI hj]
  exact ev_hs hE hk j
theorem hg_le (hI : Inv e) (hk : k < Mn e) (h : j < hgN e k) : mW e k + j < mC e k := by
  have hw := hI.wc hk
  unfold hgN at h
  by_cases q : mS e k = 1
  · rw [if_pos q] at h; omega
  · rw [if_neg q] at h; omega
theorem hg_16 (hI : Inv e) (hk : k < Mn e) : hgN e k ≤ 16 := by
  have h1 := hI.c16 hk
  unfold hgN; split <;> omega
theorem wv_st (y : Nat → Int32) (ln : Nat) (hj : j < 4) : (if 2 + j = 14 then nI ln else wvI y (2 + j)) = nI (msN y j) := by
  rw [if_neg (by omega)]
  unfold wvI
  rw [if_neg (by omega), if_neg (by omega), if_pos (by omega), show 2 + j - 2 = j by omega]
theorem wv_1 (y : Nat → Int32) (ln : Nat) : (if 1 = 14 then nI ln else wvI y 1) = nI (Mn y) := by
  rw [if_neg (by decide)]; unfold wvI; rw [if_neg (by decide), if_pos rfl]
theorem wv_8 (y : Nat → Int32) (ln : Nat) : (if 8 = 14 then nI ln else wvI y 8) = y 0 := by
  rw [if_neg (by decide)]; unfold wvI
  rw [if_neg (by decide), if_neg (by decide), if_neg (by decide), if_neg (by decide), if_neg (by decide), if_pos rfl]
theorem ev_hd (hE : EI e y) : hdN y = hdN e := by
  rw [hdN_is (ev_R hE), hdN_is hE.2]; exact ev_hc hE
theorem ev_rb (hE : EI e y) (x : Nat) : barN y x = rsC e x := (barN_is y x).trans (hE.1.rs hE.2 x)
theorem msK_24 (e : Nat → Int32) (s : Nat) (hk : k ≤ 24) : msK e s k < 2 ^ 20 := Nat.lt_of_le_of_lt (msK_le e s k) (by omega)
end SMP
