/-! counting the bits of a long byte by byte -/
def repB (m : Nat) : Nat → Nat
  | 0 => 0
  | k + 1 => m + 256 * repB m k
def mapB (f : Nat → Nat) : Nat → Nat → Nat
  | 0, _ => 0
  | k + 1, x => f (x % 256) + 256 * mapB f k (x / 256)
theorem and_byte {a m : Nat} (ha : a < 256) (hm : m < 256) (y n : Nat) : (a + 256 * y) &&& (m + 256 * n) = (a &&& m) + 256 * (y &&& n) := by
  have h1 : ((a + 256 * y) &&& (m + 256 * n)) % 2 ^ 8 = a &&& m := by
    rw [Nat.and_mod_two_pow, show (a + 256 * y) % 2 ^ 8 = a by omega, show (m + 256 * n) % 2 ^ 8 = m by omega]
  have h2 : ((a + 256 * y) &&& (m + 256 * n)) / 2 ^ 8 = y &&& n := by
    rw [Nat.and_div_two_pow, show (a + 256 * y) / 2 ^ 8 = y by omega, show (m + 256 * n) / 2 ^ 8 = n by omega]
  omega
def bf1 (a : Nat) : Nat := a - (a / 2 &&& 85)
def bf2 (a : Nat) : Nat := (a &&& 51) + (a / 4 &&& 51)
def bf3 (a : Nat) : Nat := (a + a / 16) &&& 15
theorem b1_d : ∀ a, a < 256 → ∀ t, t < 2 → (a / 2 + 128 * t) &&& 85 = a / 2 &&& 85 := by decide +kernel
theorem b2_d : ∀ a, a < 256 → ∀ t, t < 4 → (a / 4 + 64 * t) &&& 51 = a / 4 &&& 51 := by decide +kernel
theorem b12_d : ∀ a, a < 256 → bf1 a < 256 ∧ bf2 (bf1 a) ≤ 68 ∧ bf2 (bf1 a) % 16 ≤ 4 := by decide +kernel
theorem b3_d : ∀ a, a < 69 → ∀ t, t < 5 → (a + a / 16 + 16 * t) &&& 15 = bf3 a ∧ a + a / 16 + 16 * t < 256 := by decide +kernel
theorem bit1 : ∀ (k x : Nat), x < 256 ^ k → x - (x / 2 &&& repB 85 k) = mapB bf1 k x
  | 0, x, h => by
    have : x = 0 := by simpa using h
    subst this; rfl
  | k + 1, x, h => by
    have hy : x / 256 < 256 ^ k := by rw [Nat.pow_succ] at h; omega
    have ih := bit1 k (x / 256) hy
    have e : x / 2 = (x % 256 / 2 + 128 * (x / 256 % 2)) + 256 * (x / 256 / 2) := by omega
    have ea := and_byte (a := x % 256 / 2 + 128 * (x / 256 % 2)) (m := 85) (by omega) (by decide) (x / 256 / 2) (repB 85 k)
    rw [b1_d (x % 256) (by omega) (x / 256 % 2) (by omega), ← e] at ea
    show x - (x / 2 &&& (85 + 256 * repB 85 k)) = bf1 (x % 256) + 256 * mapB bf1 k (x / 256)
    rw [ea, ← ih]
    have h1 : (x % 256 / 2 &&& 85) ≤ x % 256 / 2 := Nat.and_le_left
    have h2 : (x / 256 / 2 &&& repB 85 k) ≤ x / 256 / 2 := Nat.and_le_left
    unfold bf1
    omega
theorem bit2 : ∀ (k x : Nat), x < 256 ^ k → (x &&& repB 51 k) + (x / 4 &&& repB 51 k) = mapB bf2 k x
  | 0, x, h => by
    have : x = 0 := by simpa using h
    subst this; rfl
  | k + 1, x, h => by
    have hy : x / 256 < 256 ^ k := by rw [Nat.pow_succ] at h; omega
    have ih := bit2 k (x / 256) hy
    have e : x / 4 = (x % 256 / 4 + 64 * (x / 256 % 4)) + 256 * (x / 256 / 4) := by omega
    have ea := and_byte (a := x % 256 / 4 + 64 * (x / 256 % 4)) (m := 51) (by omega) (by decide) (x / 256 / 4) (repB 51 k)
    rw [b2_d (x % 256) (by omega) (x / 256 % 4) (by omega), ← e] at ea
    have eb := and_byte (a := x % 256) (m := 51) (by omega) (by decide) (x / 256) (repB 51 k)
    rw [show x % 256 + 256 * (x / 256) = x by omega] at eb
    show (x &&& (51 + 256 * repB 51 k)) + (x / 4 &&& (51 + 256 * repB 51 k)) = bf2 (x % 256) + 256 * mapB bf2 k (x / 256)
    rw [ea, eb, ← ih]
    unfold bf2
    omega
theorem map_lt {f : Nat → Nat} (hf : ∀ a, a < 256 → f a < 256) : ∀ k x, mapB f k x < 256 ^ k
  | 0, x => (by decide : 0 < 256 ^ 0)
  | k + 1, x => by
    have ih := map_lt hf k (x / 256)
    have h1 := hf (x % 256) (by omega)
    show f (x % 256) + 256 * mapB f k (x / 256) < 256 ^ (k + 1)
    rw [Nat.pow_succ]; omega
theorem map_map {f g : Nat → Nat} (hf : ∀ a, a < 256 → f a < 256) : ∀ k x, mapB g k (mapB f k x) = mapB (fun a => g (f a)) k x
  | 0, x => rfl
  | k + 1, x => by
    have h1 := hf (x % 256) (by omega)
    show g ((f (x % 256) + 256 * mapB f k (x / 256)) % 256) + 256 * mapB g k ((f (x % 256) + 256 * mapB f k (x / 256)) / 256) = _
    rw [show (f (x % 256) + 256 * mapB f k (x / 256)) % 256 = f (x % 256) by omega, show (f (x % 256) + 256 * mapB f k (x / 256)) / 256 = mapB f k (x / 256) by omega, map_map hf k]
    rfl
theorem bit3 {g : Nat → Nat} (hg : ∀ a, a < 256 → g a ≤ 68 ∧ g a % 16 ≤ 4) : ∀ k z, (mapB g k z + mapB g k z / 16 &&& repB 15 k) = mapB (fun a => bf3 (g a)) k z
  | 0, z => (by decide : (0 + 0 / 16 &&& 0) = 0)
  | k + 1, z => by
    have ih := bit3 hg k (z / 256)
    have h1 := hg (z % 256) (by omega)
    have h2 : mapB g k (z / 256) % 16 ≤ 4 := by
      cases k with
      | zero => exact Nat.zero_le 4
      | succ k =>
        have := hg (z / 256 % 256) (by omega)
        show (g (z / 256 % 256) + 256 * mapB g k (z / 256 / 256)) % 16 ≤ 4
        omega
    have hd := b3_d (g (z % 256)) (by omega) (mapB g k (z / 256) % 16) (by omega)
    show ((g (z % 256) + 256 * mapB g k (z / 256)) + (g (z % 256) + 256 * mapB g k (z / 256)) / 16 &&& (15 + 256 * repB 15 k)) = bf3 (g (z % 256)) + 256 * mapB (fun a => bf3 (g a)) k (z / 256)
    rw [show (g (z % 256) + 256 * mapB g k (z / 256)) + (g (z % 256) + 256 * mapB g k (z / 256)) / 16 = (g (z % 256) + g (z % 256) / 16 + 16 * (mapB g k (z / 256) % 16)) + 256 * (mapB g k (z / 256) + mapB g k (z / 256) / 16) by omega,
      and_byte hd.2 (by decide), hd.1, ih]
theorem cnt_d : ∀ a, a < 256 → bf3 (bf2 (bf1 a)) = ppK a 8 ∧ ppK a 8 ≤ 8 := by decide +kernel
theorem bit_all {z : Nat} (hz : z < 2 ^ 48) : (let x := z - (z / 2 &&& repB 85 8); let y := (x &&& repB 51 8) + (x / 4 &&& repB 51 8); (y + y / 16 &&& repB 15 8)) = mapB (fun a => bf3 (bf2 (bf1 a))) 8 z := by
  have h8 : z < 256 ^ 8 := by omega
  show ((((z - (z / 2 &&& repB 85 8)) &&& repB 51 8) + ((z - (z / 2 &&& repB 85 8)) / 4 &&& repB 51 8)) + (((z - (z / 2 &&& repB 85 8)) &&& repB 51 8) + ((z - (z / 2 &&& repB 85 8)) / 4 &&& repB 51 8)) / 16 &&& repB 15 8) = _
  rw [bit1 8 z h8, bit2 8 _ (map_lt (fun a ha => (b12_d a ha).1) 8 z), map_map (fun a ha => (b12_d a ha).1)]
  exact bit3 (fun a ha => (b12_d a ha).2) 8 z
theorem pp_byte (z : Nat) : ppK z 8 = ppK (z % 256) 8 := by
  have h : ∀ q, q < 8 → z % 256 / 2 ^ q % 2 = z / 2 ^ q % 2 := fun q hq => by
    have : q = 0 ∨ q = 1 ∨ q = 2 ∨ q = 3 ∨ q = 4 ∨ q = 5 ∨ q = 6 ∨ q = 7 := by omega
    rcases this with rfl | rfl | rfl | rfl | rfl | rfl | rfl | rfl <;> omega
  have : ∀ k, k ≤ 8 → ppK z k = ppK (z % 256) k := fun k => by
    induction k with
    | zero => intro _; rfl
    | succ k ih => intro hk; rw [ppK_s, ppK_s, ih (by omega), h k (by omega)]
  exact this 8 (Nat.le_refl 8)
theorem pp_add (z : Nat) : ∀ k, ppK z (8 + k) = ppK (z % 256) 8 + ppK (z / 256) k
  | 0 => pp_byte z
  | k + 1 => by
    rw [show 8 + (k + 1) = (8 + k) + 1 by omega, ppK_s, pp_add z k, ppK_s (z / 256) k, Nat.pow_add, ← Nat.div_div_eq_div_mul, Nat.add_assoc]
theorem pp_48 (z : Nat) : ppK z 48 = ppK (z % 256) 8 + (ppK (z / 256 % 256) 8 + (ppK (z / 256 / 256 % 256) 8 + (ppK (z / 256 / 256 / 256 % 256) 8 + (ppK (z / 256 / 256 / 256 / 256 % 256) 8 + ppK (z / 256 / 256 / 256 / 256 / 256 % 256) 8)))) := by
  rw [show 48 = 8 + 40 from rfl, pp_add, show 40 = 8 + 32 from rfl, pp_add, show 32 = 8 + 24 from rfl, pp_add, show 24 = 8 + 16 from rfl, pp_add, show 16 = 8 + 8 from rfl, pp_add, pp_byte (z / 256 / 256 / 256 / 256 / 256)]
theorem fold_6 {c0 c1 c2 c3 c4 c5 : Nat} (h0 : c0 ≤ 8) (h1 : c1 ≤ 8) (h2 : c2 ≤ 8) (h3 : c3 ≤ 8) (h4 : c4 ≤ 8) (h5 : c5 ≤ 8) {x y u w : Nat} (hx : x = c0 + 256 * (c1 + 256 * (c2 + 256 * (c3 + 256 * (c4 + 256 * c5)))))
    (hy : y = x + x / 256) (hu : u = y + y / 65536) (hw : w = u + u / 4294967296) : w % 128 = c0 + (c1 + (c2 + (c3 + (c4 + c5)))) ∧ w < 2 ^ 60 := by
  have e1 : x / 256 = c1 + 256 * (c2 + 256 * (c3 + 256 * (c4 + 256 * c5))) := by omega
  have e2 : y / 65536 = c2 + c3 + 256 * (c3 + c4) + 65536 * (c4 + c5) + 16777216 * c5 := by omega
  have e3 : u / 4294967296 = c4 + c5 + 256 * c5 := by omega
  omega
theorem map_6 {f : Nat → Nat} (h0 : f 0 = 0) {z : Nat} (hz : z < 2 ^ 48) : mapB f 8 z = f (z % 256) + 256 * (f (z / 256 % 256) + 256 * (f (z / 256 / 256 % 256) + 256 * (f (z / 256 / 256 / 256 % 256) + 256 * (f (z / 256 / 256 / 256 / 256 % 256) + 256 * f (z / 256 / 256 / 256 / 256 / 256 % 256))))) := by
  simp only [mapB]
  rw [show z / 256 / 256 / 256 / 256 / 256 / 256 = 0 by omega]
  simp [h0]
/-- the count as the machine makes it -/
def popN (z : Nat) : Nat :=
  let x := z - (z / 2 ^ 1 &&& 6148914691236517205)
  let y := (x &&& 3689348814741910323) + (x / 2 ^ 2 &&& 3689348814741910323)
  let v := (y + y / 2 ^ 4) &&& 1085102592571150095
  let a := v + v / 2 ^ 8
  let b := a + a / 2 ^ 16
  b + b / 2 ^ 32
theorem popN_is {z : Nat} (hz : z < 2 ^ 48) : popN z &&& 127 = ppK z 48 ∧ popN z < 2 ^ 60 := by
  have e := bit_all hz
  have hc : ∀ a, a < 256 → (fun a => bf3 (bf2 (bf1 a))) a = ppK a 8 := fun a ha => (cnt_d a ha).1
  rw [map_6 (by decide) hz] at e
  have h : ∀ a, (fun a => bf3 (bf2 (bf1 a))) (a % 256) = ppK (a % 256) 8 := fun a => hc _ (Nat.mod_lt _ (by decide))
  simp only [h] at e
  have hl : ∀ a, ppK (a % 256) 8 ≤ 8 := fun a => (cnt_d _ (Nat.mod_lt _ (by decide))).2
  have hf := fold_6 (hl z) (hl (z / 256)) (hl (z / 256 / 256)) (hl (z / 256 / 256 / 256)) (hl (z / 256 / 256 / 256 / 256)) (hl (z / 256 / 256 / 256 / 256 / 256)) e rfl rfl rfl
  rw [pp_48, show (127 : Nat) = 2 ^ 7 - 1 from rfl, Nat.and_two_pow_sub_one_eq_mod]
  exact hf
/-! longs that are naturals: sums, differences, shifts without a sign -/
theorem lM_add (a b : Nat) : lN a + lN b = lN (a + b) := by
  apply Int64.toBitVec_inj.1
  show BitVec.ofNat 64 a + BitVec.ofNat 64 b = BitVec.ofNat 64 (a + b)
  rw [BitVec.ofNat_add]
theorem lM_sub {a b : Nat} (h : b ≤ a) : lN a - lN b = lN (a - b) := by
  have e : lN (a - b) + lN b = lN a := by rw [lM_add, Nat.sub_add_cancel h]
  rw [← e]
  apply Int64.toBitVec_inj.1
  show (lN (a - b)).toBitVec + (lN b).toBitVec - (lN b).toBitVec = (lN (a - b)).toBitVec
  exact BitVec.add_sub_cancel _ _
theorem lN_us : ∀ k, k < 63 → (((nI k).toInt64.toUInt64 &&& Int64.toUInt64 63).toBitVec.toNat % 64 = k) := by decide +kernel
theorem lN_ushr {a k : Nat} (ha : a < 2 ^ 62) (hk : k < 63) : ((lN a).toUInt64 >>> ((nI k).toInt64.toUInt64 &&& Int64.toUInt64 63)).toInt64 = lN (a / 2 ^ k) := by
  apply Int64.toBitVec_inj.1
  show ((BitVec.ofNat 64 a) >>> (((nI k).toInt64.toUInt64 &&& Int64.toUInt64 63).toBitVec % 64)) = BitVec.ofNat 64 (a / 2 ^ k)
  have h9 := lN_us k hk
  apply BitVec.eq_of_toNat_eq
  have hd : a / 2 ^ k ≤ a := Nat.div_le_self _ _
  rw [BitVec.ushiftRight_eq', BitVec.toNat_ushiftRight, BitVec.toNat_umod, BitVec.toNat_ofNat, BitVec.toNat_ofNat, show (64 : BitVec 64).toNat = 64 from rfl, h9, Nat.mod_eq_of_lt (show a < 2 ^ 64 by omega), Nat.mod_eq_of_lt (by omega), Nat.shiftRight_eq_div_pow]
theorem lN_i32 (a : Nat) : (lN a).toInt32 = nI a := by
  apply Int32.toBitVec_inj.1
  show (BitVec.ofNat 64 a).signExtend 32 = BitVec.ofNat 32 a
  rw [BitVec.signExtend_eq_setWidth_of_le _ (by decide)]
  apply BitVec.eq_of_toNat_eq
  rw [BitVec.toNat_setWidth, BitVec.toNat_ofNat, BitVec.toNat_ofNat]
  omega
section KL2
variable {p : Program} {l : Launch} {e : Env} {R : Room} {s : State} {m : MethodId} {args : Array Value} {below : List Frame} {meth : Method} {c : Code} {H : Heap} {locs : List Loc} {cells slots : Nat} {Q : State → Prop} {cc : ByteArray} {pc : Nat} {ls : Array Slot} {rest : List Value}
theorem kl_add (hexec : p.tables.exec = Jvm.exec) (hb : c.code = cc) {i j : Nat} (hdg : decode cc pc = .ok (.ladd, 1)) (k : W p l e R s m args below meth c H locs cells slots Q (F0 m (pc + 1) ls (.long (lN (i + j)) :: rest))) : W p l e R s m args below meth c H locs cells slots Q (F0 m pc ls (.long (lN j) :: .long (lN i) :: rest)) := lv_ladd hexec hb hdg (by rw [lM_add]; exact k)
theorem kl_sub (hexec : p.tables.exec = Jvm.exec) (hb : c.code = cc) {i j : Nat} (hj : j ≤ i) (hdg : decode cc pc = .ok (.lsub, 1)) (k : W p l e R s m args below meth c H locs cells slots Q (F0 m (pc + 1) ls (.long (lN (i - j)) :: rest))) : W p l e R s m args below meth c H locs cells slots Q (F0 m pc ls (.long (lN j) :: .long (lN i) :: rest)) := lv_lsub hexec hb hdg (by rw [lM_sub hj]; exact k)
theorem kl_ushr (hexec : p.tables.exec = Jvm.exec) (hb : c.code = cc) {i j : Nat} (hi : i < 2 ^ 62) (hj : j < 63) (hdg : decode cc pc = .ok (.lushr, 1)) (k : W p l e R s m args below meth c H locs cells slots Q (F0 m (pc + 1) ls (.long (lN (i / 2 ^ j)) :: rest))) : W p l e R s m args below meth c H locs cells slots Q (F0 m pc ls (.int (nI j) :: .long (lN i) :: rest)) := lv_lushr hexec hb hdg (lN_ushr hi hj) k
theorem kl_l2i (hexec : p.tables.exec = Jvm.exec) (hb : c.code = cc) {i : Nat} (hdg : decode cc pc = .ok (.l2i, 1)) (k : W p l e R s m args below meth c H locs cells slots Q (F0 m (pc + 1) ls (.int (nI i) :: rest))) : W p l e R s m args below meth c H locs cells slots Q (F0 m pc ls (.long (lN i) :: rest)) := lv_l2i hexec hb hdg (lN_i32 i) k
end KL2
