/-! numbers: Int against Int32 and Int64 -/
def in32 (z : Int) : Prop := -2147483648 ≤ z ∧ z < 2147483648
def in64 (z : Int) : Prop := -9223372036854775808 ≤ z ∧ z < 9223372036854775808
theorem w32_bmod (z : Int) : w32 z = z.bmod 4294967296 := by unfold w32 Int.bmod; dsimp only; split <;> omega
theorem w64_bmod (z : Int) : w64 z = z.bmod 18446744073709551616 := by unfold w64 Int.bmod; dsimp only; split <;> omega
theorem w32_in (z : Int) : in32 (w32 z) := by unfold w32 in32; omega
theorem w64_in (z : Int) : in64 (w64 z) := by unfold w64 in64; omega
theorem w32_id {z : Int} (h : in32 z) : w32 z = z := by unfold w32; unfold in32 at h; omega
theorem w64_id {z : Int} (h : in64 z) : w64 z = z := by unfold w64; unfold in64 at h; omega
theorem toInt_of32 {z : Int} (h : in32 z) : (Int32.ofInt z).toInt = z := by
  have e := Int32.toInt_ofInt (n := z)
  rw [e, show Int32.size = 4294967296 from rfl, ← w32_bmod, w32_id h]
theorem toInt_of64 {z : Int} (h : in64 z) : (Int64.ofInt z).toInt = z := by
  have e := Int64.toInt_ofInt (n := z)
  rw [e, show Int64.size = 18446744073709551616 from rfl, ← w64_bmod, w64_id h]
theorem toInt_32w (z : Int) : (Int32.ofInt z).toInt = w32 z := by
  have e := Int32.toInt_ofInt (n := z)
  rw [e, show Int32.size = 4294967296 from rfl, ← w32_bmod]
theorem toInt_64w (z : Int) : (Int64.ofInt z).toInt = w64 z := by
  have e := Int64.toInt_ofInt (n := z)
  rw [e, show Int64.size = 18446744073709551616 from rfl, ← w64_bmod]
theorem of32_w (z : Int) : Int32.ofInt (w32 z) = Int32.ofInt z := by
  apply Int32.toInt_inj.mp
  rw [toInt_of32 (w32_in z), toInt_32w]
theorem of64_w (z : Int) : Int64.ofInt (w64 z) = Int64.ofInt z := by
  apply Int64.toInt_inj.mp
  rw [toInt_of64 (w64_in z), toInt_64w]
theorem of32_toInt (x : Int32) : Int32.ofInt x.toInt = x := Int32.ofInt_toInt x
theorem of64_toInt (x : Int64) : Int64.ofInt x.toInt = x := Int64.ofInt_toInt x
theorem in32_toInt (x : Int32) : in32 x.toInt := by
  have h1 := Int32.le_toInt x
  have h2 := Int32.toInt_lt x
  unfold in32
  constructor
  · simpa using h1
  · simpa using h2
theorem in64_toInt (x : Int64) : in64 x.toInt := by
  have h1 := Int64.le_toInt x
  have h2 := Int64.toInt_lt x
  unfold in64
  constructor
  · simpa using h1
  · simpa using h2
theorem of32_lt {a b : Int} (ha : in32 a) (hb : in32 b) : Int32.ofInt a < Int32.ofInt b ↔ a < b := by
  rw [Int32.lt_iff_toInt_lt, toInt_of32 ha, toInt_of32 hb]
theorem of32_le {a b : Int} (ha : in32 a) (hb : in32 b) : Int32.ofInt a ≤ Int32.ofInt b ↔ a ≤ b := by
  rw [Int32.le_iff_toInt_le, toInt_of32 ha, toInt_of32 hb]
theorem of32_eq {a b : Int} (ha : in32 a) (hb : in32 b) : Int32.ofInt a = Int32.ofInt b ↔ a = b := by
  constructor
  · intro h
    have := congrArg Int32.toInt h
    rwa [toInt_of32 ha, toInt_of32 hb] at this
  · intro h; rw [h]
theorem of64_lt {a b : Int} (ha : in64 a) (hb : in64 b) : Int64.ofInt a < Int64.ofInt b ↔ a < b := by
  rw [Int64.lt_iff_toInt_lt, toInt_of64 ha, toInt_of64 hb]
theorem of64_eq {a b : Int} (ha : in64 a) (hb : in64 b) : Int64.ofInt a = Int64.ofInt b ↔ a = b := by
  constructor
  · intro h
    have := congrArg Int64.toInt h
    rwa [toInt_of64 ha, toInt_of64 hb] at this
  · intro h; rw [h]
theorem of32_0 : Int32.ofInt 0 = 0 := rfl
theorem in32_0 : in32 0 := by unfold in32; omega
theorem of32_add (a b : Int) : Int32.ofInt a + Int32.ofInt b = Int32.ofInt (w32 (a + b)) := by rw [of32_w]; exact (Int32.ofInt_add a b).symm
theorem of32_sub (a b : Int) : Int32.ofInt a - Int32.ofInt b = Int32.ofInt (w32 (a - b)) := by rw [of32_w]; exact (Int32.ofInt_sub a b).symm
theorem of32_mul (a b : Int) : Int32.ofInt a * Int32.ofInt b = Int32.ofInt (w32 (a * b)) := by rw [of32_w]; exact (Int32.ofInt_mul a b).symm
theorem of64_add (a b : Int) : Int64.ofInt a + Int64.ofInt b = Int64.ofInt (w64 (a + b)) := by rw [of64_w]; exact (Int64.ofInt_add a b).symm
theorem of64_sub (a b : Int) : Int64.ofInt a - Int64.ofInt b = Int64.ofInt (w64 (a - b)) := by rw [of64_w]; exact (Int64.ofInt_sub a b).symm
theorem of64_mul (a b : Int) : Int64.ofInt a * Int64.ofInt b = Int64.ofInt (w64 (a * b)) := by rw [of64_w]; exact (Int64.ofInt_mul a b).symm
theorem of32_div {a b : Int} (ha : in32 a) (hb : in32 b) : Int32.ofInt a / Int32.ofInt b = Int32.ofInt (w32 (a.tdiv b)) := by
  apply Int32.toInt_inj.mp
  rw [Int32.toInt_div, toInt_of32 ha, toInt_of32 hb, toInt_of32 (w32_in _), w32_bmod]
theorem of64_div {a b : Int} (ha : in64 a) (hb : in64 b) : Int64.ofInt a / Int64.ofInt b = Int64.ofInt (w64 (a.tdiv b)) := by
  apply Int64.toInt_inj.mp
  rw [Int64.toInt_div, toInt_of64 ha, toInt_of64 hb, toInt_of64 (w64_in _), w64_bmod]
theorem tmod_in32 {a b : Int} (ha : in32 a) : in32 (a.tmod b) := by
  unfold in32 at *
  have h := Int.natAbs_tmod a b
  have h2 : (a.tmod b).natAbs ≤ a.natAbs := by rw [h]; exact Nat.mod_le _ _
  by_cases h0 : 0 ≤ a
  · have := Int.tmod_nonneg b h0
    omega
  · have h4 : 0 ≤ (-a).tmod b := Int.tmod_nonneg b (by omega)
    rw [Int.neg_tmod] at h4
    omega
theorem tmod_in64 {a b : Int} (ha : in64 a) : in64 (a.tmod b) := by
  unfold in64 at *
  have h := Int.natAbs_tmod a b
  have h2 : (a.tmod b).natAbs ≤ a.natAbs := by rw [h]; exact Nat.mod_le _ _
  by_cases h0 : 0 ≤ a
  · have := Int.tmod_nonneg b h0
    omega
  · have h4 : 0 ≤ (-a).tmod b := Int.tmod_nonneg b (by omega)
    rw [Int.neg_tmod] at h4
    omega
theorem of32_rem {a b : Int} (ha : in32 a) (hb : in32 b) : Int32.ofInt a - Int32.ofInt a / Int32.ofInt b * Int32.ofInt b = Int32.ofInt (a.tmod b) := by
  rw [of32_div ha hb, of32_w, ← Int32.ofInt_mul, ← Int32.ofInt_sub, Int.tmod_def, Int.mul_comm]
theorem of64_rem {a b : Int} (ha : in64 a) (hb : in64 b) : Int64.ofInt a - Int64.ofInt a / Int64.ofInt b * Int64.ofInt b = Int64.ofInt (a.tmod b) := by
  rw [of64_div ha hb, of64_w, ← Int64.ofInt_mul, ← Int64.ofInt_sub, Int.tmod_def, Int.mul_comm]
theorem of_i2l {a : Int} (ha : in32 a) : (Int32.ofInt a).toInt64 = Int64.ofInt a := by
  apply Int64.toInt_inj.mp
  rw [Int32.toInt_toInt64, toInt_of32 ha, toInt_of64 (by unfold in32 at ha; unfold in64; omega)]
theorem of_l2i (a : Int) : (Int64.ofInt a).toInt32 = Int32.ofInt (w32 a) := by
  rw [of32_w]
  exact Int64.toInt32_ofInt
theorem in64_32 {a : Int} (ha : in32 a) : in64 a := by unfold in32 at ha; unfold in64; omega
theorem of32_clamp {z : Int} (h : in32 z) : (Int32.ofInt z).toNatClampNeg = z.toNat := by
  show (Int32.ofInt z).toInt.toNat = z.toNat
  rw [toInt_of32 h]
theorem of_bip {n : Int} (h1 : -128 ≤ n) (h2 : n ≤ 127) : (Int8.ofInt n).toInt32 = Int32.ofInt n := by
  apply Int32.toInt_inj.mp
  rw [Int8.toInt_toInt32, toInt_of32 (by unfold in32; omega), Int8.toInt_ofInt, show Int8.size = 256 from rfl]
  unfold Int.bmod
  dsimp only
  split <;> omega
theorem of_sip {n : Int} (h1 : -32768 ≤ n) (h2 : n ≤ 32767) : (Int16.ofInt n).toInt32 = Int32.ofInt n := by
  apply Int32.toInt_inj.mp
  rw [Int16.toInt_toInt32, toInt_of32 (by unfold in32; omega), Int16.toInt_ofInt, show Int16.size = 65536 from rfl]
  unfold Int.bmod
  dsimp only
  split <;> omega
theorem vp_in_of32 {z : Int} {n : Nat} (h : in32 z) (h0 : 0 ≤ z) (h1 : z < n) : vp_in (Int32.ofInt z) n := by
  unfold vp_in
  rw [of32_clamp h]
  rw [show (0 : Int32) = Int32.ofInt 0 from rfl, of32_lt h in32_0]
  omega
