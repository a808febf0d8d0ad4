/-! bits of long numbers; how many a set has -/
theorem o64_nat (a : Nat) : Int64.ofInt (a : Int) = Int64.ofNat a := rfl
theorem o64_int {n : Nat} (h : n < 9223372036854775808) : (Int64.ofNat n).toInt = (n : Int) := Int64.toInt_ofNat_of_lt (by simpa using h)
theorem o64_and (a b : Nat) : Int64.ofNat a &&& Int64.ofNat b = Int64.ofNat (a &&& b) := by
  apply Int64.toBitVec_inj.1
  show BitVec.ofNat 64 a &&& BitVec.ofNat 64 b = BitVec.ofNat 64 (a &&& b)
  apply BitVec.eq_of_getLsbD_eq
  intro i hi
  simp [hi]
theorem o64_or (a b : Nat) : Int64.ofNat a ||| Int64.ofNat b = Int64.ofNat (a ||| b) := by
  apply Int64.toBitVec_inj.1
  show BitVec.ofNat 64 a ||| BitVec.ofNat 64 b = BitVec.ofNat 64 (a ||| b)
  apply BitVec.eq_of_getLsbD_eq
  intro i hi
  simp [hi]
theorem land_n {a b : Nat} (h : a < 9223372036854775808) : land a b = ((a &&& b : Nat) : Int) := by
  unfold land
  rw [o64_nat, o64_nat, o64_and, o64_int (Nat.lt_of_le_of_lt Nat.and_le_left h)]
theorem lor_n {a b : Nat} (ha : a < 9223372036854775808) (hb : b < 9223372036854775808) : lor a b = ((a ||| b : Nat) : Int) := by
  unfold lor
  rw [o64_nat, o64_nat, o64_or, o64_int (Nat.or_lt_two_pow (n := 63) ha hb)]
theorem u64_int {x : UInt64} (h : x.toNat < 9223372036854775808) : x.toInt64.toInt = (x.toNat : Int) := by
  show x.toBitVec.toInt = _
  rw [BitVec.toInt_eq_toNat_of_lt (by show 2 * x.toNat < 2 ^ 64; omega)]; rfl
theorem lushr_n {a : Nat} {b : Int} {i : Nat} (ha : a < 9223372036854775808) (hi : i < 64) (hb : ((Int32.ofInt b).toInt64.toUInt64 &&& Int64.toUInt64 63).toNat = i) : lushr a b = ((a / 2 ^ i : Nat) : Int) := by
  have e : ((Int64.ofInt (a : Int)).toUInt64).toNat = a := by
    show (BitVec.ofInt 64 (a : Int)).toNat = a
    rw [BitVec.ofInt_natCast, BitVec.toNat_ofNat, Nat.mod_eq_of_lt (by omega)]
  have e2 : ((Int64.ofInt (a : Int)).toUInt64 >>> ((Int32.ofInt b).toInt64.toUInt64 &&& Int64.toUInt64 63)).toNat = a / 2 ^ i := by
    rw [UInt64.toNat_shiftRight, e, hb, Nat.mod_eq_of_lt hi, Nat.shiftRight_eq_div_pow]
  unfold lushr
  rw [u64_int (by rw [e2]; exact Nat.lt_of_le_of_lt (Nat.div_le_self _ _) ha), e2]
theorem lshl1 : ∀ n : Nat, n < 50 → lshl 1 (n : Int) = ((2 ^ n : Nat) : Int) := by decide +kernel
/-- bytes -/
def vl : List Nat → Nat
  | [] => 0
  | b :: l => b + 256 * vl l
def msk (c : Nat) : Nat → Nat
  | 0 => 0
  | k + 1 => c + 256 * msk c k
theorem and_byte {r m q M : Nat} (hr : r < 256) (hm : m < 256) : (r + 256 * q) &&& (m + 256 * M) = (r &&& m) + 256 * (q &&& M) := by
  have e1 : ((r + 256 * q) &&& (m + 256 * M)) % 2 ^ 8 = r &&& m := by
    rw [Nat.and_mod_two_pow, show (r + 256 * q) % 2 ^ 8 = r by omega, show (m + 256 * M) % 2 ^ 8 = m by omega]
  have e2 : ((r + 256 * q) &&& (m + 256 * M)) / 2 ^ 8 = q &&& M := by
    rw [Nat.and_div_two_pow, show (r + 256 * q) / 2 ^ 8 = q by omega, show (m + 256 * M) / 2 ^ 8 = M by omega]
  generalize (r + 256 * q) &&& (m + 256 * M) = z at e1 e2
  omega
theorem by0 : ∀ b, b < 256 → b &&& 51 < 256 := by decide +kernel
theorem by1 : ∀ b, b < 256 → ∀ c, c < 2 → (b / 2 + 128 * c) &&& 85 = b / 2 &&& 85 := by decide +kernel
theorem by2 : ∀ b, b < 256 → ∀ c, c < 4 → (b / 4 + 64 * c) &&& 51 = b / 4 &&& 51 := by decide +kernel
theorem by3 : ∀ b, b < 69 → ∀ c, c < 5 → (b + b / 16 + 16 * c) &&& 15 = (b + b / 16) &&& 15 := by decide +kernel
def s1b (b : Nat) : Nat := b - (b / 2 &&& 85)
def s2b (b : Nat) : Nat := (s1b b &&& 51) + (s1b b / 4 &&& 51)
def s3b (b : Nat) : Nat := (s2b b + s2b b / 16) &&& 15
theorem by4 : ∀ b, b < 256 → (b / 2 &&& 85) ≤ b ∧ s1b b < 256 ∧ s2b b < 69 ∧ s2b b % 16 < 5 ∧ s3b b = bsum b 8 ∧ s3b b ≤ 8 := by decide +kernel
theorem vl1 : ∀ (l : List Nat) (k : Nat), l.length ≤ k → (∀ b, b ∈ l → b < 256) → (vl l / 2 &&& msk 85 k) = vl (l.map (fun b => b / 2 &&& 85)) := by
  intro l
  induction l with
  | nil => intro k _ _; show 0 / 2 &&& msk 85 k = 0; rw [Nat.zero_div, Nat.zero_and]
  | cons b l ih =>
    intro k hk hb
    obtain ⟨k, rfl⟩ : ∃ k', k = k' + 1 := ⟨k - 1, by simp at hk; omega⟩
    have b6 := hb b List.mem_cons_self
    have i := ih k (by simpa using hk) (fun c hc => hb c (List.mem_cons_of_mem _ hc))
    show (b + 256 * vl l) / 2 &&& (85 + 256 * msk 85 k) = (b / 2 &&& 85) + 256 * vl (l.map (fun b => b / 2 &&& 85))
    rw [show (b + 256 * vl l) / 2 = (b / 2 + 128 * (vl l % 2)) + 256 * (vl l / 2) by omega, and_byte (by omega) (by omega), by1 b b6 _ (Nat.mod_lt _ (by decide)), i]
theorem vl2 : ∀ (l : List Nat) (k : Nat), l.length ≤ k → (∀ b, b ∈ l → b < 256) → (vl l &&& msk 51 k) = vl (l.map (fun b => b &&& 51)) ∧ (vl l / 4 &&& msk 51 k) = vl (l.map (fun b => b / 4 &&& 51)) := by
  intro l
  induction l with
  | nil => intro k _ _; exact ⟨Nat.zero_and _, by show 0 / 4 &&& msk 51 k = 0; rw [Nat.zero_div, Nat.zero_and]⟩
  | cons b l ih =>
    intro k hk hb
    obtain ⟨k, rfl⟩ : ∃ k', k = k' + 1 := ⟨k - 1, by simp at hk; omega⟩
    have b6 := hb b List.mem_cons_self
    have i := ih k (by simpa using hk) (fun c hc => hb c (List.mem_cons_of_mem _ hc))
    constructor
    · show (b + 256 * vl l) &&& (51 + 256 * msk 51 k) = (b &&& 51) + 256 * vl (l.map (fun b => b &&& 51))
      rw [and_byte b6 (by omega), i.1]
    · show (b + 256 * vl l) / 4 &&& (51 + 256 * msk 51 k) = (b / 4 &&& 51) + 256 * vl (l.map (fun b => b / 4 &&& 51))
      rw [show (b + 256 * vl l) / 4 = (b / 4 + 64 * (vl l % 4)) + 256 * (vl l / 4) by omega, and_byte (by omega) (by omega), by2 b b6 _ (Nat.mod_lt _ (by decide)), i.2]
theorem vl3 : ∀ (l : List Nat) (k : Nat), l.length ≤ k → (∀ b, b ∈ l → b < 69 ∧ b % 16 < 5) → (vl l + vl l / 16 &&& msk 15 k) = vl (l.map (fun b => (b + b / 16) &&& 15)) := by
  intro l
  induction l with
  | nil => intro k _ _; show 0 + 0 / 16 &&& msk 15 k = 0; rw [Nat.zero_div, Nat.zero_and]
  | cons b l ih =>
    intro k hk hb
    obtain ⟨k, rfl⟩ : ∃ k', k = k' + 1 := ⟨k - 1, by simp at hk; omega⟩
    have b6 := (hb b List.mem_cons_self).1
    have i := ih k (by simpa using hk) (fun c hc => hb c (List.mem_cons_of_mem _ hc))
    have q5 : vl l % 16 < 5 := by
      cases l with
      | nil => exact (by decide : 0 % 16 < 5)
      | cons c l =>
        have := (hb c (List.mem_cons_of_mem _ List.mem_cons_self)).2
        show (c + 256 * vl l) % 16 < 5
        omega
    show (b + 256 * vl l) + (b + 256 * vl l) / 16 &&& (15 + 256 * msk 15 k) = ((b + b / 16) &&& 15) + 256 * vl (l.map (fun b => (b + b / 16) &&& 15))
    rw [show (b + 256 * vl l) + (b + 256 * vl l) / 16 = (b + b / 16 + 16 * (vl l % 16)) + 256 * (vl l + vl l / 16) by omega, and_byte (by omega) (by omega), by3 b b6 _ q5, i]
theorem vl_sub (f : Nat → Nat) : ∀ (l : List Nat), (∀ b, b ∈ l → f b ≤ b) → vl (l.map f) ≤ vl l ∧ vl l - vl (l.map f) = vl (l.map (fun b => b - f b)) := by
  intro l
  induction l with
  | nil => intro _; exact ⟨Nat.le_refl _, rfl⟩
  | cons b l ih =>
    intro hf
    have h0 := hf b List.mem_cons_self
    obtain ⟨i1, i2⟩ := ih (fun c hc => hf c (List.mem_cons_of_mem _ hc))
    constructor
    · show f b + 256 * vl (l.map f) ≤ b + 256 * vl l; omega
    · show (b + 256 * vl l) - (f b + 256 * vl (l.map f)) = (b - f b) + 256 * vl (l.map (fun b => b - f b)); omega
theorem vl_add (f g : Nat → Nat) : ∀ (l : List Nat), vl (l.map f) + vl (l.map g) = vl (l.map (fun b => f b + g b)) := by
  intro l
  induction l with
  | nil => rfl
  | cons b l ih =>
    show (f b + 256 * vl (l.map f)) + (g b + 256 * vl (l.map g)) = (f b + g b) + 256 * vl (l.map (fun b => f b + g b))
    omega
theorem bsum_8 {b q : Nat} (hb : b < 256) : ∀ k, bsum (b + 256 * q) (8 + k) = bsum b 8 + bsum q k := by
  intro k
  induction k with
  | zero =>
    show bsum (b + 256 * q) 8 = bsum b 8 + 0
    simp only [bsum, Nat.reducePow]
    omega
  | succ k ih =>
    show bsum (b + 256 * q) (8 + k) + (b + 256 * q) / 2 ^ (8 + k) % 2 = bsum b 8 + (bsum q k + q / 2 ^ k % 2)
    rw [ih, Nat.pow_add, ← Nat.div_div_eq_div_mul, show (b + 256 * q) / 2 ^ 8 = q by omega]
    omega
theorem bsum_hi {n : Nat} (h : n < 1125899906842624) : bsum n 56 = bsum n 50 := by
  show bsum n 50 + n / 2 ^ 50 % 2 + n / 2 ^ 51 % 2 + n / 2 ^ 52 % 2 + n / 2 ^ 53 % 2 + n / 2 ^ 54 % 2 + n / 2 ^ 55 % 2 = bsum n 50
  simp only [Nat.reducePow]
  omega
theorem dig {n : Nat} (h : n < 1125899906842624) : ∃ a b c e f g i : Nat, a < 256 ∧ b < 256 ∧ c < 256 ∧ e < 256 ∧ f < 256 ∧ g < 256 ∧ i < 256 ∧ n = vl [a, b, c, e, f, g, i] := by
  refine ⟨n % 256, n / 256 % 256, n / 65536 % 256, n / 16777216 % 256, n / 4294967296 % 256, n / 1099511627776 % 256, n / 281474976710656, by omega, by omega, by omega, by omega, by omega, by omega, by omega, ?_⟩
  simp only [vl]
  omega
theorem last7 {a b c e f g i : Nat} (ha : a ≤ 8) (hb : b ≤ 8) (hc : c ≤ 8) (he : e ≤ 8) (hf : f ≤ 8) (hg : g ≤ 8) (hi : i ≤ 8) {z z1 z2 z3 : Nat} (hz : z = vl [a, b, c, e, f, g, i]) (h1 : z1 = z + z / 256) (h2 : z2 = z1 + z1 / 65536) (h3 : z3 = z2 + z2 / 4294967296) : z < 9223372036854775808 ∧ z1 < 9223372036854775808 ∧ z2 < 9223372036854775808 ∧ z3 < 9223372036854775808 ∧ z3 % 128 = a + b + c + e + f + g + i := by
  simp only [vl] at hz
  have y0 : z / 256 = b + 256 * (c + 256 * (e + 256 * (f + 256 * (g + 256 * i)))) := by omega
  have y1 : z1 = (a + b) + 256 * ((b + c) + 256 * ((c + e) + 256 * ((e + f) + 256 * ((f + g) + 256 * ((g + i) + 256 * i))))) := by omega
  have y2 : z1 / 65536 = (c + e) + 256 * ((e + f) + 256 * ((f + g) + 256 * ((g + i) + 256 * i))) := by omega
  have y3 : z2 = (a + b + c + e) + 256 * ((b + c + e + f) + 256 * ((c + e + f + g) + 256 * ((e + f + g + i) + 256 * ((f + g + i) + 256 * ((g + i) + 256 * i))))) := by omega
  have y4 : z2 / 4294967296 = (f + g + i) + 256 * ((g + i) + 256 * i) := by omega
  omega
theorem and127 {n : Nat} (h : n < 2147483648) : iand (n : Int) 127 = ((n % 128 : Nat) : Int) := by
  rw [show (127 : Int) = ((127 : Nat) : Int) from rfl, iand_n h, show (127 : Nat) = 2 ^ 7 - 1 from rfl, Nat.and_two_pow_sub_one_eq_mod]
theorem w32_m (z : Nat) : iand (w32 (z : Int)) 127 = ((z % 128 : Nat) : Int) := by
  have e : w32 (z : Int) = (Int32.ofInt (z : Int)).toInt := by
    unfold w32
    show _ = (BitVec.ofInt 32 (z : Int)).toInt
    rw [BitVec.toInt_ofInt]
    simp [Int.bmod]
    omega
  have e2 : iand (w32 (z : Int)) 127 = iand (z : Int) 127 := by
    unfold iand
    rw [e, Int32.ofInt_toInt]
  rw [e2]
  unfold iand
  rw [of32_nat, show (127 : Int) = ((127 : Nat) : Int) from rfl, of32_nat, nI_and, show (127 : Nat) = 2 ^ 7 - 1 from rfl, Nat.and_two_pow_sub_one_eq_mod, nI_int (Nat.lt_of_lt_of_le (Nat.mod_lt _ (by decide)) (by decide))]
theorem w64_sub {a b : Nat} (h : b ≤ a) (ha : a < 9223372036854775808) : w64 ((a : Int) - (b : Int)) = ((a - b : Nat) : Int) := by rw [w64_i (by omega) (by omega)]; omega
theorem w64_plus {a b : Nat} (h : a + b < 9223372036854775808) : w64 ((a : Int) + (b : Int)) = ((a + b : Nat) : Int) := by rw [w64_i (by omega) (by omega)]; omega
theorem dl {a c b : Nat} (h : a ≤ b) (hb : b < 9223372036854775808) : a / c < 9223372036854775808 := Nat.lt_of_le_of_lt (Nat.div_le_self _ _) (Nat.lt_of_le_of_lt h hb)
theorem bcA {l : List Nat} (hl : l.length ≤ 8) (bl : ∀ x, x ∈ l → x < 256) {n : Nat} (en : n = vl l) (n63 : n < 9223372036854775808) : land (lushr (n : Int) 1) 6148914691236517205 = ((vl (l.map (fun b => b / 2 &&& 85)) : Nat) : Int) ∧ w64 ((n : Int) - ((vl (l.map (fun b => b / 2 &&& 85)) : Nat) : Int)) = ((vl (l.map s1b) : Nat) : Int) ∧ vl (l.map s1b) ≤ n := by
  have m5 : (6148914691236517205 : Int) = ((msk 85 8 : Nat) : Int) := by decide
  have d1 := vl1 l 8 hl bl
  obtain ⟨d2, d3⟩ := vl_sub (fun b => b / 2 &&& 85) l (fun x hx => (by4 x (bl x hx)).1)
  rw [← en] at d1 d2 d3
  have d3' : n - vl (l.map (fun b => b / 2 &&& 85)) = vl (l.map s1b) := d3
  refine ⟨?_, ?_, ?_⟩
  · rw [lushr_n (i := 1) n63 (by decide) (by decide), m5, land_n (dl (Nat.le_refl _) n63), Nat.pow_one, d1]
  · rw [w64_sub d2 n63, d3']
  · rw [← d3']; exact Nat.sub_le _ _
theorem bcB {l : List Nat} (hl : l.length ≤ 8) (bl : ∀ x, x ∈ l → x < 256) {y : Nat} (ey : y = vl (l.map s1b)) (hy : y < 1125899906842624) : land (y : Int) 3689348814741910323 = ((vl ((l.map s1b).map (fun b => b &&& 51)) : Nat) : Int) ∧ land (lushr (y : Int) 2) 3689348814741910323 = ((vl ((l.map s1b).map (fun b => b / 4 &&& 51)) : Nat) : Int) ∧ w64 (((vl ((l.map s1b).map (fun b => b &&& 51)) : Nat) : Int) + ((vl ((l.map s1b).map (fun b => b / 4 &&& 51)) : Nat) : Int)) = ((vl (l.map s2b) : Nat) : Int) ∧ vl (l.map s2b) < 2251799813685248 := by
  have m3 : (3689348814741910323 : Int) = ((msk 51 8 : Nat) : Int) := by decide
  have y63 : y < 9223372036854775808 := by omega
  have bl1 : ∀ x, x ∈ l.map s1b → x < 256 := by
    intro x hx
    obtain ⟨y, hy, rfl⟩ := List.mem_map.1 hx
    exact (by4 y (bl y hy)).2.1
  obtain ⟨d4, d5⟩ := vl2 (l.map s1b) 8 (by rw [List.length_map]; exact hl) bl1
  rw [← ey] at d4 d5
  have d6 : vl ((l.map s1b).map (fun b => b &&& 51)) + vl ((l.map s1b).map (fun b => b / 4 &&& 51)) = vl (l.map s2b) := by
    rw [vl_add (fun b => b &&& 51) (fun b => b / 4 &&& 51), List.map_map]; rfl
  have k2 : vl (l.map s2b) < 2251799813685248 := by
    rw [← d6, ← d4, ← d5]
    have q1 := @Nat.and_le_left y (msk 51 8)
    have q2 := @Nat.and_le_left (y / 4) (msk 51 8)
    have q3 := Nat.div_le_self y 4
    generalize y &&& msk 51 8 = u at q1 ⊢
    generalize y / 4 &&& msk 51 8 = v at q2 ⊢
    omega
  refine ⟨?_, ?_, ?_, k2⟩
  · rw [m3, land_n y63, d4]
  · rw [lushr_n (i := 2) y63 (by decide) (by decide), m3, land_n (dl (Nat.le_refl _) y63), show 2 ^ 2 = 4 from rfl, d5]
  · rw [w64_plus (by rw [d6]; exact Nat.lt_trans k2 (by decide)), d6]
theorem bcC {l : List Nat} (hl : l.length ≤ 8) (bl : ∀ x, x ∈ l → x < 256) {y : Nat} (ey : y = vl (l.map s2b)) (hy : y < 2251799813685248) : land (w64 ((y : Int) + lushr (y : Int) 4)) 1085102592571150095 = ((vl (l.map s3b) : Nat) : Int) := by
  have mf : (1085102592571150095 : Int) = ((msk 15 8 : Nat) : Int) := by decide
  have bl2 : ∀ x, x ∈ l.map s2b → x < 69 ∧ x % 16 < 5 := by
    intro x hx
    obtain ⟨y, hy, rfl⟩ := List.mem_map.1 hx
    exact ⟨(by4 y (bl y hy)).2.2.1, (by4 y (bl y hy)).2.2.2.1⟩
  have d7 := vl3 (l.map s2b) 8 (by rw [List.length_map]; exact hl) bl2
  rw [← ey, List.map_map] at d7
  have yl : y + y / 16 < 9223372036854775808 := by omega
  rw [lushr_n (i := 4) (Nat.lt_trans hy (by decide)) (by decide) (by decide), show 2 ^ 4 = 16 from rfl, w64_plus yl, mf, land_n yl, d7]
  rfl
theorem bcD {z : Nat} (p1 : z < 9223372036854775808) (p2 : z + z / 256 < 9223372036854775808) (p3 : (z + z / 256) + (z + z / 256) / 65536 < 9223372036854775808) (p4 : ((z + z / 256) + (z + z / 256) / 65536) + ((z + z / 256) + (z + z / 256) / 65536) / 4294967296 < 9223372036854775808) : w64 ((z : Int) + lushr (z : Int) 8) = ((z + z / 256 : Nat) : Int) ∧ w64 (((z + z / 256 : Nat) : Int) + lushr ((z + z / 256 : Nat) : Int) 16) = (((z + z / 256) + (z + z / 256) / 65536 : Nat) : Int) ∧ w64 ((((z + z / 256) + (z + z / 256) / 65536 : Nat) : Int) + lushr (((z + z / 256) + (z + z / 256) / 65536 : Nat) : Int) 32) = ((((z + z / 256) + (z + z / 256) / 65536) + ((z + z / 256) + (z + z / 256) / 65536) / 4294967296 : Nat) : Int) := by
  refine ⟨?_, ?_, ?_⟩
  · rw [lushr_n (i := 8) p1 (by decide) (by decide), show 2 ^ 8 = 256 from rfl, w64_plus p2]
  · rw [lushr_n (i := 16) p2 (by decide) (by decide), show 2 ^ 16 = 65536 from rfl, w64_plus p3]
  · rw [lushr_n (i := 32) p3 (by decide) (by decide), show 2 ^ 32 = 4294967296 from rfl, w64_plus p4]
theorem bsum_7 {a b c e f g i : Nat} (ha : a < 256) (hb : b < 256) (hc : c < 256) (he : e < 256) (hf : f < 256) (hg : g < 256) (hi : i < 256) : bsum (vl [a, b, c, e, f, g, i]) 56 = s3b a + s3b b + s3b c + s3b e + s3b f + s3b g + s3b i := by
  rw [show 56 = 8 + (8 + (8 + (8 + (8 + (8 + 8))))) from rfl]
  simp only [vl, Nat.mul_zero, Nat.add_zero]
  rw [bsum_8 ha, bsum_8 hb, bsum_8 hc, bsum_8 he, bsum_8 hf, bsum_8 hg, ← (by4 a ha).2.2.2.2.1, ← (by4 b hb).2.2.2.2.1, ← (by4 c hc).2.2.2.2.1, ← (by4 e he).2.2.2.2.1, ← (by4 f hf).2.2.2.2.1, ← (by4 g hg).2.2.2.2.1, ← (by4 i hi).2.2.2.2.1]
  generalize s3b a = A, s3b b = B, s3b c = C, s3b e = E, s3b f = F, s3b g = G, s3b i = I
  omega
theorem S_bitCountL {d : Nat} {h : Hp} {Q : Option PV → Hp → Prop} {n : Nat} (hn : n < 1125899906842624) : WP d mJ13_bitCount_95d88 0 [some (.inr (.inl (n : Int))), none] [] h Q = Q (some (.inl (bsum n 50 : Int))) h := by
  obtain ⟨a, b, c, e, f, g, i, ha, hb, hc, he, hf, hg, hi, en⟩ := dig hn
  have bl : ∀ x, x ∈ [a, b, c, e, f, g, i] → x < 256 := by
    intro x hx
    simp only [List.mem_cons, List.not_mem_nil, or_false] at hx
    rcases hx with rfl | rfl | rfl | rfl | rfl | rfl | rfl <;> assumption
  have l8 : [a, b, c, e, f, g, i].length ≤ 8 := Nat.le_of_ble_eq_true rfl
  have en2 := bsum_7 ha hb hc he hf hg hi
  rw [← en, bsum_hi hn] at en2
  obtain ⟨p1, p2, p3, p4, p5⟩ := last7 (by4 a ha).2.2.2.2.2 (by4 b hb).2.2.2.2.2 (by4 c hc).2.2.2.2.2 (by4 e he).2.2.2.2.2 (by4 f hf).2.2.2.2.2 (by4 g hg).2.2.2.2.2 (by4 i hi).2.2.2.2.2 rfl rfl rfl rfl
  rw [en2, ← p5]
  have e7 : vl ([a, b, c, e, f, g, i].map s3b) = vl [s3b a, s3b b, s3b c, s3b e, s3b f, s3b g, s3b i] := rfl
  rw [← e7] at p1 p2 p3 p4 ⊢
  clear p5 en2 e7
  generalize [a, b, c, e, f, g, i] = l at bl l8 en p1 p2 p3 p4
  obtain ⟨e1, e2, k1⟩ := bcA l8 bl en (Nat.lt_trans hn (by decide))
  obtain ⟨e3, e4, e5, k2⟩ := bcB l8 bl rfl (Nat.lt_of_le_of_lt k1 hn)
  have e6 := bcC l8 bl rfl k2
  obtain ⟨e8, e9, e10⟩ := bcD p1 p2 p3 p4
  simp only [rJ13_bitCount_95d88_0, rJ13_bitCount_95d88_1, rJ13_bitCount_95d88_2, rJ13_bitCount_95d88_3, rJ13_bitCount_95d88_4, rJ13_bitCount_95d88_7, rJ13_bitCount_95d88_8, rJ13_bitCount_95d88_9, rJ13_bitCount_95d88_10, rJ13_bitCount_95d88_11, rJ13_bitCount_95d88_14, rJ13_bitCount_95d88_15, rJ13_bitCount_95d88_16, rJ13_bitCount_95d88_17, rJ13_bitCount_95d88_18, rJ13_bitCount_95d88_21, rJ13_bitCount_95d88_22, rJ13_bitCount_95d88_23, rJ13_bitCount_95d88_24, rJ13_bitCount_95d88_25, rJ13_bitCount_95d88_26, rJ13_bitCount_95d88_27, rJ13_bitCount_95d88_28, rJ13_bitCount_95d88_29, rJ13_bitCount_95d88_32, rJ13_bitCount_95d88_33, rJ13_bitCount_95d88_34, rJ13_bitCount_95d88_35, rJ13_bitCount_95d88_36, rJ13_bitCount_95d88_38, rJ13_bitCount_95d88_39, rJ13_bitCount_95d88_40, rJ13_bitCount_95d88_41, rJ13_bitCount_95d88_42, rJ13_bitCount_95d88_43, rJ13_bitCount_95d88_45, rJ13_bitCount_95d88_46, rJ13_bitCount_95d88_47, rJ13_bitCount_95d88_48, rJ13_bitCount_95d88_49, rJ13_bitCount_95d88_50, rJ13_bitCount_95d88_52, rJ13_bitCount_95d88_53, rJ13_bitCount_95d88_54, rJ13_bitCount_95d88_55, rJ13_bitCount_95d88_56, rJ13_bitCount_95d88_57, rJ13_bitCount_95d88_59, rJ13_bitCount_95d88_60, e1, e2, e3, e4, e5, e6, e8, e9, e10, w32_m]
