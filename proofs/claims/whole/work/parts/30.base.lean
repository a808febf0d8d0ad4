/-! the base of the specifications: small numbers, bits, frames -/
theorem w32_i {z : Int} (h1 : -2147483648 ≤ z) (h2 : z < 2147483648) : w32 z = z := w32_id ⟨h1, h2⟩
theorem w32_s {i : Nat} (h : i < 2147483647) : w32 ((i : Int) + 1) = ((i + 1 : Nat) : Int) := by
  rw [w32_i (by omega) (by omega)]; omega
theorem w64_i {z : Int} (h1 : -9223372036854775808 ≤ z) (h2 : z < 9223372036854775808) : w64 z = z := w64_id ⟨h1, h2⟩
theorem of32_nat (a : Nat) : Int32.ofInt (a : Int) = nI a := rfl
theorem nI_int {n : Nat} (h : n < 2147483648) : (nI n).toInt = (n : Int) := nI_toInt (by simpa using h)
theorem sh31 : ∀ n, n < 32 → ((nI n &&& 31).toBitVec.smod 32).toNat = n := by decide +kernel
theorem nI_and (a b : Nat) : nI a &&& nI b = nI (a &&& b) := by
  apply Int32.toBitVec_inj.1
  show BitVec.ofNat 32 a &&& BitVec.ofNat 32 b = BitVec.ofNat 32 (a &&& b)
  apply BitVec.eq_of_getLsbD_eq
  intro i hi
  simp [hi]
theorem nI_or (a b : Nat) : nI a ||| nI b = nI (a ||| b) := by
  apply Int32.toBitVec_inj.1
  show BitVec.ofNat 32 a ||| BitVec.ofNat 32 b = BitVec.ofNat 32 (a ||| b)
  apply BitVec.eq_of_getLsbD_eq
  intro i hi
  simp [hi]
theorem iand_n {a b : Nat} (h : a < 2147483648) : iand a b = ((a &&& b : Nat) : Int) := by
  unfold iand
  rw [of32_nat, of32_nat, nI_and, nI_int (Nat.lt_of_le_of_lt Nat.and_le_left h)]
theorem ior_n {a b : Nat} (ha : a < 2147483648) (hb : b < 2147483648) : ior a b = ((a ||| b : Nat) : Int) := by
  unfold ior
  rw [of32_nat, of32_nat, nI_or, nI_int (Nat.or_lt_two_pow (n := 31) ha hb)]
theorem ishr_n {a i : Nat} (ha : a < 2147483648) (hi : i < 32) : ishr a i = ((a / 2 ^ i : Nat) : Int) := by
  unfold ishr
  rw [of32_nat, of32_nat, pk_shrN ha (nI i &&& 31) i (sh31 i hi), nI_int (Nat.lt_of_le_of_lt (Nat.div_le_self _ _) ha)]
theorem ishl_n {a i : Nat} (h : a * 2 ^ i < 2147483648) (hi : i < 32) : ishl a i = ((a * 2 ^ i : Nat) : Int) := by
  unfold ishl
  rw [of32_nat, of32_nat, pk_shlN (nI i &&& 31) i (sh31 i hi) (by omega), nI_int h]
theorem shl1 {i : Nat} (hi : i < 31) : ishl 1 i = ((2 ^ i : Nat) : Int) := by
  have h : 1 * 2 ^ i < 2147483648 := by
    rw [Nat.one_mul]
    exact Nat.pow_lt_pow_right (a := 2) (by decide) hi
  have := ishl_n (a := 1) (i := i) h (by omega)
  rwa [Nat.one_mul] at this
/-- a set without some -/
def without (a b : Nat) : Nat := a &&& (b ^^^ 2147483647)
theorem iandn_n {a b : Nat} (ha : a < 2147483648) (hb : b < 2147483648) : iand a (ixor b (-1)) = (without a b : Nat) := by
  have hx : ixor b (-1) = -1 - b := by
    have h1 : Int32.ofInt (b : Int) ^^^ Int32.ofInt (-1) = Int32.ofInt (-1 - b) := by
      rw [show Int32.ofInt (-1 - (b : Int)) = Int32.ofInt (-1) - Int32.ofInt b from Int32.ofInt_sub _ _]
      apply Int32.toBitVec_inj.1
      show (nI b).toBitVec ^^^ BitVec.allOnes 32 = BitVec.allOnes 32 - (nI b).toBitVec
      rw [BitVec.allOnes_sub_eq_not, BitVec.xor_allOnes]
    unfold ixor
    rw [h1, toInt_of32 (by unfold in32; omega)]
  have hn : Int32.ofInt (-1 - (b : Int)) = nI (b ^^^ 4294967295) := by
    apply Int32.toBitVec_inj.1
    rw [show Int32.ofInt (-1 - (b : Int)) = Int32.ofInt (-1) - Int32.ofInt b from Int32.ofInt_sub _ _]
    show BitVec.allOnes 32 - (nI b).toBitVec = BitVec.ofNat 32 (b ^^^ 4294967295)
    rw [BitVec.allOnes_sub_eq_not, ← BitVec.xor_allOnes]
    show BitVec.ofNat 32 b ^^^ BitVec.allOnes 32 = _
    apply BitVec.eq_of_getLsbD_eq
    intro i hi
    have h3 : Nat.testBit 4294967295 i = true := by
      rw [show (4294967295 : Nat) = 2 ^ 32 - 1 by decide, Nat.testBit_two_pow_sub_one]
      simpa using hi
    simp [hi, Nat.testBit_xor, h3]
  unfold iand
  rw [hx, hn, of32_nat, nI_and]
  have e : a &&& (b ^^^ 4294967295) = without a b := by
    unfold without
    apply Nat.eq_of_testBit_eq
    intro i
    rw [Nat.testBit_and, Nat.testBit_and, Nat.testBit_xor, Nat.testBit_xor]
    by_cases hi : i < 31
    · rw [show (4294967295 : Nat) = 2 ^ 32 - 1 by decide, show (2147483647 : Nat) = 2 ^ 31 - 1 by decide, Nat.testBit_two_pow_sub_one, Nat.testBit_two_pow_sub_one]
      simp [hi, show i < 32 by omega]
    · rw [Nat.testBit_lt_two_pow (x := a) (Nat.lt_of_lt_of_le ha (Nat.pow_le_pow_right (n := 2) (by decide) (show 31 ≤ i by omega)))]
      simp
  rw [e, nI_int]
  exact Nat.lt_of_le_of_lt Nat.and_le_left ha
theorem bit_mod {a i : Nat} : a / 2 ^ i % 2 = if a.testBit i then 1 else 0 := by
  rw [Nat.testBit_eq_decide_div_mod_eq]
  by_cases h : a / 2 ^ i % 2 = 1
  · simp [h]
  · have : a / 2 ^ i % 2 = 0 := by omega
    simp [this]
theorem and1 (a : Nat) : a &&& 1 = a % 2 := Nat.and_one_is_mod a
/-- bit i of a small number, as the class asks for it -/
theorem has_n {a i : Nat} (ha : a < 2147483648) (hi : i < 31) : iand (ishr a i) 1 = if a.testBit i then 1 else 0 := by
  rw [ishr_n ha (by omega), show (1 : Int) = ((1 : Nat) : Int) from rfl, iand_n (Nat.lt_of_le_of_lt (Nat.div_le_self _ _) ha), and1, bit_mod]
  split <;> rfl
/-- two heaps whose numbers differ at most where P says -/
def Fp (P : Nat → Nat → Prop) (h h' : Hp) : Prop := hN h' = hN h ∧ hS h' = hS h ∧ (∀ a, hK h' a = hK h a) ∧ (∀ a k, hR h' a k = hR h a k) ∧ ∀ a k, ¬ P a k → hI h' a k = hI h a k ∧ hJ h' a k = hJ h a k
theorem Fp.refl (P : Nat → Nat → Prop) (h : Hp) : Fp P h h := ⟨rfl, rfl, fun _ => rfl, fun _ _ => rfl, fun _ _ _ => ⟨rfl, rfl⟩⟩
theorem Fp.trans {P : Nat → Nat → Prop} {h h1 h2 : Hp} (a : Fp P h h1) (b : Fp P h1 h2) : Fp P h h2 := ⟨b.1.trans a.1, b.2.1.trans a.2.1, fun q => (b.2.2.1 q).trans (a.2.2.1 q), fun q k => (b.2.2.2.1 q k).trans (a.2.2.2.1 q k), fun q k hq => ⟨(b.2.2.2.2 q k hq).1.trans (a.2.2.2.2 q k hq).1, (b.2.2.2.2 q k hq).2.trans (a.2.2.2.2 q k hq).2⟩⟩
theorem Fp.mono {P P' : Nat → Nat → Prop} {h h1 : Hp} (a : Fp P h h1) (hs : ∀ q k, P q k → P' q k) : Fp P' h h1 := ⟨a.1, a.2.1, a.2.2.1, a.2.2.2.1, fun q k hq => a.2.2.2.2 q k (fun hm => hq (hs q k hm))⟩
theorem Fp.I {P : Nat → Nat → Prop} {h h' : Hp} (f : Fp P h h') {a k : Nat} (ha : ¬ P a k) : hI h' a k = hI h a k := (f.2.2.2.2 a k ha).1
theorem Fp.J {P : Nat → Nat → Prop} {h h' : Hp} (f : Fp P h h') {a k : Nat} (ha : ¬ P a k) : hJ h' a k = hJ h a k := (f.2.2.2.2 a k ha).2
theorem Fp.R {P : Nat → Nat → Prop} {h h' : Hp} (f : Fp P h h') (a k : Nat) : hR h' a k = hR h a k := f.2.2.2.1 a k
theorem Fp.K {P : Nat → Nat → Prop} {h h' : Hp} (f : Fp P h h') (a : Nat) : hK h' a = hK h a := f.2.2.1 a
theorem Fp.N {P : Nat → Nat → Prop} {h h' : Hp} (f : Fp P h h') : hN h' = hN h := f.1
theorem Fp.S {P : Nat → Nat → Prop} {h h' : Hp} (f : Fp P h h') : hS h' = hS h := f.2.1
theorem Fp.wI {P : Nat → Nat → Prop} {h h' : Hp} (f : Fp P h h') {a k : Nat} (ha : P a k) (v : Int) : Fp P h (wI h' a k v) := by
  refine f.trans ⟨rfl, rfl, fun _ => rfl, fun _ _ => rfl, fun b j hb => ⟨?_, rfl⟩⟩
  rw [hI_wI, if_neg (fun q => hb (by rw [q.1, q.2]; exact ha))]
theorem Fp.wJ {P : Nat → Nat → Prop} {h h' : Hp} (f : Fp P h h') {a k : Nat} (ha : P a k) (v : Int) : Fp P h (wJ h' a k v) := by
  refine f.trans ⟨rfl, rfl, fun _ => rfl, fun _ _ => rfl, fun b j hb => ⟨rfl, ?_⟩⟩
  rw [hJ_wJ, if_neg (fun q => hb (by rw [q.1, q.2]; exact ha))]
/-- a loop that counts: what holds at the head, round by round -/
theorem wp_iter {α : Type} (W : α → Prop) (I : Nat → α → Prop) (N : Nat) (hstep : ∀ i x, i < N → I i x → (∀ y, I (i + 1) y → W y) → W x) (hend : ∀ x, I N x → W x) : ∀ i x, i ≤ N → I i x → W x := by
  have : ∀ n i x, i + n = N → I i x → W x := by
    intro n
    induction n with
    | zero => intro i x hi hx; exact hend x (by rw [← hi]; exact hx)
    | succ n ih => intro i x hi hx; exact hstep i x (by omega) hx (fun y hy => ih (i + 1) y (by omega) hy)
  intro i x hi hx
  exact this (N - i) i x (by omega) hx
theorem wp_for (W I : Nat → Hp → Prop) (N : Nat) (hstep : ∀ i h, i < N → I i h → (∀ h', I (i + 1) h' → W (i + 1) h') → W i h) (hend : ∀ h, I N h → W N h) : ∀ i h, i ≤ N → I i h → W i h := by
  have : ∀ n i h, i + n = N → I i h → W i h := by
    intro n
    induction n with
    | zero => intro i h hi hx; cases hi; exact hend h hx
    | succ n ih => intro i h hi hx; exact hstep i h (by omega) hx (fun y hy => ih (i + 1) y (by omega) hy)
  intro i h hi hx
  exact this (N - i) i h (by omega) hx
theorem wp_for2 {β : Type} (W I : Nat → Hp → β → Prop) (N : Nat) (hstep : ∀ i h b, i < N → I i h b → (∀ h' b', I (i + 1) h' b' → W (i + 1) h' b') → W i h b) (hend : ∀ h b, I N h b → W N h b) : ∀ i h b, i ≤ N → I i h b → W i h b := by
  have : ∀ n i h b, i + n = N → I i h b → W i h b := by
    intro n
    induction n with
    | zero => intro i h b hi hx; cases hi; exact hend h b hx
    | succ n ih => intro i h b hi hx; exact hstep i h b (by omega) hx (fun y c hy => ih (i + 1) y c (by omega) hy)
  intro i h b hi hx
  exact this (N - i) i h b (by omega) hx
theorem lcm_neg (a b : Int) : (lcm a b < 0) = (a < b) := by
  unfold lcm
  by_cases h1 : a < b
  · simp [h1]
  · by_cases h2 : a = b
    · simp [h2]
    · simp [h1, h2]
theorem lcm_pos (a b : Int) : (0 < lcm a b) = (b < a) := by
  unfold lcm
  by_cases h1 : a < b
  · simp [h1]; omega
  · by_cases h2 : a = b
    · simp [h2]
    · simp [h1, h2]; omega
theorem lcm_zero (a b : Int) : (lcm a b = 0) = (a = b) := by
  unfold lcm
  by_cases h1 : a < b
  · simp [h1]; omega
  · by_cases h2 : a = b
    · simp [h2]
    · simp [h1, h2]
def clampI (z lo hi : Int) : Int := if z < lo then lo else if hi < z then hi else z
