/-! helpers of both -/
theorem tabT_out {pc : Nat} {df lo hi x : Int} {offs : List Int} (h : x < lo ∨ hi < x) : tabT pc df lo hi offs x = tgt pc df := if_pos h
def CpF (h : Hp) (A : Nat → Int) : Prop := CsOk h ∧ 114 ≤ hN h ∧ (PoolIs h (hR h 200 7) A ∧ PoolIn h (hR h 200 7)) ∧ poolOk A
theorem CRep.cp {h : Hp} {σ : AS} (x : CRep h σ) (w : WF σ) : CpF h (sA σ) := ⟨x.1.1, x.1.2.1, x.1.2.2.1, w.1⟩
theorem CpF.get {h : Hp} {A : Nat → Int} (x : CpF h A) : ∃ p, hR h 200 7 = p ∧ 255 ≤ p ∧ (p ≤ 255 ∨ 314 ≤ p) ∧ p + 6 < 200 + hN h ∧ hK h p = (5, 0) ∧ hR h p 0 = p + 1 ∧ hR h p 1 = p + 2 ∧ hR h p 2 = p + 3 ∧ hR h p 5 = p + 6 ∧ hK h (p + 1) = (21, 6) ∧ hK h (p + 2) = (21, 6) ∧ hK h (p + 3) = (21, 6) ∧ hK h (p + 6) = (21, 6) ∧ hI h p 10 = A 1 ∧ hI h p 11 = A 2 ∧ hI h p 12 = A 0 ∧ (∀ t : Nat, (t : Int) < A 1 → hI h (p + 1) t = A (9 + t) ∧ hI h (p + 2) t = A (15 + t) ∧ hI h (p + 3) t = A (21 + t)) ∧ ∀ g, g < 6 → hI h (p + 6) g = A (27 + g) := by
  obtain ⟨m, n, ⟨⟨⟨x0, x1, x2, x3, x4, x5, x6, x7, x8, x9, x10, x11⟩, y1, y2, y3, y4, y5⟩, q⟩, po⟩ := x
  have z1 := q.2 (hR h 200 7) (Or.inl ⟨by omega, by omega⟩)
  have z2 := q.2 (hR h 200 7 + 6) (Or.inl ⟨by omega, by omega⟩)
  have t0 := po.1
  have t6 := po.2.1
  have q1 := q.1
  have eT : ((pdA A).1 : Int) = A 1 := by show ((A 1).toNat : Int) = A 1; omega
  refine ⟨hR h 200 7, rfl, by omega, by omega, z2.1, x1, x2, x3, x4, y3, x5, x6, x7, y4, by rw [x8]; exact eT, y1, y2, fun t ht => ?_, y5⟩
  obtain ⟨w1, w2, w3⟩ := x9 t (by show t < (A 1).toNat; omega)
  refine ⟨w1, w2, ?_⟩
  rw [w3]
  have := po.2.2.2.2.2.1 t (by omega)
  show ((A (21 + t)).toNat : Int) = A (21 + t)
  omega
def stc (a : Nat) : Prop := 201 ≤ a ∧ a < 314 ∧ (a < 255 ∨ 261 < a)
theorem CpF.fr {P : Nat → Nat → Prop} {h h' : Hp} {A : Nat → Int} (f : Fp P h h') (hs : ∀ a k, P a k → stc a) (x : CpF h A) : CpF h' A := by
  obtain ⟨m, n, ⟨p1, p2⟩, po⟩ := x
  have pc : ∀ a, PlCell h (hR h 200 7) a → a < 200 + hN h ∧ ¬ stc a := fun a ha => by
    obtain ⟨y1, y2, y3⟩ := p2.2 a ha
    exact ⟨y1, by unfold stc; omega⟩
  have fa := f.fa (S := stc) hs
  refine ⟨m.fr f, by rw [f.N]; exact n, ?_, po⟩
  rw [f.R]
  exact ⟨(p1.fa fa pc).1, p2.fa fa n (by unfold stc; omega) (pc _ (Or.inl ⟨by omega, by omega⟩)).2⟩
theorem CpF.lk {h : Hp} {A : Nat → Int} (x : CpF h A) {s : Nat} (hs : s = 214 ∨ s = 217) {B : Nat → Int} (st : StIs h s B) (ok : stOk B) {g : Nat} (hg : g < 6) : LkC h (hR h 200 7) s (pdA A) g (B 0).toNat (B 1).toNat (B (2 + g)) (B (8 + g)) := by
  obtain ⟨m, n, ⟨p1, p2⟩, po⟩ := x
  obtain ⟨o1, o2, o3, o4, o5⟩ := ok
  obtain ⟨o6, o7, o8, o9⟩ := o5 g hg
  obtain ⟨s1, s2⟩ := st.2.2 g hg
  have r0 : hR h s 0 = s + 1 := by
    rcases hs with rfl | rfl
    · exact Cs_R214_0 m
    · exact Cs_R217_0 m
  have r1 : hR h s 1 = s + 2 := by
    rcases hs with rfl | rfl
    · exact Cs_R214_1 m
    · exact Cs_R217_1 m
  have sa : StAt h s := by
    unfold StAt
    rw [r0, r1]
    rcases hs with rfl | rfl
    · exact ⟨by omega, by omega, by omega, Cs_K214 m, Cs_K215 m, Cs_K216 m⟩
    · exact ⟨by omega, by omega, by omega, Cs_K217 m, Cs_K218 m, Cs_K219 m⟩
  exact ⟨m.dv, p1.1, po.2.2.2.2.1, sa, by rw [r0]; exact s1, by rw [r1]; exact s2, o6, o7, o8, o9, hg, by omega, by omega⟩
theorem S_cThing {d : Nat} {h : Hp} {A : Nat → Int} {Q : Option PV → Hp → Prop} (x : CpF h A) {t : Int} : WP d mX11_isThing 0 [some (.inr (.inr 200)), some (.inl t)] [] h Q = Q (some (.inl (if 0 ≤ t ∧ t < A 1 then 1 else 0))) h := by
  obtain ⟨p, hp, p1, p2, p3, pk, pr0, pr1, pr2, pr5, k1, k2, k3, k6, pT, pG, pL, prw, pod⟩ := x.get
  simp only [rX11_isThing_0, rX11_isThing_1, rX11_isThing_4, rX11_isThing_5, rX11_isThing_6, rX11_isThing_9, rX11_isThing_12, rX11_isThing_15, rX11_isThing_16, rX11_isThing_19, rX11_isThing_20, Cs_K200 x.1, hp, pk, pT, Int.toNat_natCast, Int.natCast_nonneg, true_and, and_true, and_self, if_true, if_false, or_true, true_or, or_false, false_or, ne_eq, not_true_eq_false, not_false_eq_true, Nat.reduceLeDiff, Nat.reduceEqDiff, Nat.reduceLT, Nat.reduceAdd, Nat.reduceMul, Nat.reduceSub, Int.reduceLT, Int.reduceLE, Int.reduceEq, Int.reduceToNat, Int.reduceAdd, Int.reduceSub, Int.reduceMul, Int.reduceNeg, Int.cast_ofNat_Int, false_and, and_false]
  by_cases h1 : t < 0
  · rw [if_pos h1, if_neg (by omega)]
  · rw [if_neg h1]
    by_cases h2 : t < A 1
    · rw [if_pos h2, if_pos ⟨by omega, h2⟩]
    · rw [if_neg h2, if_neg (by omega)]
theorem S_cGoer {d : Nat} {h : Hp} {A : Nat → Int} {Q : Option PV → Hp → Prop} (x : CpF h A) {t : Int} : WP d mX11_isGoer 0 [some (.inr (.inr 200)), some (.inl t)] [] h Q = Q (some (.inl (if 0 ≤ t ∧ t < A 2 then 1 else 0))) h := by
  obtain ⟨p, hp, p1, p2, p3, pk, pr0, pr1, pr2, pr5, k1, k2, k3, k6, pT, pG, pL, prw, pod⟩ := x.get
  simp only [rX11_isGoer_0, rX11_isGoer_1, rX11_isGoer_4, rX11_isGoer_5, rX11_isGoer_6, rX11_isGoer_9, rX11_isGoer_12, rX11_isGoer_15, rX11_isGoer_16, rX11_isGoer_19, rX11_isGoer_20, Cs_K200 x.1, hp, pk, pG, Int.toNat_natCast, Int.natCast_nonneg, true_and, and_true, and_self, if_true, if_false, or_true, true_or, or_false, false_or, ne_eq, not_true_eq_false, not_false_eq_true, Nat.reduceLeDiff, Nat.reduceEqDiff, Nat.reduceLT, Nat.reduceAdd, Nat.reduceMul, Nat.reduceSub, Int.reduceLT, Int.reduceLE, Int.reduceEq, Int.reduceToNat, Int.reduceAdd, Int.reduceSub, Int.reduceMul, Int.reduceNeg, Int.cast_ofNat_Int, false_and, and_false]
  by_cases h1 : t < 0
  · rw [if_pos h1, if_neg (by omega)]
  · rw [if_neg h1]
    by_cases h2 : t < A 2
    · rw [if_pos h2, if_pos ⟨by omega, h2⟩]
    · rw [if_neg h2, if_neg (by omega)]
theorem S_cTray {d : Nat} {h : Hp} {Q : Option PV → Hp → Prop} (m : CsOk h) {t : Int} : WP d mX11_isTray 0 [some (.inr (.inr 200)), some (.inl t)] [] h Q = Q (some (.inl (if 0 ≤ t ∧ t < 4 then 1 else 0))) h := by
  simp only [rX11_isTray_0, rX11_isTray_1, rX11_isTray_4, rX11_isTray_5, rX11_isTray_6, rX11_isTray_9, rX11_isTray_10, rX11_isTray_13, rX11_isTray_14, rX11_isTray_17, rX11_isTray_18, Cs_K200 m, Cs_R200_0 m, Cs_R200_1 m, Cs_R200_2 m, Cs_R200_3 m, Cs_R200_4 m, Cs_R200_5 m, Cs_R200_6 m, Cs_K201 m, Cs_R201_0 m, Cs_R201_1 m, Cs_K202 m, Cs_K203 m, Cs_K211 m, Cs_R211_0 m, Cs_R211_1 m, Cs_K212 m, Cs_K213 m, Cs_K214 m, Cs_R214_0 m, Cs_R214_1 m, Cs_K215 m, Cs_K216 m, Cs_K217 m, Cs_R217_0 m, Cs_R217_1 m, Cs_K218 m, Cs_K219 m, Cs_K220 m, Cs_R220_0 m, Cs_K221 m, Cs_K262 m, Cs_K271 m, Cs_R271_0 m, Cs_R271_1 m, Cs_K272 m, Cs_K276 m, Cs_R272_0 m, Cs_R276_0 m, Cs_K273 m, Cs_R273_0 m, Cs_R273_1 m, Cs_K274 m, Cs_K275 m, Cs_K277 m, Cs_R277_0 m, Cs_R277_1 m, Cs_K278 m, Cs_K279 m, Cs_R262_0 m, Cs_K263 m, Cs_R263_0 m, Cs_K264 m, Cs_R262_1 m, Cs_K265 m, Cs_R265_0 m, Cs_K266 m, Cs_R262_2 m, Cs_K267 m, Cs_R267_0 m, Cs_K268 m, Cs_R262_3 m, Cs_K269 m, Cs_R269_0 m, Cs_K270 m, Int.toNat_natCast, Int.natCast_nonneg, true_and, and_true, and_self, if_true, if_false, or_true, true_or, or_false, false_or, ne_eq, not_true_eq_false, not_false_eq_true, Nat.reduceLeDiff, Nat.reduceEqDiff, Nat.reduceLT, Nat.reduceAdd, Nat.reduceMul, Nat.reduceSub, Int.reduceLT, Int.reduceLE, Int.reduceEq, Int.reduceToNat, Int.reduceAdd, Int.reduceSub, Int.reduceMul, Int.reduceNeg, Int.cast_ofNat_Int, false_and, and_false]
  by_cases h1 : t < 0
  · rw [if_pos h1, if_neg (by omega)]
  · rw [if_neg h1]
    by_cases h2 : t < 4
    · rw [if_pos h2, if_pos ⟨by omega, h2⟩]
    · rw [if_neg h2, if_neg (by omega)]
theorem pow6 {n : Nat} (h : n ≤ 6) : 2 ^ n ≤ 64 := by
  have := Nat.pow_le_pow_right (n := 2) (by decide) h
  exact this
theorem all_n {z : Int} (h0 : 0 ≤ z) (h6 : z ≤ 6) : w32 (ishl 1 z - 1) = ((2 ^ z.toNat - 1 : Nat) : Int) := by
  obtain ⟨n, rfl⟩ := Int.eq_ofNat_of_zero_le h0
  have := pow6 (n := n) (by omega)
  have := Nat.one_le_two_pow (n := n)
  rw [shl1 (by omega), w32_i (by omega) (by omega), Int.toNat_natCast]
  omega
theorem S_cAll {d : Nat} {h : Hp} {A : Nat → Int} {Q : Option PV → Hp → Prop} (x : CpF h A) : WP d mX11_allGoers 0 [some (.inr (.inr 200))] [] h Q = Q (some (.inl ((2 ^ (A 2).toNat - 1 : Nat) : Int))) h := by
  obtain ⟨p, hp, p1, p2, p3, pk, pr0, pr1, pr2, pr5, k1, k2, k3, k6, pT, pG, pL, prw, pod⟩ := x.get
  have po := x.2.2.2
  simp only [rX11_allGoers_0, rX11_allGoers_1, rX11_allGoers_2, rX11_allGoers_5, rX11_allGoers_8, rX11_allGoers_9, rX11_allGoers_10, rX11_allGoers_11, Cs_K200 x.1, hp, pk, pG, Int.toNat_natCast, Int.natCast_nonneg, true_and, and_true, and_self, if_true, if_false, or_true, true_or, or_false, false_or, ne_eq, not_true_eq_false, not_false_eq_true, Nat.reduceLeDiff, Nat.reduceEqDiff, Nat.reduceLT, Nat.reduceAdd, Nat.reduceMul, Nat.reduceSub, Int.reduceLT, Int.reduceLE, Int.reduceEq, Int.reduceToNat, Int.reduceAdd, Int.reduceSub, Int.reduceMul, Int.reduceNeg, Int.cast_ofNat_Int, false_and, and_false, all_n po.2.2.1 po.2.2.2.1]
/-- an int of 32 bits -/
def i32 (z : Int) : Prop := -2147483648 ≤ z ∧ z < 2147483648
theorem set_n {z : Int} (hz : i32 z) {n : Nat} (hn : n ≤ 6) : (iand z (ixor ((2 ^ n - 1 : Nat) : Int) (-1)) = 0) = (0 ≤ z ∧ z < ((2 ^ n : Nat) : Int)) := by
  have h64 := pow6 hn
  have h1 := Nat.one_le_two_pow (n := n)
  have hb : (2 ^ n - 1 : Nat) < 2147483648 := by omega
  have hx : ixor ((2 ^ n - 1 : Nat) : Int) (-1) = -1 - ((2 ^ n - 1 : Nat) : Int) := by
    have h1 : Int32.ofInt ((2 ^ n - 1 : Nat) : Int) ^^^ Int32.ofInt (-1) = Int32.ofInt (-1 - ((2 ^ n - 1 : Nat) : Int)) := by
      rw [show Int32.ofInt (-1 - ((2 ^ n - 1 : Nat) : Int)) = Int32.ofInt (-1) - Int32.ofInt ((2 ^ n - 1 : Nat) : Int) from Int32.ofInt_sub _ _]
      apply Int32.toBitVec_inj.1
      show (nI (2 ^ n - 1)).toBitVec ^^^ BitVec.allOnes 32 = BitVec.allOnes 32 - (nI (2 ^ n - 1)).toBitVec
      rw [BitVec.allOnes_sub_eq_not, BitVec.xor_allOnes]
    unfold ixor
    rw [h1, toInt_of32 (by unfold in32; omega)]
  apply propext
  constructor
  · intro h
    by_cases h0 : 0 ≤ z
    · refine ⟨h0, ?_⟩
      obtain ⟨m, rfl⟩ := Int.eq_ofNat_of_zero_le h0
      rw [iandn_n (by have := hz.2; omega) hb] at h
      have h' : without m (2 ^ n - 1) = 0 := by omega
      unfold without at h'
      have hlt : m < 2 ^ n := by
        apply Nat.lt_pow_two_of_testBit
        intro i hi
        have := congrArg (fun x => Nat.testBit x i) h'
        simp only [Nat.testBit_and, Nat.testBit_xor, Nat.zero_testBit, Nat.testBit_two_pow_sub_one] at this
        by_cases h31 : i < 31
        · rw [show (2147483647 : Nat) = 2 ^ 31 - 1 by decide, Nat.testBit_two_pow_sub_one] at this
          simpa [h31, show ¬ (i < n) by omega] using this
        · exact Nat.testBit_lt_two_pow (Nat.lt_of_lt_of_le (show m < 2 ^ 31 by have := hz.2; omega) (Nat.pow_le_pow_right (n := 2) (by decide) (by omega)))
      omega
    · exfalso
      rw [hx] at h
      unfold iand at h
      have e : Int32.ofInt z &&& Int32.ofInt (-1 - ((2 ^ n - 1 : Nat) : Int)) = 0 := by
        apply Int32.toInt_inj.1
        exact h
      have e2 := congrArg (fun x : Int32 => x.toBitVec.msb) e
      have m1 : (Int32.ofInt z).toBitVec.msb = true := by
        show (BitVec.ofInt 32 z).msb = true
        rw [BitVec.msb_eq_toInt, BitVec.toInt_ofInt]
        have := hz.1
        simp [Int.bmod]
        omega
      have m2 : (Int32.ofInt (-1 - ((2 ^ n - 1 : Nat) : Int))).toBitVec.msb = true := by
        show (BitVec.ofInt 32 (-1 - ((2 ^ n - 1 : Nat) : Int))).msb = true
        rw [BitVec.msb_eq_toInt, BitVec.toInt_ofInt]
        simp [Int.bmod]
        omega
      simp only [Int32.toBitVec_and, BitVec.msb_and, m1, m2] at e2
      simp at e2
  · rintro ⟨h0, h1⟩
    obtain ⟨m, rfl⟩ := Int.eq_ofNat_of_zero_le h0
    rw [iandn_n (by have := hz.2; omega) hb]
    have : without m (2 ^ n - 1) = 0 := by
      unfold without
      apply Nat.eq_of_testBit_eq
      intro i
      simp only [Nat.testBit_and, Nat.testBit_xor, Nat.zero_testBit, Nat.testBit_two_pow_sub_one]
      by_cases hi : i < n
      · rw [show (2147483647 : Nat) = 2 ^ 31 - 1 by decide, Nat.testBit_two_pow_sub_one]
        simp [hi, show i < 31 by omega]
      · rw [Nat.testBit_lt_two_pow (Nat.lt_of_lt_of_le (show m < 2 ^ n by omega) (Nat.pow_le_pow_right (n := 2) (by decide) (by omega)))]
        simp
    omega
theorem S_cSet {d : Nat} {h : Hp} {A : Nat → Int} {Q : Option PV → Hp → Prop} (x : CpF h A) {t : Int} (ht : i32 t) : WP (d + 1) mX11_isSet 0 [some (.inr (.inr 200)), some (.inl t)] [] h Q = Q (some (.inl (if 0 ≤ t ∧ t < ((2 ^ (A 2).toNat : Nat) : Int) then 1 else 0))) h := by
  have po := x.2.2.2
  have e := set_n ht (n := (A 2).toNat) (by have := po.2.2.2.1; omega)
  simp only [rX11_isSet_0, rX11_isSet_1, rX11_isSet_2, rX11_isSet_5, rX11_isSet_6, rX11_isSet_7, rX11_isSet_8, rX11_isSet_11, rX11_isSet_12, rX11_isSet_15, rX11_isSet_16, Cs_K200 x.1, S_cAll x, psh_some, Int.toNat_natCast, Int.natCast_nonneg, true_and, and_true, and_self, if_true, if_false, or_true, true_or, or_false, false_or, ne_eq, not_true_eq_false, not_false_eq_true, Nat.reduceLeDiff, Nat.reduceEqDiff, Nat.reduceLT, Nat.reduceAdd, Nat.reduceMul, Nat.reduceSub, Int.reduceLT, Int.reduceLE, Int.reduceEq, Int.reduceToNat, Int.reduceAdd, Int.reduceSub, Int.reduceMul, Int.reduceNeg, Int.cast_ofNat_Int, false_and, and_false, e]
  by_cases h1 : 0 ≤ t ∧ t < ((2 ^ (A 2).toNat : Nat) : Int)
  · simp only [h1, Int.toNat_natCast, Int.natCast_nonneg, true_and, and_true, and_self, if_true, if_false, or_true, true_or, or_false, false_or, ne_eq, not_true_eq_false, not_false_eq_true, Nat.reduceLeDiff, Nat.reduceEqDiff, Nat.reduceLT, Nat.reduceAdd, Nat.reduceMul, Nat.reduceSub, Int.reduceLT, Int.reduceLE, Int.reduceEq, Int.reduceToNat, Int.reduceAdd, Int.reduceSub, Int.reduceMul, Int.reduceNeg, Int.cast_ofNat_Int, false_and, and_false]
  · simp only [h1, Int.toNat_natCast, Int.natCast_nonneg, true_and, and_true, and_self, if_true, if_false, or_true, true_or, or_false, false_or, ne_eq, not_true_eq_false, not_false_eq_true, Nat.reduceLeDiff, Nat.reduceEqDiff, Nat.reduceLT, Nat.reduceAdd, Nat.reduceMul, Nat.reduceSub, Int.reduceLT, Int.reduceLE, Int.reduceEq, Int.reduceToNat, Int.reduceAdd, Int.reduceSub, Int.reduceMul, Int.reduceNeg, Int.cast_ofNat_Int, false_and, and_false]
def RpF (h : Hp) (A : Nat → Int) : Prop := MdOk h ∧ AtA h A ∧ poolOk A
theorem RRep.rp {h : Hp} {σ : AS} (x : RRep h σ) (w : WF σ) : RpF h (sA σ) := ⟨x.1, x.2.1, w.1⟩
theorem S_within {d : Nat} {h : Hp} {Q : Option PV → Hp → Prop} {v a b : Int} : WP d mX12_within 0 [some (.inr (.inl v)), none, some (.inr (.inl a)), none, some (.inr (.inl b)), none] [] h Q = Q (some (.inl (if a ≤ v ∧ v ≤ b then 1 else 0))) h := by
  simp only [rX12_within_0, rX12_within_1, rX12_within_2, rX12_within_3, rX12_within_6, rX12_within_7, rX12_within_9, rX12_within_10, rX12_within_13, rX12_within_14, rX12_within_17, rX12_within_18, lcm_neg, lcm_pos, Int.toNat_natCast, Int.natCast_nonneg, true_and, and_true, and_self, if_true, if_false, or_true, true_or, or_false, false_or, ne_eq, not_true_eq_false, not_false_eq_true, Nat.reduceLeDiff, Nat.reduceEqDiff, Nat.reduceLT, Nat.reduceAdd, Nat.reduceMul, Nat.reduceSub, Int.reduceLT, Int.reduceLE, Int.reduceEq, Int.reduceToNat, Int.reduceAdd, Int.reduceSub, Int.reduceMul, Int.reduceNeg, Int.cast_ofNat_Int, false_and, and_false]
  by_cases h1 : v < a
  · rw [if_pos h1, if_neg (by omega)]
  · rw [if_neg h1]
    by_cases h2 : b < v
    · rw [if_pos h2, if_neg (by omega)]
    · rw [if_neg h2, if_pos ⟨by omega, by omega⟩]
theorem S_rThing {d : Nat} {h : Hp} {A : Nat → Int} {Q : Option PV → Hp → Prop} (x : RpF h A) {t : Int} : WP (d + 1) mX12_isThing 0 [some (.inr (.inr 294)), some (.inr (.inl t)), none] [] h Q = Q (some (.inl (if 0 ≤ t ∧ t < A 1 then 1 else 0))) h := by
  obtain ⟨m, a, po⟩ := x
  have a1 : hI h 295 1 = A 1 := a 1 (by omega)
  have p0 := po.1
  have p1 := po.2.1
  simp only [rX12_isThing_0, rX12_isThing_1, rX12_isThing_2, rX12_isThing_3, rX12_isThing_6, rX12_isThing_7, rX12_isThing_8, rX12_isThing_9, rX12_isThing_10, rX12_isThing_11, rX12_isThing_14, Md_K280 m, Md_R281 m, Md_K281 m, Md_R282 m, Md_K282 m, Md_R283 m, Md_K283 m, Md_R284 m, Md_K284 m, Md_R285 m, Md_K285 m, Md_R286 m, Md_K286 m, Md_R287 m, Md_K287 m, Md_R288 m, Md_K288 m, Md_R289 m, Md_K289 m, Md_R290 m, Md_K290 m, Md_R291 m, Md_K291 m, Md_R292 m, Md_K292 m, Md_R293 m, Md_K293 m, Md_R294 m, Md_K294 m, Md_R295 m, Md_K295 m, Md_R296 m, Md_K296 m, Md_R297 m, Md_K297 m, Md_R298 m, Md_K298 m, Md_R299 m, Md_K299 m, a1, Int.toNat_natCast, Int.natCast_nonneg, true_and, and_true, and_self, if_true, if_false, or_true, true_or, or_false, false_or, ne_eq, not_true_eq_false, not_false_eq_true, Nat.reduceLeDiff, Nat.reduceEqDiff, Nat.reduceLT, Nat.reduceAdd, Nat.reduceMul, Nat.reduceSub, Int.reduceLT, Int.reduceLE, Int.reduceEq, Int.reduceToNat, Int.reduceAdd, Int.reduceSub, Int.reduceMul, Int.reduceNeg, Int.cast_ofNat_Int, false_and, and_false, S_within, psh_some, w32_i (z := A 1 - 1) (by omega) (by omega)]
  by_cases h1 : 0 ≤ t ∧ t < A 1
  · rw [if_pos h1, if_pos (by omega)]; simp
  · rw [if_neg h1, if_neg (by omega)]; simp
theorem S_rGoer {d : Nat} {h : Hp} {A : Nat → Int} {Q : Option PV → Hp → Prop} (x : RpF h A) {t : Int} : WP (d + 1) mX12_isGoer 0 [some (.inr (.inr 294)), some (.inr (.inl t)), none] [] h Q = Q (some (.inl (if 0 ≤ t ∧ t < A 2 then 1 else 0))) h := by
  obtain ⟨m, a, po⟩ := x
  have a1 : hI h 295 2 = A 2 := a 2 (by omega)
  have p0 := po.2.2.1
  have p1 := po.2.2.2.1
  simp only [rX12_isGoer_0, rX12_isGoer_1, rX12_isGoer_2, rX12_isGoer_3, rX12_isGoer_6, rX12_isGoer_7, rX12_isGoer_8, rX12_isGoer_9, rX12_isGoer_10, rX12_isGoer_11, rX12_isGoer_14, Md_K280 m, Md_R281 m, Md_K281 m, Md_R282 m, Md_K282 m, Md_R283 m, Md_K283 m, Md_R284 m, Md_K284 m, Md_R285 m, Md_K285 m, Md_R286 m, Md_K286 m, Md_R287 m, Md_K287 m, Md_R288 m, Md_K288 m, Md_R289 m, Md_K289 m, Md_R290 m, Md_K290 m, Md_R291 m, Md_K291 m, Md_R292 m, Md_K292 m, Md_R293 m, Md_K293 m, Md_R294 m, Md_K294 m, Md_R295 m, Md_K295 m, Md_R296 m, Md_K296 m, Md_R297 m, Md_K297 m, Md_R298 m, Md_K298 m, Md_R299 m, Md_K299 m, a1, Int.toNat_natCast, Int.natCast_nonneg, true_and, and_true, and_self, if_true, if_false, or_true, true_or, or_false, false_or, ne_eq, not_true_eq_false, not_false_eq_true, Nat.reduceLeDiff, Nat.reduceEqDiff, Nat.reduceLT, Nat.reduceAdd, Nat.reduceMul, Nat.reduceSub, Int.reduceLT, Int.reduceLE, Int.reduceEq, Int.reduceToNat, Int.reduceAdd, Int.reduceSub, Int.reduceMul, Int.reduceNeg, Int.cast_ofNat_Int, false_and, and_false, S_within, psh_some, w32_i (z := A 2 - 1) (by omega) (by omega)]
  by_cases h1 : 0 ≤ t ∧ t < A 2
  · rw [if_pos h1, if_pos (by omega)]; simp
  · rw [if_neg h1, if_neg (by omega)]; simp
theorem shl_n {z : Int} (h0 : 0 ≤ z) (h6 : z ≤ 6) : ishl 1 z = ((2 ^ z.toNat : Nat) : Int) := by
  obtain ⟨n, rfl⟩ := Int.eq_ofNat_of_zero_le h0
  rw [shl1 (by omega), Int.toNat_natCast]
theorem S_rSet {d : Nat} {h : Hp} {A : Nat → Int} {Q : Option PV → Hp → Prop} (x : RpF h A) {t : Int} : WP d mX12_isSet 0 [some (.inr (.inr 294)), some (.inl t)] [] h Q = Q (some (.inl (if 0 ≤ t ∧ t < ((2 ^ (A 2).toNat : Nat) : Int) then 1 else 0))) h := by
  obtain ⟨m, a, po⟩ := x
  have a1 : hI h 295 2 = A 2 := a 2 (by omega)
  simp only [rX12_isSet_0, rX12_isSet_1, rX12_isSet_4, rX12_isSet_5, rX12_isSet_6, rX12_isSet_7, rX12_isSet_10, rX12_isSet_11, rX12_isSet_12, rX12_isSet_13, rX12_isSet_16, rX12_isSet_17, rX12_isSet_20, rX12_isSet_21, Md_K280 m, Md_R281 m, Md_K281 m, Md_R282 m, Md_K282 m, Md_R283 m, Md_K283 m, Md_R284 m, Md_K284 m, Md_R285 m, Md_K285 m, Md_R286 m, Md_K286 m, Md_R287 m, Md_K287 m, Md_R288 m, Md_K288 m, Md_R289 m, Md_K289 m, Md_R290 m, Md_K290 m, Md_R291 m, Md_K291 m, Md_R292 m, Md_K292 m, Md_R293 m, Md_K293 m, Md_R294 m, Md_K294 m, Md_R295 m, Md_K295 m, Md_R296 m, Md_K296 m, Md_R297 m, Md_K297 m, Md_R298 m, Md_K298 m, Md_R299 m, Md_K299 m, a1, Int.toNat_natCast, Int.natCast_nonneg, true_and, and_true, and_self, if_true, if_false, or_true, true_or, or_false, false_or, ne_eq, not_true_eq_false, not_false_eq_true, Nat.reduceLeDiff, Nat.reduceEqDiff, Nat.reduceLT, Nat.reduceAdd, Nat.reduceMul, Nat.reduceSub, Int.reduceLT, Int.reduceLE, Int.reduceEq, Int.reduceToNat, Int.reduceAdd, Int.reduceSub, Int.reduceMul, Int.reduceNeg, Int.cast_ofNat_Int, false_and, and_false, shl_n po.2.2.1 po.2.2.2.1]
  by_cases h1 : t < 0
  · rw [if_pos h1, if_neg (by omega)]
  · rw [if_neg h1]
    by_cases h2 : t < ((2 ^ (A 2).toNat : Nat) : Int)
    · rw [if_pos h2, if_pos ⟨by omega, h2⟩]
    · rw [if_neg h2, if_neg (fun q => h2 q.2)]
theorem S_rAll {d : Nat} {h : Hp} {A : Nat → Int} {Q : Option PV → Hp → Prop} (x : RpF h A) : WP d mX12_everyGoer 0 [some (.inr (.inr 294))] [] h Q = Q (some (.inl ((2 ^ (A 2).toNat - 1 : Nat) : Int))) h := by
  obtain ⟨m, a, po⟩ := x
  have a1 : hI h 295 2 = A 2 := a 2 (by omega)
  simp only [rX12_everyGoer_0, rX12_everyGoer_1, rX12_everyGoer_2, rX12_everyGoer_5, rX12_everyGoer_6, rX12_everyGoer_7, rX12_everyGoer_8, rX12_everyGoer_9, rX12_everyGoer_10, Md_K280 m, Md_R281 m, Md_K281 m, Md_R282 m, Md_K282 m, Md_R283 m, Md_K283 m, Md_R284 m, Md_K284 m, Md_R285 m, Md_K285 m, Md_R286 m, Md_K286 m, Md_R287 m, Md_K287 m, Md_R288 m, Md_K288 m, Md_R289 m, Md_K289 m, Md_R290 m, Md_K290 m, Md_R291 m, Md_K291 m, Md_R292 m, Md_K292 m, Md_R293 m, Md_K293 m, Md_R294 m, Md_K294 m, Md_R295 m, Md_K295 m, Md_R296 m, Md_K296 m, Md_R297 m, Md_K297 m, Md_R298 m, Md_K298 m, Md_R299 m, Md_K299 m, a1, Int.toNat_natCast, Int.natCast_nonneg, true_and, and_true, and_self, if_true, if_false, or_true, true_or, or_false, false_or, ne_eq, not_true_eq_false, not_false_eq_true, Nat.reduceLeDiff, Nat.reduceEqDiff, Nat.reduceLT, Nat.reduceAdd, Nat.reduceMul, Nat.reduceSub, Int.reduceLT, Int.reduceLE, Int.reduceEq, Int.reduceToNat, Int.reduceAdd, Int.reduceSub, Int.reduceMul, Int.reduceNeg, Int.cast_ofNat_Int, false_and, and_false, all_n po.2.2.1 po.2.2.2.1]
/-- a dive from the stand as it is -/
def aR (A : Nat → Int) (g : Nat) : Int := dRch (pdA A) (A (35 + g)) (A (41 + g)) g (A 34).toNat (A 33).toNat
def aT (A : Nat → Int) (g : Nat) : Nat := dThr (pdA A) (A (35 + g)) (A (41 + g)) g (A 34).toNat (A 33).toNat
def aP (A : Nat → Int) (g : Nat) : Int := dPst (pdA A) (A (35 + g)) (A (41 + g)) g (A 34).toNat (A 33).toNat
theorem stA_br (A : Nat → Int) (g : Nat) : stA A (2 + g) = A (35 + g) := by unfold stA; rw [show 33 + (2 + g) = 35 + g by omega]
theorem stA_bo (A : Nat → Int) (g : Nat) : stA A (8 + g) = A (41 + g) := by unfold stA; rw [show 33 + (8 + g) = 41 + g by omega]
theorem LdC_now {h : Hp} {A : Nat → Int} (x : RpF h A) (s : stOk (stA A)) {g : Nat} (hg : g < 6) : LdC h A g (A 33).toNat (A 34).toNat (A (35 + g)) (A (41 + g)) := by
  obtain ⟨m, a, po⟩ := x
  obtain ⟨o1, o2, o3, o4, o5⟩ := s
  obtain ⟨o6, o7, o8, o9⟩ := o5 g hg
  rw [stA_br] at o6 o7
  rw [stA_bo] at o8 o9
  exact ⟨m, a, po, rfl, rfl, o6, o7, o8, o9, hg, by show (stA A 0).toNat ≤ 99; omega, by show (stA A 1).toNat < 64; omega⟩
theorem S_laysNow {d : Nat} {Q : Option PV → Hp → Prop} {h : Hp} {A : Nat → Int} (x : RpF h A) (s : stOk (stA A)) {g : Nat} (hg : g < 6)
    (k : ∀ h', Fp lP h h' → hI h' 294 18 = aR A g → hI h' 294 19 = (aT A g : Nat) → hI h' 294 20 = aP A g → Q none h') :
    WP (d + 3) mX12_laysNow 0 [some (.inr (.inr 294)), some (.inl (g : Int))] [] h Q := by
  have C := LdC_now x s hg
  obtain ⟨m, a, po⟩ := x
  have a3 : hI h 295 33 = ((A 33).toNat : Int) := by rw [a 33 (by omega)]; have := s.1; have e : stA A 0 = A 33 := rfl; omega
  have a4 : hI h 295 34 = ((A 34).toNat : Int) := by rw [a 34 (by omega)]; have := s.2.2.1; have e : stA A 1 = A 34 := rfl; omega
  simp only [rX12_laysNow_0, rX12_laysNow_1, rX12_laysNow_2, rX12_laysNow_3, rX12_laysNow_6, rX12_laysNow_8, rX12_laysNow_9, rX12_laysNow_10, rX12_laysNow_13, rX12_laysNow_15, rX12_laysNow_16, Md_K280 m, Md_R281 m, Md_K281 m, Md_R282 m, Md_K282 m, Md_R283 m, Md_K283 m, Md_R284 m, Md_K284 m, Md_R285 m, Md_K285 m, Md_R286 m, Md_K286 m, Md_R287 m, Md_K287 m, Md_R288 m, Md_K288 m, Md_R289 m, Md_K289 m, Md_R290 m, Md_K290 m, Md_R291 m, Md_K291 m, Md_R292 m, Md_K292 m, Md_R293 m, Md_K293 m, Md_R294 m, Md_K294 m, Md_R295 m, Md_K295 m, Md_R296 m, Md_K296 m, Md_R297 m, Md_K297 m, Md_R298 m, Md_K298 m, Md_R299 m, Md_K299 m, a3, a4, Int.toNat_natCast, Int.natCast_nonneg, true_and, and_true, and_self, if_true, if_false, or_true, true_or, or_false, false_or, ne_eq, not_true_eq_false, not_false_eq_true, Nat.reduceLeDiff, Nat.reduceEqDiff, Nat.reduceLT, Nat.reduceAdd, Nat.reduceMul, Nat.reduceSub, Int.reduceLT, Int.reduceLE, Int.reduceEq, Int.reduceToNat, Int.reduceAdd, Int.reduceSub, Int.reduceMul, Int.reduceNeg, Int.cast_ofNat_Int, false_and, and_false]
  refine S_laysDive C ?_
  intro h' f e1 e2 e3
  simp only [psh_none, rX12_laysNow_19]
  exact k h' f e1 e2 e3
