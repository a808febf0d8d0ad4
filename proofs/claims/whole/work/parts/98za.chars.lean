/-! the reader: characters, a fault -/
def zb (p : Prop) [Decidable p] : Int := if p then 1 else 0
theorem S_isBlank {d : Nat} {Q : Option PV → Hp → Prop} {h : Hp} {z : Int} : WP d mX6_isBlank 0 [some (.inl z)] [] h Q = Q (some (.inl (zb (z = 32 ∨ z = 10)))) h := by
  unfold zb
  simp only [rX6_isBlank_0, rX6_isBlank_1, rX6_isBlank_3, rX6_isBlank_6, rX6_isBlank_7, rX6_isBlank_9, rX6_isBlank_12, rX6_isBlank_13, rX6_isBlank_16, rX6_isBlank_17]
  by_cases h1 : z = 32
  · simp only [h1, Int.toNat_natCast, Int.natCast_nonneg, true_and, and_true, and_self, if_true, if_false, or_true, true_or, or_false, false_or, ne_eq, not_true_eq_false, not_false_eq_true, Nat.reduceLeDiff, Nat.reduceEqDiff, Nat.reduceLT, Nat.reduceAdd, Nat.reduceMul, Nat.reduceSub, Int.reduceLT, Int.reduceLE, Int.reduceEq, Int.reduceToNat, Int.reduceAdd, Int.reduceSub, Int.reduceMul, Int.reduceNeg, Int.cast_ofNat_Int, false_and, and_false]
  · by_cases h2 : z = 10
    · simp only [h2, Int.toNat_natCast, Int.natCast_nonneg, true_and, and_true, and_self, if_true, if_false, or_true, true_or, or_false, false_or, ne_eq, not_true_eq_false, not_false_eq_true, Nat.reduceLeDiff, Nat.reduceEqDiff, Nat.reduceLT, Nat.reduceAdd, Nat.reduceMul, Nat.reduceSub, Int.reduceLT, Int.reduceLE, Int.reduceEq, Int.reduceToNat, Int.reduceAdd, Int.reduceSub, Int.reduceMul, Int.reduceNeg, Int.cast_ofNat_Int, false_and, and_false]
    · simp only [h1, h2, Int.toNat_natCast, Int.natCast_nonneg, true_and, and_true, and_self, if_true, if_false, or_true, true_or, or_false, false_or, ne_eq, not_true_eq_false, not_false_eq_true, Nat.reduceLeDiff, Nat.reduceEqDiff, Nat.reduceLT, Nat.reduceAdd, Nat.reduceMul, Nat.reduceSub, Int.reduceLT, Int.reduceLE, Int.reduceEq, Int.reduceToNat, Int.reduceAdd, Int.reduceSub, Int.reduceMul, Int.reduceNeg, Int.cast_ofNat_Int, false_and, and_false]
theorem S_isLetter {d : Nat} {Q : Option PV → Hp → Prop} {h : Hp} {z : Int} : WP d mX6_isLetter 0 [some (.inl z)] [] h Q = Q (some (.inl (zb (97 ≤ z ∧ z ≤ 122)))) h := by
  unfold zb
  simp only [rX6_isLetter_0, rX6_isLetter_1, rX6_isLetter_3, rX6_isLetter_6, rX6_isLetter_7, rX6_isLetter_9, rX6_isLetter_12, rX6_isLetter_13, rX6_isLetter_16, rX6_isLetter_17]
  by_cases h1 : z < 97
  · have n : ¬ (97 ≤ z ∧ z ≤ 122) := by omega
    simp only [h1, n, Int.toNat_natCast, Int.natCast_nonneg, true_and, and_true, and_self, if_true, if_false, or_true, true_or, or_false, false_or, ne_eq, not_true_eq_false, not_false_eq_true, Nat.reduceLeDiff, Nat.reduceEqDiff, Nat.reduceLT, Nat.reduceAdd, Nat.reduceMul, Nat.reduceSub, Int.reduceLT, Int.reduceLE, Int.reduceEq, Int.reduceToNat, Int.reduceAdd, Int.reduceSub, Int.reduceMul, Int.reduceNeg, Int.cast_ofNat_Int, false_and, and_false]
  · by_cases h2 : 122 < z
    · have n : ¬ (97 ≤ z ∧ z ≤ 122) := by omega
      simp only [h1, h2, n, Int.toNat_natCast, Int.natCast_nonneg, true_and, and_true, and_self, if_true, if_false, or_true, true_or, or_false, false_or, ne_eq, not_true_eq_false, not_false_eq_true, Nat.reduceLeDiff, Nat.reduceEqDiff, Nat.reduceLT, Nat.reduceAdd, Nat.reduceMul, Nat.reduceSub, Int.reduceLT, Int.reduceLE, Int.reduceEq, Int.reduceToNat, Int.reduceAdd, Int.reduceSub, Int.reduceMul, Int.reduceNeg, Int.cast_ofNat_Int, false_and, and_false]
    · have n : 97 ≤ z ∧ z ≤ 122 := by omega
      simp only [h1, h2, n, Int.toNat_natCast, Int.natCast_nonneg, true_and, and_true, and_self, if_true, if_false, or_true, true_or, or_false, false_or, ne_eq, not_true_eq_false, not_false_eq_true, Nat.reduceLeDiff, Nat.reduceEqDiff, Nat.reduceLT, Nat.reduceAdd, Nat.reduceMul, Nat.reduceSub, Int.reduceLT, Int.reduceLE, Int.reduceEq, Int.reduceToNat, Int.reduceAdd, Int.reduceSub, Int.reduceMul, Int.reduceNeg, Int.cast_ofNat_Int, false_and, and_false]
theorem S_isDigit {d : Nat} {Q : Option PV → Hp → Prop} {h : Hp} {z : Int} : WP d mX6_isDigit 0 [some (.inl z)] [] h Q = Q (some (.inl (zb (48 ≤ z ∧ z ≤ 57)))) h := by
  unfold zb
  simp only [rX6_isDigit_0, rX6_isDigit_1, rX6_isDigit_3, rX6_isDigit_6, rX6_isDigit_7, rX6_isDigit_9, rX6_isDigit_12, rX6_isDigit_13, rX6_isDigit_16, rX6_isDigit_17]
  by_cases h1 : z < 48
  · have n : ¬ (48 ≤ z ∧ z ≤ 57) := by omega
    simp only [h1, n, Int.toNat_natCast, Int.natCast_nonneg, true_and, and_true, and_self, if_true, if_false, or_true, true_or, or_false, false_or, ne_eq, not_true_eq_false, not_false_eq_true, Nat.reduceLeDiff, Nat.reduceEqDiff, Nat.reduceLT, Nat.reduceAdd, Nat.reduceMul, Nat.reduceSub, Int.reduceLT, Int.reduceLE, Int.reduceEq, Int.reduceToNat, Int.reduceAdd, Int.reduceSub, Int.reduceMul, Int.reduceNeg, Int.cast_ofNat_Int, false_and, and_false]
  · by_cases h2 : 57 < z
    · have n : ¬ (48 ≤ z ∧ z ≤ 57) := by omega
      simp only [h1, h2, n, Int.toNat_natCast, Int.natCast_nonneg, true_and, and_true, and_self, if_true, if_false, or_true, true_or, or_false, false_or, ne_eq, not_true_eq_false, not_false_eq_true, Nat.reduceLeDiff, Nat.reduceEqDiff, Nat.reduceLT, Nat.reduceAdd, Nat.reduceMul, Nat.reduceSub, Int.reduceLT, Int.reduceLE, Int.reduceEq, Int.reduceToNat, Int.reduceAdd, Int.reduceSub, Int.reduceMul, Int.reduceNeg, Int.cast_ofNat_Int, false_and, and_false]
    · have n : 48 ≤ z ∧ z ≤ 57 := by omega
      simp only [h1, h2, n, Int.toNat_natCast, Int.natCast_nonneg, true_and, and_true, and_self, if_true, if_false, or_true, true_or, or_false, false_or, ne_eq, not_true_eq_false, not_false_eq_true, Nat.reduceLeDiff, Nat.reduceEqDiff, Nat.reduceLT, Nat.reduceAdd, Nat.reduceMul, Nat.reduceSub, Int.reduceLT, Int.reduceLE, Int.reduceEq, Int.reduceToNat, Int.reduceAdd, Int.reduceSub, Int.reduceMul, Int.reduceNeg, Int.cast_ofNat_Int, false_and, and_false]
theorem S_rSmall {d : Nat} {Q : Option PV → Hp → Prop} {h : Hp} {z : Int} : WP d mX12_isSmall 0 [some (.inl z)] [] h Q = Q (some (.inl (zb (97 ≤ z ∧ z ≤ 122)))) h := by
  unfold zb
  simp only [rX12_isSmall_0, rX12_isSmall_1, rX12_isSmall_3, rX12_isSmall_6, rX12_isSmall_7, rX12_isSmall_9, rX12_isSmall_12, rX12_isSmall_13, rX12_isSmall_16, rX12_isSmall_17]
  by_cases h1 : z < 97
  · have n : ¬ (97 ≤ z ∧ z ≤ 122) := by omega
    simp only [h1, n, Int.toNat_natCast, Int.natCast_nonneg, true_and, and_true, and_self, if_true, if_false, or_true, true_or, or_false, false_or, ne_eq, not_true_eq_false, not_false_eq_true, Nat.reduceLeDiff, Nat.reduceEqDiff, Nat.reduceLT, Nat.reduceAdd, Nat.reduceMul, Nat.reduceSub, Int.reduceLT, Int.reduceLE, Int.reduceEq, Int.reduceToNat, Int.reduceAdd, Int.reduceSub, Int.reduceMul, Int.reduceNeg, Int.cast_ofNat_Int, false_and, and_false]
  · by_cases h2 : 122 < z
    · have n : ¬ (97 ≤ z ∧ z ≤ 122) := by omega
      simp only [h1, h2, n, Int.toNat_natCast, Int.natCast_nonneg, true_and, and_true, and_self, if_true, if_false, or_true, true_or, or_false, false_or, ne_eq, not_true_eq_false, not_false_eq_true, Nat.reduceLeDiff, Nat.reduceEqDiff, Nat.reduceLT, Nat.reduceAdd, Nat.reduceMul, Nat.reduceSub, Int.reduceLT, Int.reduceLE, Int.reduceEq, Int.reduceToNat, Int.reduceAdd, Int.reduceSub, Int.reduceMul, Int.reduceNeg, Int.cast_ofNat_Int, false_and, and_false]
    · have n : 97 ≤ z ∧ z ≤ 122 := by omega
      simp only [h1, h2, n, Int.toNat_natCast, Int.natCast_nonneg, true_and, and_true, and_self, if_true, if_false, or_true, true_or, or_false, false_or, ne_eq, not_true_eq_false, not_false_eq_true, Nat.reduceLeDiff, Nat.reduceEqDiff, Nat.reduceLT, Nat.reduceAdd, Nat.reduceMul, Nat.reduceSub, Int.reduceLT, Int.reduceLE, Int.reduceEq, Int.reduceToNat, Int.reduceAdd, Int.reduceSub, Int.reduceMul, Int.reduceNeg, Int.cast_ofNat_Int, false_and, and_false]
theorem S_rDigit {d : Nat} {Q : Option PV → Hp → Prop} {h : Hp} {z : Int} : WP d mX12_isDigit 0 [some (.inl z)] [] h Q = Q (some (.inl (zb (48 ≤ z ∧ z ≤ 57)))) h := by
  unfold zb
  simp only [rX12_isDigit_0, rX12_isDigit_1, rX12_isDigit_3, rX12_isDigit_6, rX12_isDigit_7, rX12_isDigit_9, rX12_isDigit_12, rX12_isDigit_13, rX12_isDigit_16, rX12_isDigit_17]
  by_cases h1 : z < 48
  · have n : ¬ (48 ≤ z ∧ z ≤ 57) := by omega
    simp only [h1, n, Int.toNat_natCast, Int.natCast_nonneg, true_and, and_true, and_self, if_true, if_false, or_true, true_or, or_false, false_or, ne_eq, not_true_eq_false, not_false_eq_true, Nat.reduceLeDiff, Nat.reduceEqDiff, Nat.reduceLT, Nat.reduceAdd, Nat.reduceMul, Nat.reduceSub, Int.reduceLT, Int.reduceLE, Int.reduceEq, Int.reduceToNat, Int.reduceAdd, Int.reduceSub, Int.reduceMul, Int.reduceNeg, Int.cast_ofNat_Int, false_and, and_false]
  · by_cases h2 : 57 < z
    · have n : ¬ (48 ≤ z ∧ z ≤ 57) := by omega
      simp only [h1, h2, n, Int.toNat_natCast, Int.natCast_nonneg, true_and, and_true, and_self, if_true, if_false, or_true, true_or, or_false, false_or, ne_eq, not_true_eq_false, not_false_eq_true, Nat.reduceLeDiff, Nat.reduceEqDiff, Nat.reduceLT, Nat.reduceAdd, Nat.reduceMul, Nat.reduceSub, Int.reduceLT, Int.reduceLE, Int.reduceEq, Int.reduceToNat, Int.reduceAdd, Int.reduceSub, Int.reduceMul, Int.reduceNeg, Int.cast_ofNat_Int, false_and, and_false]
    · have n : 48 ≤ z ∧ z ≤ 57 := by omega
      simp only [h1, h2, n, Int.toNat_natCast, Int.natCast_nonneg, true_and, and_true, and_self, if_true, if_false, or_true, true_or, or_false, false_or, ne_eq, not_true_eq_false, not_false_eq_true, Nat.reduceLeDiff, Nat.reduceEqDiff, Nat.reduceLT, Nat.reduceAdd, Nat.reduceMul, Nat.reduceSub, Int.reduceLT, Int.reduceLE, Int.reduceEq, Int.reduceToNat, Int.reduceAdd, Int.reduceSub, Int.reduceMul, Int.reduceNeg, Int.cast_ofNat_Int, false_and, and_false]
