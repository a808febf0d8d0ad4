/-! texts of the program: how long, which letter, where -/
theorem by_8 : ∀ n : Nat, n < 256 → w8 (n : Int) = (if n < 128 then (n : Int) else (n : Int) - 256) ∧ wch (iand (w8 (n : Int)) 255) = (n : Int) := by decide +kernel
theorem by_7 : ∀ n : Nat, n < 128 → wch (iand (n : Int) 255) = (n : Int) := by decide +kernel
theorem b_w8 {x : Int} (h0 : 0 ≤ x) (h1 : x ≤ 255) : w8 x = if x < 128 then x else x - 256 := by
  have := (by_8 x.toNat (by omega)).1
  rw [show ((x.toNat : Nat) : Int) = x by omega] at this
  rw [this]
  by_cases h : x < 128
  · rw [if_pos h, if_pos (by omega)]
  · rw [if_neg h, if_neg (by omega)]
theorem b_ch {x : Int} (h0 : 0 ≤ x) (h1 : x ≤ 255) : wch (iand (w8 x) 255) = x := by
  have := (by_8 x.toNat (by omega)).2
  rwa [show ((x.toNat : Nat) : Int) = x by omega] at this
theorem b_c7 {x : Int} (h0 : 0 ≤ x) (h1 : x ≤ 127) : wch (iand x 255) = x := by
  have := by_7 x.toNat (by omega)
  rwa [show ((x.toNat : Nat) : Int) = x by omega] at this
theorem w8_eq {x c : Int} (h0 : 0 ≤ x) (h1 : x ≤ 255) (hc : 0 ≤ c) (hc' : c ≤ 127) : (w8 x = c) = (x = c) := by
  rw [b_w8 h0 h1]; apply propext; split <;> omega
theorem zb_L {x : Int} (h0 : 0 ≤ x) (h1 : x ≤ 255) : zb (97 ≤ w8 x ∧ w8 x ≤ 122) = zb (cL x) := by
  unfold zb cL
  rw [b_w8 h0 h1]
  by_cases h : x < 128
  · rw [if_pos h]
  · rw [if_neg h, if_neg (by omega), if_neg (by omega)]
theorem zb_D {x : Int} (h0 : 0 ≤ x) (h1 : x ≤ 255) : zb (48 ≤ w8 x ∧ w8 x ≤ 57) = zb (cD x) := by
  unfold zb cD
  rw [b_w8 h0 h1]
  by_cases h : x < 128
  · rw [if_pos h]
  · rw [if_neg h, if_neg (by omega), if_neg (by omega)]
theorem zb_t {p : Prop} [Decidable p] (h : p) : zb p = 1 := if_pos h
theorem zb_f {p : Prop} [Decidable p] (h : ¬ p) : zb p = 0 := if_neg h
theorem zb_c {p q : Prop} [Decidable p] [Decidable q] (h : p ↔ q) : zb p = zb q := by
  unfold zb
  by_cases a : p
  · rw [if_pos a, if_pos (h.mp a)]
  · rw [if_neg a, if_neg (fun b => a (h.mpr b))]
theorem zb_B {x : Int} (h0 : 0 ≤ x) (h1 : x ≤ 255) : zb (w8 x = 32 ∨ w8 x = 10) = zb (cB x) := by
  refine zb_c ?_
  rw [w8_eq h0 h1 (by decide) (by decide), w8_eq h0 h1 (by decide) (by decide)]
  exact ⟨fun z => z.symm, fun z => z.symm⟩
theorem zb_01 (p : Prop) [Decidable p] : (zb p = 0 ∨ zb p = 1) = True := eq_true (by unfold zb; split <;> simp)
def StrAt (h : Hp) (s : Nat) (w : List Int) : Prop := hK h s = (14, 0) ∧ hR h s 0 = 100 + s ∧ hI h s 1 = 0 ∧ hK h (100 + s) = (20, w.length) ∧ w.length ≤ 200 ∧ ∀ k, hI h (100 + s) k = w.getD k 0 ∧ 0 ≤ w.getD k 0 ∧ w.getD k 0 ≤ 127
theorem sg_len : ∀ j, j < 26 → slen.getD j 0 = (sbyz.getD j []).length ∧ (sbyz.getD j []).length ≤ 200 ∧ ∀ x ∈ sbyz.getD j [], 0 ≤ x ∧ x ≤ 127 := by decide +kernel
theorem gd_mem {l : List Int} {k : Nat} (hk : k < l.length) : l.getD k 0 ∈ l := by
  rw [List.getD, List.getElem?_eq_getElem hk]; exact List.getElem_mem hk
theorem gd_none {l : List Int} {k : Nat} (hk : ¬ k < l.length) : l.getD k 0 = 0 := by
  rw [List.getD, List.getElem?_eq_none (by omega)]; rfl
theorem Sg.at {h : Hp} (s : Sg h) (j : Nat) (hj : j < 26) : StrAt h (1 + j) (sbyz.getD j []) := by
  obtain ⟨s1, s2, s3, s4, s5⟩ := s.2 j hj
  obtain ⟨l1, l2, l3⟩ := sg_len j hj
  refine ⟨s1, by rw [s3]; omega, s4, by rw [show 100 + (1 + j) = 101 + j by omega, s2, l1], l2, fun k => ⟨by rw [show 100 + (1 + j) = 101 + j by omega, s5], ?_⟩⟩
  by_cases hk : k < (sbyz.getD j []).length
  · exact l3 _ (gd_mem hk)
  · rw [gd_none hk]; decide
theorem is_0 {n : Nat} (h : n ≤ 200) : ishr (n : Int) 0 = (n : Int) := by
  have := ishr_n (a := n) (i := 0) (by omega) (by decide)
  rw [show ((0 : Nat) : Int) = 0 from rfl] at this
  rw [this]; simp
theorem S_len {d : Nat} {Q : Option PV → Hp → Prop} {h : Hp} {s : Nat} {w : List Int} (x : StrAt h s w) : WP (d + 1) mJ0_length_8abf5 0 [some (.inr (.inr s))] [] h Q = Q (some (.inl (w.length : Int))) h := by
  obtain ⟨s1, s2, s3, s4, s5, _⟩ := x
  simp only [rJ0_length_8abf5_0, rJ0_length_8abf5_1, rJ0_length_8abf5_4, rJ0_length_8abf5_5, rJ0_length_8abf5_6, rJ0_length_8abf5_9, rJ0_length_8abf5_10, rJ0_coder_7d493_0, rJ0_coder_7d493_3, rJ0_coder_7d493_6, rJ0_coder_7d493_7, rJ0_coder_7d493_10, rJ0_coder_7d493_13, rJ0_coder_7d493_14, s1, s2, s3, s4, psh_some, is_0 s5, Int.toNat_natCast, Int.natCast_nonneg, true_and, and_true, and_self, if_true, if_false, or_true, true_or, or_false, false_or, ne_eq, not_true_eq_false, not_false_eq_true, Nat.reduceLeDiff, Nat.reduceEqDiff, Nat.reduceLT, Nat.reduceAdd, Nat.reduceMul, Nat.reduceSub, Int.reduceLT, Int.reduceLE, Int.reduceEq, Int.reduceToNat, Int.reduceAdd, Int.reduceSub, Int.reduceMul, Int.reduceNeg, Int.cast_ofNat_Int, false_and, and_false]
theorem S_chr {d : Nat} {Q : Option PV → Hp → Prop} {h : Hp} {s : Nat} {w : List Int} (x : StrAt h s w) {z : Int} (h0 : 0 ≤ z) (h1 : z < (w.length : Int)) : WP (d + 4) mJ0_charAt_5068e 0 [some (.inr (.inr s)), some (.inl z)] [] h Q = Q (some (.inl (w.getD z.toNat 0))) h := by
  obtain ⟨s1, s2, s3, s4, s5, s6⟩ := x
  obtain ⟨c1, c2, c3⟩ := s6 z.toNat
  have e1 : (z < 0) = False := eq_false (by omega)
  have e2 : (z < (w.length : Int)) = True := eq_true h1
  have e3 : (0 ≤ z) = True := eq_true h0
  have e4 : (0 ≤ w.getD z.toNat 0) = True := eq_true c2
  have e5 : (w.getD z.toNat 0 ≤ 65535) = True := eq_true (by omega)
  simp only [rJ0_charAt_5068e_0, rJ0_charAt_5068e_1, rJ0_charAt_5068e_4, rJ0_charAt_5068e_7, rJ0_charAt_5068e_8, rJ0_charAt_5068e_11, rJ0_charAt_5068e_12, rJ0_charAt_5068e_15, rJ0_isLatin1_aae02_0, rJ0_isLatin1_aae02_3, rJ0_isLatin1_aae02_6, rJ0_isLatin1_aae02_7, rJ0_isLatin1_aae02_10, rJ0_isLatin1_aae02_13, rJ0_isLatin1_aae02_14, rJ0_isLatin1_aae02_17, rJ0_isLatin1_aae02_18, rJ1_charAt_3b067_0, rJ1_charAt_3b067_1, rJ1_charAt_3b067_2, rJ1_charAt_3b067_3, rJ1_charAt_3b067_6, rJ1_charAt_3b067_7, rJ1_charAt_3b067_8, rJ1_charAt_3b067_9, rJ1_charAt_3b067_12, rJ1_charAt_3b067_13, rJ1_charAt_3b067_14, rJ0_checkIndex_df160_0, rJ0_checkIndex_df160_1, rJ0_checkIndex_df160_2, rJ0_checkIndex_df160_5, rJ0_checkIndex_df160_8, rJ0_checkIndex_df160_9, rJ3_checkIndex_8e157_0, rJ3_checkIndex_8e157_1, rJ3_checkIndex_8e157_4, rJ3_checkIndex_8e157_5, rJ3_checkIndex_8e157_6, rJ3_checkIndex_8e157_16, rJ3_checkIndex_8e157_17, s1, s2, s3, s4, psh_some, psh_none, e1, e2, e3, c1, b_c7 c2 c3, e4, e5, Int.toNat_natCast, Int.natCast_nonneg, true_and, and_true, and_self, if_true, if_false, or_true, true_or, or_false, false_or, ne_eq, not_true_eq_false, not_false_eq_true, Nat.reduceLeDiff, Nat.reduceEqDiff, Nat.reduceLT, Nat.reduceAdd, Nat.reduceMul, Nat.reduceSub, Int.reduceLT, Int.reduceLE, Int.reduceEq, Int.reduceToNat, Int.reduceAdd, Int.reduceSub, Int.reduceMul, Int.reduceNeg, Int.cast_ofNat_Int, false_and, and_false]
/-- the first place, or -1 -/
def fix (w : List Int) (y : Int) : Nat → Nat → Int
  | 0, _ => -1
  | n + 1, k => if w.getD k 0 = y then (k : Int) else fix w y n (k + 1)
theorem i_p1 {k : Nat} (h : k ≤ 1000) : w32 ((k : Int) + 1) = ((k + 1 : Nat) : Int) := by rw [w32_i (by omega) (by omega)]; omega
theorem S_fix {d : Nat} {Q : Option PV → Hp → Prop} {h : Hp} {r : Nat} {w : List Int} {c y : Int} (K : hK h r = (20, w.length)) (I : ∀ k, hI h r k = w.getD k 0) (hw : w.length ≤ 200) {x2 : Option PV} : ∀ n k, w.length = k + n → WP d mJ1_indexOfChar_4cfef 7 [some (.inr (.inr r)), some (.inl c), x2, some (.inl (w.length : Int)), some (.inl y), some (.inl (k : Int))] [] h Q = Q (some (.inl (fix w y n k))) h := by
  intro n
  induction n with
  | zero =>
    intro k hk
    have e : ((k : Int) < (w.length : Int)) = False := eq_false (by omega)
    rw [rJ1_indexOfChar_4cfef_7]
    simp only [rJ1_indexOfChar_4cfef_9, rJ1_indexOfChar_4cfef_10, rJ1_indexOfChar_4cfef_13, rJ1_indexOfChar_4cfef_14, rJ1_indexOfChar_4cfef_16, rJ1_indexOfChar_4cfef_17, rJ1_indexOfChar_4cfef_19, rJ1_indexOfChar_4cfef_22, rJ1_indexOfChar_4cfef_24, rJ1_indexOfChar_4cfef_25, rJ1_indexOfChar_4cfef_28, rJ1_indexOfChar_4cfef_31, rJ1_indexOfChar_4cfef_32, e, fix, Int.toNat_natCast, Int.natCast_nonneg, true_and, and_true, and_self, if_true, if_false, or_true, true_or, or_false, false_or, ne_eq, not_true_eq_false, not_false_eq_true, Nat.reduceLeDiff, Nat.reduceEqDiff, Nat.reduceLT, Nat.reduceAdd, Nat.reduceMul, Nat.reduceSub, Int.reduceLT, Int.reduceLE, Int.reduceEq, Int.reduceToNat, Int.reduceAdd, Int.reduceSub, Int.reduceMul, Int.reduceNeg, Int.cast_ofNat_Int, false_and, and_false]
  | succ n ih =>
    intro k hk
    have e : ((k : Int) < (w.length : Int)) = True := eq_true (by omega)
    rw [rJ1_indexOfChar_4cfef_7]
    by_cases a : w.getD k 0 = y
    · simp only [rJ1_indexOfChar_4cfef_9, rJ1_indexOfChar_4cfef_10, rJ1_indexOfChar_4cfef_13, rJ1_indexOfChar_4cfef_14, rJ1_indexOfChar_4cfef_16, rJ1_indexOfChar_4cfef_17, rJ1_indexOfChar_4cfef_19, rJ1_indexOfChar_4cfef_22, rJ1_indexOfChar_4cfef_24, rJ1_indexOfChar_4cfef_25, rJ1_indexOfChar_4cfef_28, rJ1_indexOfChar_4cfef_31, rJ1_indexOfChar_4cfef_32, e, K, I, a, fix, Int.toNat_natCast, Int.natCast_nonneg, true_and, and_true, and_self, if_true, if_false, or_true, true_or, or_false, false_or, ne_eq, not_true_eq_false, not_false_eq_true, Nat.reduceLeDiff, Nat.reduceEqDiff, Nat.reduceLT, Nat.reduceAdd, Nat.reduceMul, Nat.reduceSub, Int.reduceLT, Int.reduceLE, Int.reduceEq, Int.reduceToNat, Int.reduceAdd, Int.reduceSub, Int.reduceMul, Int.reduceNeg, Int.cast_ofNat_Int, false_and, and_false]
    · simp only [rJ1_indexOfChar_4cfef_9, rJ1_indexOfChar_4cfef_10, rJ1_indexOfChar_4cfef_13, rJ1_indexOfChar_4cfef_14, rJ1_indexOfChar_4cfef_16, rJ1_indexOfChar_4cfef_17, rJ1_indexOfChar_4cfef_19, rJ1_indexOfChar_4cfef_22, rJ1_indexOfChar_4cfef_24, rJ1_indexOfChar_4cfef_25, rJ1_indexOfChar_4cfef_28, rJ1_indexOfChar_4cfef_31, rJ1_indexOfChar_4cfef_32, e, K, I, a, fix, i_p1 (show k ≤ 1000 by omega), Int.toNat_natCast, Int.natCast_nonneg, true_and, and_true, and_self, if_true, if_false, or_true, true_or, or_false, false_or, ne_eq, not_true_eq_false, not_false_eq_true, Nat.reduceLeDiff, Nat.reduceEqDiff, Nat.reduceLT, Nat.reduceAdd, Nat.reduceMul, Nat.reduceSub, Int.reduceLT, Int.reduceLE, Int.reduceEq, Int.reduceToNat, Int.reduceAdd, Int.reduceSub, Int.reduceMul, Int.reduceNeg, Int.cast_ofNat_Int, false_and, and_false]
      exact ih (k + 1) (by omega)
theorem S_ixo {d : Nat} {Q : Option PV → Hp → Prop} {h : Hp} {s : Nat} {w : List Int} (x : StrAt h s w) (hw : 0 < w.length) {c : Int} (h0 : 0 ≤ c) (h1 : c ≤ 255) : WP (d + 4) mJ0_indexOf_0f7a4 0 [some (.inr (.inr s)), some (.inl c)] [] h Q = Q (some (.inl (fix w (w8 c) w.length 0))) h := by
  obtain ⟨s1, s2, s3, s4, s5, s6⟩ := x
  have e1 : (c < 0) = False := eq_false (by omega)
  have e2 : (255 < c) = False := eq_false (by omega)
  have e3 : ((0 : Int) < (w.length : Int)) = True := eq_true (by omega)
  have e4 := is_0 s5
  have e5 : ((w.length : Int) ≤ 0) = False := eq_false (by omega)
  simp only [rJ0_indexOf_0f7a4_0, rJ0_indexOf_0f7a4_1, rJ0_indexOf_0f7a4_2, rJ0_indexOf_0f7a4_3, rJ0_indexOf_0f7a4_6, rJ0_indexOf_7cf53_0, rJ0_indexOf_7cf53_1, rJ0_indexOf_7cf53_4, rJ0_indexOf_7cf53_7, rJ0_indexOf_7cf53_8, rJ0_indexOf_7cf53_11, rJ0_indexOf_7cf53_12, rJ0_indexOf_7cf53_13, rJ0_indexOf_7cf53_14, rJ0_indexOf_7cf53_17, rJ0_indexOf_7cf53_20, rJ0_indexOf_7cf53_36, rJ0_isLatin1_aae02_0, rJ0_isLatin1_aae02_3, rJ0_isLatin1_aae02_6, rJ0_isLatin1_aae02_7, rJ0_isLatin1_aae02_10, rJ0_isLatin1_aae02_13, rJ0_isLatin1_aae02_14, rJ0_isLatin1_aae02_17, rJ0_isLatin1_aae02_18, rJ0_length_8abf5_0, rJ0_length_8abf5_1, rJ0_length_8abf5_4, rJ0_length_8abf5_5, rJ0_length_8abf5_6, rJ0_length_8abf5_9, rJ0_length_8abf5_10, rJ0_coder_7d493_0, rJ0_coder_7d493_3, rJ0_coder_7d493_6, rJ0_coder_7d493_7, rJ0_coder_7d493_10, rJ0_coder_7d493_13, rJ0_coder_7d493_14, rJ1_indexOf_4cfef_0, rJ1_indexOf_4cfef_1, rJ1_indexOf_4cfef_4, rJ1_indexOf_4cfef_7, rJ1_indexOf_4cfef_8, rJ1_indexOf_4cfef_9, rJ1_indexOf_4cfef_10, rJ1_indexOf_4cfef_11, rJ1_indexOf_4cfef_14, rJ1_indexOf_4cfef_15, rJ1_indexOf_4cfef_16, rJ1_indexOf_4cfef_17, rJ1_indexOf_4cfef_18, rJ1_indexOf_4cfef_21, rJ1_indexOf_4cfef_22, rJ1_indexOf_4cfef_23, rJ1_indexOf_4cfef_24, rJ1_indexOf_4cfef_27, rJ1_indexOf_4cfef_28, rJ1_indexOf_4cfef_29, rJ1_indexOf_4cfef_30, rJ1_indexOf_4cfef_31, rJ1_indexOf_4cfef_32, rJ1_indexOf_4cfef_33, rJ1_indexOf_4cfef_36, rJ1_canEncode_9a6ad_0, rJ1_canEncode_9a6ad_1, rJ1_canEncode_9a6ad_4, rJ1_canEncode_9a6ad_5, rJ1_canEncode_9a6ad_8, rJ1_canEncode_9a6ad_11, rJ1_canEncode_9a6ad_12, rJ1_canEncode_9a6ad_15, rJ1_canEncode_9a6ad_16, rJ9_max_7cf53_0, rJ9_max_7cf53_1, rJ9_max_7cf53_2, rJ9_max_7cf53_5, rJ9_max_7cf53_6, rJ9_max_7cf53_9, rJ9_max_7cf53_10, rJ9_min_7cf53_0, rJ9_min_7cf53_1, rJ9_min_7cf53_2, rJ9_min_7cf53_5, rJ9_min_7cf53_6, rJ9_min_7cf53_9, rJ9_min_7cf53_10, rJ1_indexOfChar_4cfef_0, rJ1_indexOfChar_4cfef_1, rJ1_indexOfChar_4cfef_2, rJ1_indexOfChar_4cfef_4, rJ1_indexOfChar_4cfef_5, s1, s2, s3, s4, psh_some, psh_none, e1, e2, e3, e4, e5, Int.lt_irrefl, Int.le_refl, Int.toNat_natCast, Int.natCast_nonneg, true_and, and_true, and_self, if_true, if_false, or_true, true_or, or_false, false_or, ne_eq, not_true_eq_false, not_false_eq_true, Nat.reduceLeDiff, Nat.reduceEqDiff, Nat.reduceLT, Nat.reduceAdd, Nat.reduceMul, Nat.reduceSub, Int.reduceLT, Int.reduceLE, Int.reduceEq, Int.reduceToNat, Int.reduceAdd, Int.reduceSub, Int.reduceMul, Int.reduceNeg, Int.cast_ofNat_Int, false_and, and_false]
  have f := fun (Q : Option PV → Hp → Prop) => S_fix (d := d + 1) (Q := Q) (c := c) (y := w8 c) s4 (fun k => (s6 k).1) s5 (x2 := some (.inl 0)) w.length 0 (by omega)
  refine (f _).trans ?_
  simp only [psh_some, rJ0_indexOf_0f7a4_6, rJ0_indexOf_7cf53_20, rJ0_indexOf_7cf53_23, rJ0_indexOf_7cf53_24, rJ0_indexOf_7cf53_27, rJ0_indexOf_7cf53_28, rJ0_indexOf_7cf53_29, rJ0_indexOf_7cf53_30, rJ0_indexOf_7cf53_36, rJ1_indexOf_4cfef_36, Int.toNat_natCast, Int.natCast_nonneg, true_and, and_true, and_self, if_true, if_false, or_true, true_or, or_false, false_or, ne_eq, not_true_eq_false, not_false_eq_true, Nat.reduceLeDiff, Nat.reduceEqDiff, Nat.reduceLT, Nat.reduceAdd, Nat.reduceMul, Nat.reduceSub, Int.reduceLT, Int.reduceLE, Int.reduceEq, Int.reduceToNat, Int.reduceAdd, Int.reduceSub, Int.reduceMul, Int.reduceNeg, Int.cast_ofNat_Int, false_and, and_false]
