/-! the reference's dive -/
def lawA (A : Nat → Int) (l : Nat) : List Int := if A (3 + l) = 0 then [] else (List.range (A (7 + l)).toNat).map (fun k => A (189 + (A (5 + l)).toNat + k))
def pdA (A : Nat → Int) : PD := ((A 1).toNat, fun t => A (9 + t), fun t => A (15 + t), fun t => (A (21 + t)).toNat, lawA A 0, lawA A 1)
/-- a stand: board, things, six breaths, six bolds -/
def stOk (B : Nat → Int) : Prop := 0 ≤ B 0 ∧ B 0 ≤ 99 ∧ 0 ≤ B 1 ∧ B 1 < 64 ∧ ∀ g, g < 6 → 0 ≤ B (2 + g) ∧ B (2 + g) ≤ 99 ∧ 0 ≤ B (8 + g) ∧ B (8 + g) ≤ 9
/-- what a pool tells, as the reference keeps it -/
def poolOk (A : Nat → Int) : Prop := 0 ≤ A 1 ∧ A 1 ≤ 6 ∧ 0 ≤ A 2 ∧ A 2 ≤ 6 ∧ pdOk (pdA A) ∧ (∀ t, t < 6 → 0 ≤ A (21 + t)) ∧ (∀ l, l < 2 → (A (3 + l) = 0 ∨ A (3 + l) = 1) ∧ (A (3 + l) = 1 → 0 ≤ A (5 + l) ∧ 1 ≤ A (7 + l) ∧ A (5 + l) + A (7 + l) ≤ 900)) ∧ ∀ g, g < 6 → 0 ≤ A (27 + g) ∧ A (27 + g) ≤ 9
def AtA (h : Hp) (A : Nat → Int) : Prop := ∀ k, k < 3267 → hI h 295 k = A k
theorem isin_fin : ∀ a : Nat, a < 64 → ∀ i : Nat, i < 6 → lcm (land (lshr (a : Int) (i : Int)) 1) 1 = if a.testBit i = true then 0 else lcm (land (lshr (a : Int) (i : Int)) 1) 1 := by decide +kernel
theorem isin_fin2 : ∀ a : Nat, a < 64 → ∀ i : Nat, i < 6 → a.testBit i = false → lcm (land (lshr (a : Int) (i : Int)) 1) 1 ≠ 0 := by decide +kernel
theorem S_isIn {d : Nat} {h : Hp} {Q : Option PV → Hp → Prop} {a i : Nat} (ha : a < 64) (hi : i < 6) : WP d mX12_isIn 0 [some (.inr (.inl (a : Int))), none, some (.inl (i : Int))] [] h Q = Q (some (.inl (if a.testBit i then 1 else 0))) h := by
  simp only [rX12_isIn_0, rX12_isIn_1, rX12_isIn_2, rX12_isIn_3, rX12_isIn_4, rX12_isIn_5, rX12_isIn_6, rX12_isIn_7, rX12_isIn_10, rX12_isIn_11, rX12_isIn_14, rX12_isIn_15]
  by_cases ht : a.testBit i = true
  · have := isin_fin a ha i hi
    rw [if_pos ht] at this
    rw [if_pos this, if_pos ht]; simp
  · have := isin_fin2 a ha i hi (by simpa using ht)
    rw [if_neg this, if_neg ht]; simp
def bsum (n : Nat) : Nat → Nat
  | 0 => 0
  | k + 1 => bsum n k + n / 2 ^ k % 2
theorem bsum_le (n : Nat) : ∀ k, bsum n k ≤ k := by
  intro k
  induction k with
  | zero => exact Nat.le_refl _
  | succ k ih => unfold bsum; omega
theorem S_bitsOf {d : Nat} {h : Hp} {Q : Option PV → Hp → Prop} {n : Nat} (hn : n < 2147483648) : WP d mX12_bitsOf 0 [some (.inl (n : Int)), none, none] [] h Q = Q (some (.inl (bits n : Int))) h := by
  simp only [rX12_bitsOf_0, rX12_bitsOf_1, rX12_bitsOf_2, rX12_bitsOf_3]
  have step : ∀ i, i < 10 → WP d mX12_bitsOf 4 [some (.inl (n : Int)), some (.inl (bsum n i : Int)), some (.inl (i : Int))] [] h Q = WP d mX12_bitsOf 4 [some (.inl (n : Int)), some (.inl (bsum n (i + 1) : Int)), some (.inl ((i + 1 : Nat) : Int))] [] h Q := by
    intro i hi
    have := bsum_le n i
    have hlt : (i : Int) < 10 := by omega
    have e : iand (ishr (n : Int) (i : Int)) 1 = ((n / 2 ^ i % 2 : Nat) : Int) := by
      rw [ishr_n hn (by omega), show (1 : Int) = ((1 : Nat) : Int) from rfl, iand_n (Nat.lt_of_le_of_lt (Nat.div_le_self _ _) hn), and1]
    rw [rX12_bitsOf_4]
    simp only [rX12_bitsOf_5, rX12_bitsOf_7, rX12_bitsOf_10, rX12_bitsOf_11, rX12_bitsOf_12, rX12_bitsOf_13, rX12_bitsOf_14, rX12_bitsOf_15, rX12_bitsOf_16, rX12_bitsOf_17, rX12_bitsOf_18, rX12_bitsOf_21, hlt, Int.toNat_natCast, Int.natCast_nonneg, true_and, and_true, and_self, if_true, if_false, or_true, true_or, or_false, false_or, ne_eq, not_true_eq_false, not_false_eq_true, Nat.reduceLeDiff, Nat.reduceEqDiff, Nat.reduceLT, Nat.reduceAdd, Nat.reduceMul, Nat.reduceSub, Int.reduceLT, Int.reduceLE, Int.reduceEq, Int.reduceToNat, Int.reduceAdd, Int.reduceSub, Int.reduceMul, Int.reduceNeg, Int.cast_ofNat_Int, false_and, and_false, e, w32_s (i := i) (by omega), w32_ll (l := bsum n i) (m := n / 2 ^ i % 2) (by omega)]
    rfl
  have e0 := step 0 (by omega)
  rw [step 1 (by omega), step 2 (by omega), step 3 (by omega), step 4 (by omega), step 5 (by omega), step 6 (by omega), step 7 (by omega), step 8 (by omega), step 9 (by omega)] at e0
  have e1 : (WP d mX12_bitsOf 4 [some (.inl (n : Int)), some (.inl 0), some (.inl 0)] [] h Q) = WP d mX12_bitsOf 4 [some (.inl (n : Int)), some (.inl (bsum n 0 : Int)), some (.inl ((0 : Nat) : Int))] [] h Q := rfl
  rw [e1, e0, rX12_bitsOf_4]
  simp only [rX12_bitsOf_5, rX12_bitsOf_7, rX12_bitsOf_24, rX12_bitsOf_25, Int.toNat_natCast, Int.natCast_nonneg, true_and, and_true, and_self, if_true, if_false, or_true, true_or, or_false, false_or, ne_eq, not_true_eq_false, not_false_eq_true, Nat.reduceLeDiff, Nat.reduceEqDiff, Nat.reduceLT, Nat.reduceAdd, Nat.reduceMul, Nat.reduceSub, Int.reduceLT, Int.reduceLE, Int.reduceEq, Int.reduceToNat, Int.reduceAdd, Int.reduceSub, Int.reduceMul, Int.reduceNeg, Int.cast_ofNat_Int, false_and, and_false]
  have e2 : bsum n 10 = bits n := by
    simp only [bsum, bits, Nat.reducePow, Nat.div_one, Nat.zero_add]
  rw [e2]
def lP (a k : Nat) : Prop := a = 299 ∨ a = 300 ∨ (a = 294 ∧ (k = 18 ∨ k = 19 ∨ k = 20))
def LdC (h : Hp) (A : Nat → Int) (g bd th : Nat) (br bo : Int) : Prop := MdOk h ∧ AtA h A ∧ poolOk A ∧ A (35 + g) = br ∧ A (41 + g) = bo ∧ 0 ≤ br ∧ br ≤ 99 ∧ 0 ≤ bo ∧ bo ≤ 9 ∧ g < 6 ∧ bd ≤ 99 ∧ th < 64
theorem LdC.fr {h h' : Hp} {A : Nat → Int} {g bd th : Nat} {br bo : Int} (f : Fp lP h h') (x : LdC h A g bd th br bo) : LdC h' A g bd th br bo := by
  obtain ⟨x1, x2, x3⟩ := x
  exact ⟨x1.fr f, fun k hk => by rw [f.I (by unfold lP; omega)]; exact x2 k hk, x3⟩
theorem lawA_get {A : Nat → Int} {l : Nat} (h1 : A (3 + l) = 1) {n : Nat} (h2 : A (7 + l) = (n : Int)) : (lawA A l).length = n ∧ ∀ j, j < n → (lawA A l).getD j 0 = A (189 + (A (5 + l)).toNat + j) := by
  unfold lawA
  rw [if_neg (by omega), h2, Int.toNat_natCast]
  refine ⟨by simp, fun j hj => ?_⟩
  simp [List.getD, hj]
theorem RkC_of {h : Hp} {A : Nat → Int} (m : MdOk h) (a : AtA h A) (p : poolOk A) {l w : Nat} (hl : l < 2) (ht : A (3 + l) = 1) {env : Nat → Int} (he : ∀ j, j < w → hI h 300 j = env j) : RkC h l w (A (5 + l)).toNat (lawA A l) env ∧ lawA A l ≠ [] := by
  have := (p.2.2.2.2.2.2.1 l hl).2 ht
  obtain ⟨n, hn⟩ : ∃ n : Nat, A (7 + l) = (n : Int) := ⟨(A (7 + l)).toNat, by omega⟩
  have g := lawA_get ht hn
  refine ⟨⟨m, ?_, ?_, ?_, ?_, he⟩, ?_⟩
  · rw [a _ (by omega), hn, g.1]
  · rw [a _ (by omega)]; omega
  · rw [g.1]; omega
  · intro j hj
    rw [g.1] at hj
    rw [g.2 j hj, a _ (by omega)]
  · intro e
    have := g.1
    rw [e] at this
    simp at this
    omega
theorem lays_C {d : Nat} {Q : Option PV → Hp → Prop} {h0 h : Hp} {A : Nat → Int} {g bd th : Nat} {br bo : Int} {x4 : Option PV} {rc : Int} {tt : Nat} (C : LdC h A g bd th br bo) (f : Fp lP h0 h) (hkn : ∀ j, j < 5 → hI h 300 j = env0 br bo g th bd 0 j) (h3 : hI h 294 18 = rc) (h4 : hI h 294 19 = (tt : Int)) (hr : 0 ≤ rc ∧ rc ≤ 99) (er : rc = dRch (pdA A) br bo g th bd) (et : tt = dThr (pdA A) br bo g th bd)
    (k : ∀ h', Fp lP h0 h' → hI h' 294 18 = dRch (pdA A) br bo g th bd → hI h' 294 19 = (dThr (pdA A) br bo g th bd : Nat) → hI h' 294 20 = dPst (pdA A) br bo g th bd → Q none h') :
    WP (d + 2) mX12_laysDive 239 [some (.inr (.inr 294)), some (.inl (g : Int)), some (.inl (th : Int)), some (.inl (bd : Int)), x4] [] h Q := by
  obtain ⟨m, a, po, c5, c6, c7, c8, c9, c10, c11, c12, c13⟩ := id C
  have a4 : hI h 295 4 = A 4 := a 4 (by omega)
  have pk := po.2.2.2.2.1
  rcases (po.2.2.2.2.2.2.1 1 (by omega)).1 with ht | ht
  · have e0 : (pdA A).2.2.2.2.2 = [] := by
      show lawA A 1 = []
      unfold lawA; rw [if_pos ht]
    simp only [show 3 + 1 = 4 from rfl] at ht
    simp only [rX12_laysDive_239, rX12_laysDive_240, rX12_laysDive_243, rX12_laysDive_244, rX12_laysDive_245, rX12_laysDive_248, rX12_laysDive_249, rX12_laysDive_250, rX12_laysDive_251, rX12_laysDive_254, rX12_laysDive_255, rX12_laysDive_256, rX12_laysDive_257, rX12_laysDive_260, rX12_laysDive_261, rX12_laysDive_262, rX12_laysDive_265, rX12_laysDive_268, rX12_laysDive_269, rX12_laysDive_271, rX12_laysDive_274, rX12_laysDive_275, rX12_laysDive_276, rX12_laysDive_277, rX12_laysDive_280, rX12_laysDive_282, rX12_laysDive_285, hN_wI, hN_wJ, hN_wR, hS_wI, hS_wJ, hS_wR, hK_wI, hK_wJ, hK_wR, hI_wI, hI_wJ, hI_wR, hJ_wI, hJ_wJ, hJ_wR, hR_wI, hR_wJ, hR_wR, hN_nw, hS_nw, hK_nw, hI_nw, hJ_nw, hR_nw, psh_some, psh_none, Int.toNat_natCast, Int.natCast_nonneg, true_and, and_true, and_self, if_true, if_false, or_true, true_or, or_false, false_or, ne_eq, not_true_eq_false, not_false_eq_true, Nat.reduceLeDiff, Nat.reduceEqDiff, Nat.reduceLT, Nat.reduceAdd, Nat.reduceMul, Nat.reduceSub, Int.reduceLT, Int.reduceLE, Int.reduceEq, Int.reduceToNat, Int.reduceAdd, Int.reduceSub, Int.reduceMul, Int.reduceNeg, Int.cast_ofNat_Int, false_and, and_false, Md_K280 m, Md_R281 m, Md_K281 m, Md_R282 m, Md_K282 m, Md_R283 m, Md_K283 m, Md_R284 m, Md_K284 m, Md_R285 m, Md_K285 m, Md_R286 m, Md_K286 m, Md_R287 m, Md_K287 m, Md_R288 m, Md_K288 m, Md_R289 m, Md_K289 m, Md_R290 m, Md_K290 m, Md_R291 m, Md_K291 m, Md_R292 m, Md_K292 m, Md_R293 m, Md_K293 m, Md_R294 m, Md_K294 m, Md_R295 m, Md_K295 m, Md_R296 m, Md_K296 m, Md_R297 m, Md_K297 m, Md_R298 m, Md_K298 m, Md_R299 m, Md_K299 m, h3, a4, ht, w32_s (i := bd) (by omega)]
    have ep : dPst (pdA A) br bo g th bd = if bd < 99 then (bd : Int) + 1 else 99 := by
      unfold dPst
      rw [if_pos e0]
    by_cases hb9 : bd < 99
    · rw [if_pos (by omega)]
      refine k _ ((f.wI (Or.inr (Or.inl rfl)) _).wI (Or.inr (Or.inr ⟨rfl, by omega⟩)) _) ?_ ?_ ?_
      · simp only [hN_wI, hN_wJ, hN_wR, hS_wI, hS_wJ, hS_wR, hK_wI, hK_wJ, hK_wR, hI_wI, hI_wJ, hI_wR, hJ_wI, hJ_wJ, hJ_wR, hR_wI, hR_wJ, hR_wR, hN_nw, hS_nw, hK_nw, hI_nw, hJ_nw, hR_nw, psh_some, psh_none, Int.toNat_natCast, Int.natCast_nonneg, true_and, and_true, and_self, if_true, if_false, or_true, true_or, or_false, false_or, ne_eq, not_true_eq_false, not_false_eq_true, Nat.reduceLeDiff, Nat.reduceEqDiff, Nat.reduceLT, Nat.reduceAdd, Nat.reduceMul, Nat.reduceSub, Int.reduceLT, Int.reduceLE, Int.reduceEq, Int.reduceToNat, Int.reduceAdd, Int.reduceSub, Int.reduceMul, Int.reduceNeg, Int.cast_ofNat_Int, false_and, and_false]; rw [← er]; exact h3
      · simp only [hN_wI, hN_wJ, hN_wR, hS_wI, hS_wJ, hS_wR, hK_wI, hK_wJ, hK_wR, hI_wI, hI_wJ, hI_wR, hJ_wI, hJ_wJ, hJ_wR, hR_wI, hR_wJ, hR_wR, hN_nw, hS_nw, hK_nw, hI_nw, hJ_nw, hR_nw, psh_some, psh_none, Int.toNat_natCast, Int.natCast_nonneg, true_and, and_true, and_self, if_true, if_false, or_true, true_or, or_false, false_or, ne_eq, not_true_eq_false, not_false_eq_true, Nat.reduceLeDiff, Nat.reduceEqDiff, Nat.reduceLT, Nat.reduceAdd, Nat.reduceMul, Nat.reduceSub, Int.reduceLT, Int.reduceLE, Int.reduceEq, Int.reduceToNat, Int.reduceAdd, Int.reduceSub, Int.reduceMul, Int.reduceNeg, Int.cast_ofNat_Int, false_and, and_false]; rw [← et]; exact h4
      · simp only [hN_wI, hN_wJ, hN_wR, hS_wI, hS_wJ, hS_wR, hK_wI, hK_wJ, hK_wR, hI_wI, hI_wJ, hI_wR, hJ_wI, hJ_wJ, hJ_wR, hR_wI, hR_wJ, hR_wR, hN_nw, hS_nw, hK_nw, hI_nw, hJ_nw, hR_nw, psh_some, psh_none, Int.toNat_natCast, Int.natCast_nonneg, true_and, and_true, and_self, if_true, if_false, or_true, true_or, or_false, false_or, ne_eq, not_true_eq_false, not_false_eq_true, Nat.reduceLeDiff, Nat.reduceEqDiff, Nat.reduceLT, Nat.reduceAdd, Nat.reduceMul, Nat.reduceSub, Int.reduceLT, Int.reduceLE, Int.reduceEq, Int.reduceToNat, Int.reduceAdd, Int.reduceSub, Int.reduceMul, Int.reduceNeg, Int.cast_ofNat_Int, false_and, and_false]
        rw [ep, if_pos hb9]; omega
    · rw [if_neg (by omega)]
      refine k _ ((f.wI (Or.inr (Or.inl rfl)) _).wI (Or.inr (Or.inr ⟨rfl, by omega⟩)) _) ?_ ?_ ?_
      · simp only [hN_wI, hN_wJ, hN_wR, hS_wI, hS_wJ, hS_wR, hK_wI, hK_wJ, hK_wR, hI_wI, hI_wJ, hI_wR, hJ_wI, hJ_wJ, hJ_wR, hR_wI, hR_wJ, hR_wR, hN_nw, hS_nw, hK_nw, hI_nw, hJ_nw, hR_nw, psh_some, psh_none, Int.toNat_natCast, Int.natCast_nonneg, true_and, and_true, and_self, if_true, if_false, or_true, true_or, or_false, false_or, ne_eq, not_true_eq_false, not_false_eq_true, Nat.reduceLeDiff, Nat.reduceEqDiff, Nat.reduceLT, Nat.reduceAdd, Nat.reduceMul, Nat.reduceSub, Int.reduceLT, Int.reduceLE, Int.reduceEq, Int.reduceToNat, Int.reduceAdd, Int.reduceSub, Int.reduceMul, Int.reduceNeg, Int.cast_ofNat_Int, false_and, and_false]; rw [← er]; exact h3
      · simp only [hN_wI, hN_wJ, hN_wR, hS_wI, hS_wJ, hS_wR, hK_wI, hK_wJ, hK_wR, hI_wI, hI_wJ, hI_wR, hJ_wI, hJ_wJ, hJ_wR, hR_wI, hR_wJ, hR_wR, hN_nw, hS_nw, hK_nw, hI_nw, hJ_nw, hR_nw, psh_some, psh_none, Int.toNat_natCast, Int.natCast_nonneg, true_and, and_true, and_self, if_true, if_false, or_true, true_or, or_false, false_or, ne_eq, not_true_eq_false, not_false_eq_true, Nat.reduceLeDiff, Nat.reduceEqDiff, Nat.reduceLT, Nat.reduceAdd, Nat.reduceMul, Nat.reduceSub, Int.reduceLT, Int.reduceLE, Int.reduceEq, Int.reduceToNat, Int.reduceAdd, Int.reduceSub, Int.reduceMul, Int.reduceNeg, Int.cast_ofNat_Int, false_and, and_false]; rw [← et]; exact h4
      · simp only [hN_wI, hN_wJ, hN_wR, hS_wI, hS_wJ, hS_wR, hK_wI, hK_wJ, hK_wR, hI_wI, hI_wJ, hI_wR, hJ_wI, hJ_wJ, hJ_wR, hR_wI, hR_wJ, hR_wR, hN_nw, hS_nw, hK_nw, hI_nw, hJ_nw, hR_nw, psh_some, psh_none, Int.toNat_natCast, Int.natCast_nonneg, true_and, and_true, and_self, if_true, if_false, or_true, true_or, or_false, false_or, ne_eq, not_true_eq_false, not_false_eq_true, Nat.reduceLeDiff, Nat.reduceEqDiff, Nat.reduceLT, Nat.reduceAdd, Nat.reduceMul, Nat.reduceSub, Int.reduceLT, Int.reduceLE, Int.reduceEq, Int.reduceToNat, Int.reduceAdd, Int.reduceSub, Int.reduceMul, Int.reduceNeg, Int.cast_ofNat_Int, false_and, and_false]
        rw [ep, if_neg hb9]
  · have m1 := m.fr ((Fp.refl lP h).wI (a := 300) (k := 5) (Or.inr (Or.inl rfl)) rc)
    have a1 : AtA (wI h 300 5 rc) A := fun k hk => by rw [hI_wI, if_neg (by omega)]; exact a k hk
    have hkn1 : ∀ j, j < 6 → hI (wI h 300 5 rc) 300 j = env0 br bo g th bd rc j := by
      intro j hj
      rw [hI_wI]
      by_cases h5 : j = 5
      · subst h5; simp [env0]
      · rw [if_neg (by omega), hkn j (by omega)]
        unfold env0
        have : j = 0 ∨ j = 1 ∨ j = 2 ∨ j = 3 ∨ j = 4 := by omega
        rcases this with rfl | rfl | rfl | rfl | rfl <;> rfl
    obtain ⟨K1, ne⟩ := RkC_of m1 a1 po (l := 1) (w := 6) (by omega) ht hkn1
    have hty := (pk.2.2.2.2).resolve_left ne
    simp only [show 3 + 1 = 4 from rfl] at ht
    simp only [rX12_laysDive_239, rX12_laysDive_240, rX12_laysDive_243, rX12_laysDive_244, rX12_laysDive_245, rX12_laysDive_248, rX12_laysDive_249, rX12_laysDive_250, rX12_laysDive_251, rX12_laysDive_254, rX12_laysDive_255, rX12_laysDive_256, rX12_laysDive_257, rX12_laysDive_260, rX12_laysDive_261, rX12_laysDive_262, hN_wI, hN_wJ, hN_wR, hS_wI, hS_wJ, hS_wR, hK_wI, hK_wJ, hK_wR, hI_wI, hI_wJ, hI_wR, hJ_wI, hJ_wJ, hJ_wR, hR_wI, hR_wJ, hR_wR, hN_nw, hS_nw, hK_nw, hI_nw, hJ_nw, hR_nw, psh_some, psh_none, Int.toNat_natCast, Int.natCast_nonneg, true_and, and_true, and_self, if_true, if_false, or_true, true_or, or_false, false_or, ne_eq, not_true_eq_false, not_false_eq_true, Nat.reduceLeDiff, Nat.reduceEqDiff, Nat.reduceLT, Nat.reduceAdd, Nat.reduceMul, Nat.reduceSub, Int.reduceLT, Int.reduceLE, Int.reduceEq, Int.reduceToNat, Int.reduceAdd, Int.reduceSub, Int.reduceMul, Int.reduceNeg, Int.cast_ofNat_Int, false_and, and_false, Md_K280 m, Md_R281 m, Md_K281 m, Md_R282 m, Md_K282 m, Md_R283 m, Md_K283 m, Md_R284 m, Md_K284 m, Md_R285 m, Md_K285 m, Md_R286 m, Md_K286 m, Md_R287 m, Md_K287 m, Md_R288 m, Md_K288 m, Md_R289 m, Md_K289 m, Md_R290 m, Md_K290 m, Md_R291 m, Md_K291 m, Md_R292 m, Md_K292 m, Md_R293 m, Md_K293 m, Md_R294 m, Md_K294 m, Md_R295 m, Md_K295 m, Md_R296 m, Md_K296 m, Md_R297 m, Md_K297 m, Md_R298 m, Md_K298 m, Md_R299 m, Md_K299 m, h3, a4, ht]
    refine S_reckons (l := 1) (w := 6) (by omega) (by omega) (env0_ok ⟨c7, c8⟩ ⟨c9, c10⟩ c11 c12 hr 6) K1 hty ?_
    intro h' f'
    simp only [psh_some, rX12_laysDive_265, rX12_laysDive_268, rX12_laysDive_269, rX12_laysDive_271, rX12_laysDive_274, rX12_laysDive_275, rX12_laysDive_276, rX12_laysDive_277, rX12_laysDive_280, rX12_laysDive_282, rX12_laysDive_285, f'.K, hN_wI, hN_wJ, hN_wR, hS_wI, hS_wJ, hS_wR, hK_wI, hK_wJ, hK_wR, hI_wI, hI_wJ, hI_wR, hJ_wI, hJ_wJ, hJ_wR, hR_wI, hR_wJ, hR_wR, hN_nw, hS_nw, hK_nw, hI_nw, hJ_nw, hR_nw, psh_some, psh_none, Int.toNat_natCast, Int.natCast_nonneg, true_and, and_true, and_self, if_true, if_false, or_true, true_or, or_false, false_or, ne_eq, not_true_eq_false, not_false_eq_true, Nat.reduceLeDiff, Nat.reduceEqDiff, Nat.reduceLT, Nat.reduceAdd, Nat.reduceMul, Nat.reduceSub, Int.reduceLT, Int.reduceLE, Int.reduceEq, Int.reduceToNat, Int.reduceAdd, Int.reduceSub, Int.reduceMul, Int.reduceNeg, Int.cast_ofNat_Int, false_and, and_false, Md_K280 m, Md_R281 m, Md_K281 m, Md_R282 m, Md_K282 m, Md_R283 m, Md_K283 m, Md_R284 m, Md_K284 m, Md_R285 m, Md_K285 m, Md_R286 m, Md_K286 m, Md_R287 m, Md_K287 m, Md_R288 m, Md_K288 m, Md_R289 m, Md_K289 m, Md_R290 m, Md_K290 m, Md_R291 m, Md_K291 m, Md_R292 m, Md_K292 m, Md_R293 m, Md_K293 m, Md_R294 m, Md_K294 m, Md_R295 m, Md_K295 m, Md_R296 m, Md_K296 m, Md_R297 m, Md_K297 m, Md_R298 m, Md_K298 m, Md_R299 m, Md_K299 m]
    have fv : Fp lP h0 h' := (f.wI (a := 300) (k := 5) (Or.inr (Or.inl rfl)) rc).trans (f'.mono (fun a b c => by unfold rP at c; unfold lP; omega))
    refine k _ (fv.wI (Or.inr (Or.inr ⟨rfl, by omega⟩)) _) ?_ ?_ ?_
    · simp only [hN_wI, hN_wJ, hN_wR, hS_wI, hS_wJ, hS_wR, hK_wI, hK_wJ, hK_wR, hI_wI, hI_wJ, hI_wR, hJ_wI, hJ_wJ, hJ_wR, hR_wI, hR_wJ, hR_wR, hN_nw, hS_nw, hK_nw, hI_nw, hJ_nw, hR_nw, psh_some, psh_none, Int.toNat_natCast, Int.natCast_nonneg, true_and, and_true, and_self, if_true, if_false, or_true, true_or, or_false, false_or, ne_eq, not_true_eq_false, not_false_eq_true, Nat.reduceLeDiff, Nat.reduceEqDiff, Nat.reduceLT, Nat.reduceAdd, Nat.reduceMul, Nat.reduceSub, Int.reduceLT, Int.reduceLE, Int.reduceEq, Int.reduceToNat, Int.reduceAdd, Int.reduceSub, Int.reduceMul, Int.reduceNeg, Int.cast_ofNat_Int, false_and, and_false]
      rw [f'.I (by unfold rP; omega)]
      simp only [hN_wI, hN_wJ, hN_wR, hS_wI, hS_wJ, hS_wR, hK_wI, hK_wJ, hK_wR, hI_wI, hI_wJ, hI_wR, hJ_wI, hJ_wJ, hJ_wR, hR_wI, hR_wJ, hR_wR, hN_nw, hS_nw, hK_nw, hI_nw, hJ_nw, hR_nw, psh_some, psh_none, Int.toNat_natCast, Int.natCast_nonneg, true_and, and_true, and_self, if_true, if_false, or_true, true_or, or_false, false_or, ne_eq, not_true_eq_false, not_false_eq_true, Nat.reduceLeDiff, Nat.reduceEqDiff, Nat.reduceLT, Nat.reduceAdd, Nat.reduceMul, Nat.reduceSub, Int.reduceLT, Int.reduceLE, Int.reduceEq, Int.reduceToNat, Int.reduceAdd, Int.reduceSub, Int.reduceMul, Int.reduceNeg, Int.cast_ofNat_Int, false_and, and_false]; rw [← er]; exact h3
    · simp only [hN_wI, hN_wJ, hN_wR, hS_wI, hS_wJ, hS_wR, hK_wI, hK_wJ, hK_wR, hI_wI, hI_wJ, hI_wR, hJ_wI, hJ_wJ, hJ_wR, hR_wI, hR_wJ, hR_wR, hN_nw, hS_nw, hK_nw, hI_nw, hJ_nw, hR_nw, psh_some, psh_none, Int.toNat_natCast, Int.natCast_nonneg, true_and, and_true, and_self, if_true, if_false, or_true, true_or, or_false, false_or, ne_eq, not_true_eq_false, not_false_eq_true, Nat.reduceLeDiff, Nat.reduceEqDiff, Nat.reduceLT, Nat.reduceAdd, Nat.reduceMul, Nat.reduceSub, Int.reduceLT, Int.reduceLE, Int.reduceEq, Int.reduceToNat, Int.reduceAdd, Int.reduceSub, Int.reduceMul, Int.reduceNeg, Int.cast_ofNat_Int, false_and, and_false]
      rw [f'.I (by unfold rP; omega)]
      simp only [hN_wI, hN_wJ, hN_wR, hS_wI, hS_wJ, hS_wR, hK_wI, hK_wJ, hK_wR, hI_wI, hI_wJ, hI_wR, hJ_wI, hJ_wJ, hJ_wR, hR_wI, hR_wJ, hR_wR, hN_nw, hS_nw, hK_nw, hI_nw, hJ_nw, hR_nw, psh_some, psh_none, Int.toNat_natCast, Int.natCast_nonneg, true_and, and_true, and_self, if_true, if_false, or_true, true_or, or_false, false_or, ne_eq, not_true_eq_false, not_false_eq_true, Nat.reduceLeDiff, Nat.reduceEqDiff, Nat.reduceLT, Nat.reduceAdd, Nat.reduceMul, Nat.reduceSub, Int.reduceLT, Int.reduceLE, Int.reduceEq, Int.reduceToNat, Int.reduceAdd, Int.reduceSub, Int.reduceMul, Int.reduceNeg, Int.cast_ofNat_Int, false_and, and_false]; rw [← et]; exact h4
    · simp only [hN_wI, hN_wJ, hN_wR, hS_wI, hS_wJ, hS_wR, hK_wI, hK_wJ, hK_wR, hI_wI, hI_wJ, hI_wR, hJ_wI, hJ_wJ, hJ_wR, hR_wI, hR_wJ, hR_wR, hN_nw, hS_nw, hK_nw, hI_nw, hJ_nw, hR_nw, psh_some, psh_none, Int.toNat_natCast, Int.natCast_nonneg, true_and, and_true, and_self, if_true, if_false, or_true, true_or, or_false, false_or, ne_eq, not_true_eq_false, not_false_eq_true, Nat.reduceLeDiff, Nat.reduceEqDiff, Nat.reduceLT, Nat.reduceAdd, Nat.reduceMul, Nat.reduceSub, Int.reduceLT, Int.reduceLE, Int.reduceEq, Int.reduceToNat, Int.reduceAdd, Int.reduceSub, Int.reduceMul, Int.reduceNeg, Int.cast_ofNat_Int, false_and, and_false]
      have ne' : (pdA A).2.2.2.2.2 ≠ [] := ne
      unfold dPst
      rw [if_neg ne', er]
      rfl
theorem lays_B {d : Nat} {Q : Option PV → Hp → Prop} {h0 : Hp} {A : Nat → Int} {g bd th : Nat} {br bo : Int} {rc : Int} (C0 : LdC h0 A g bd th br bo) (hr : 0 ≤ rc ∧ rc ≤ 99) (er : rc = dRch (pdA A) br bo g th bd)
    (k : ∀ h', Fp lP h0 h' → hI h' 294 18 = dRch (pdA A) br bo g th bd → hI h' 294 19 = (dThr (pdA A) br bo g th bd : Nat) → hI h' 294 20 = dPst (pdA A) br bo g th bd → Q none h') :
    ∀ i (h : Hp), i ≤ (A 1).toNat → (Fp lP h0 h ∧ (∀ j, j < 5 → hI h 300 j = env0 br bo g th bd 0 j) ∧ hI h 294 18 = rc ∧ hI h 294 19 = (thr (pdA A) rc th i : Nat)) →
    WP (d + 2) mX12_laysDive 175 [some (.inr (.inr 294)), some (.inl (g : Int)), some (.inl (th : Int)), some (.inl (bd : Int)), some (.inl (i : Int))] [] h Q := by
  intro i h hi hx
  refine wp_for (fun i h => WP (d + 2) mX12_laysDive 175 [some (.inr (.inr 294)), some (.inl (g : Int)), some (.inl (th : Int)), some (.inl (bd : Int)), some (.inl (i : Int))] [] h Q) (fun i h => (Fp lP h0 h ∧ (∀ j, j < 5 → hI h 300 j = env0 br bo g th bd 0 j) ∧ hI h 294 18 = rc ∧ hI h 294 19 = (thr (pdA A) rc th i : Nat))) (A 1).toNat ?_ ?_ i h hi hx
  · rintro i h hi ⟨f, hkn, h3, h4⟩ nx
    have C := C0.fr f
    obtain ⟨m, a, po, c5, c6, c7, c8, c9, c10, c11, c12, c13⟩ := id C
    have t6 := po.2.1
    have t0 := po.1
    have a1 : hI h 295 1 = A 1 := a 1 (by omega)
    have e1 : hI h 295 (9 + i) = A (9 + i) := a _ (by omega)
    have nn := po.2.2.2.2.2.1 i (by omega)
    have e3 : hI h 295 (21 + i) = ((A (21 + i)).toNat : Int) := by rw [a _ (by omega)]; omega
    have b1 : ((9 + i : Nat) : Int) < 3267 := by omega
    have b3 : ((21 + i : Nat) : Int) < 3267 := by omega
    have hlt : (i : Int) < A 1 := by omega
    have hn := (po.2.2.2.2.1.2.1 i hi).2.2
    have hn' : (A (21 + i)).toNat < 64 := hn
    have ht := thr_in (p := pdA A) (rc := rc) c13 i (by omega)
    have h2i : 2 ^ i < 64 := Nat.pow_lt_pow_right (a := 2) (n := 6) (m := i) (by decide) (by omega)
    rw [rX12_laysDive_175]
    simp only [rX12_laysDive_177, rX12_laysDive_178, rX12_laysDive_181, rX12_laysDive_182, rX12_laysDive_183, rX12_laysDive_186, rX12_laysDive_187, rX12_laysDive_190, rX12_laysDive_192, rX12_laysDive_194, rX12_laysDive_195, rX12_laysDive_196, rX12_laysDive_197, rX12_laysDive_200, rX12_laysDive_203, rX12_laysDive_204, rX12_laysDive_207, rX12_laysDive_209, rX12_laysDive_211, rX12_laysDive_212, rX12_laysDive_213, rX12_laysDive_214, rX12_laysDive_215, rX12_laysDive_216, rX12_laysDive_217, rX12_laysDive_220, rX12_laysDive_221, rX12_laysDive_222, rX12_laysDive_225, rX12_laysDive_226, rX12_laysDive_228, rX12_laysDive_229, rX12_laysDive_230, rX12_laysDive_233, rX12_laysDive_236, hN_wI, hN_wJ, hN_wR, hS_wI, hS_wJ, hS_wR, hK_wI, hK_wJ, hK_wR, hI_wI, hI_wJ, hI_wR, hJ_wI, hJ_wJ, hJ_wR, hR_wI, hR_wJ, hR_wR, hN_nw, hS_nw, hK_nw, hI_nw, hJ_nw, hR_nw, psh_some, psh_none, Int.toNat_natCast, Int.natCast_nonneg, true_and, and_true, and_self, if_true, if_false, or_true, true_or, or_false, false_or, ne_eq, not_true_eq_false, not_false_eq_true, Nat.reduceLeDiff, Nat.reduceEqDiff, Nat.reduceLT, Nat.reduceAdd, Nat.reduceMul, Nat.reduceSub, Int.reduceLT, Int.reduceLE, Int.reduceEq, Int.reduceToNat, Int.reduceAdd, Int.reduceSub, Int.reduceMul, Int.reduceNeg, Int.cast_ofNat_Int, false_and, and_false, Md_K280 m, Md_R281 m, Md_K281 m, Md_R282 m, Md_K282 m, Md_R283 m, Md_K283 m, Md_R284 m, Md_K284 m, Md_R285 m, Md_K285 m, Md_R286 m, Md_K286 m, Md_R287 m, Md_K287 m, Md_R288 m, Md_K288 m, Md_R289 m, Md_K289 m, Md_R290 m, Md_K290 m, Md_R291 m, Md_K291 m, Md_R292 m, Md_K292 m, Md_R293 m, Md_K293 m, Md_R294 m, Md_K294 m, Md_R295 m, Md_K295 m, Md_R296 m, Md_K296 m, Md_R297 m, Md_K297 m, Md_R298 m, Md_K298 m, Md_R299 m, Md_K299 m, h3, h4, a1, hlt, b1, b3, w32_la (l := i) 9 (9 + i) (by omega) (by omega), w32_la (l := i) 21 (21 + i) (by omega) (by omega), e1, e3, w32_s (i := i) (by omega), shl1 (show i < 31 by omega), iandn_n (show (A (21 + i)).toNat < 2147483648 by omega) (show th < 2147483648 by omega), ior_n (show thr (pdA A) rc th i < 2147483648 by omega) (show 2 ^ i < 2147483648 by omega)]
    have et : thr (pdA A) rc th (i + 1) = if A (9 + i) ≤ rc ∧ without (A (21 + i)).toNat th = 0 then thr (pdA A) rc th i ||| 2 ^ i else thr (pdA A) rc th i := rfl
    by_cases q1 : rc < A (9 + i)
    · rw [if_pos q1]
      refine nx _ ⟨f, hkn, h3, ?_⟩
      rw [et, if_neg (by omega)]; exact h4
    · rw [if_neg q1]
      by_cases q2 : without (A (21 + i)).toNat th = 0
      · rw [if_pos (by omega)]
        refine nx _ ⟨f.wI (Or.inr (Or.inr ⟨rfl, by omega⟩)) _, fun j hj => ?_, ?_, ?_⟩
        · simp only [hN_wI, hN_wJ, hN_wR, hS_wI, hS_wJ, hS_wR, hK_wI, hK_wJ, hK_wR, hI_wI, hI_wJ, hI_wR, hJ_wI, hJ_wJ, hJ_wR, hR_wI, hR_wJ, hR_wR, hN_nw, hS_nw, hK_nw, hI_nw, hJ_nw, hR_nw, psh_some, psh_none, Int.toNat_natCast, Int.natCast_nonneg, true_and, and_true, and_self, if_true, if_false, or_true, true_or, or_false, false_or, ne_eq, not_true_eq_false, not_false_eq_true, Nat.reduceLeDiff, Nat.reduceEqDiff, Nat.reduceLT, Nat.reduceAdd, Nat.reduceMul, Nat.reduceSub, Int.reduceLT, Int.reduceLE, Int.reduceEq, Int.reduceToNat, Int.reduceAdd, Int.reduceSub, Int.reduceMul, Int.reduceNeg, Int.cast_ofNat_Int, false_and, and_false]; exact hkn j hj
        · simp only [hN_wI, hN_wJ, hN_wR, hS_wI, hS_wJ, hS_wR, hK_wI, hK_wJ, hK_wR, hI_wI, hI_wJ, hI_wR, hJ_wI, hJ_wJ, hJ_wR, hR_wI, hR_wJ, hR_wR, hN_nw, hS_nw, hK_nw, hI_nw, hJ_nw, hR_nw, psh_some, psh_none, Int.toNat_natCast, Int.natCast_nonneg, true_and, and_true, and_self, if_true, if_false, or_true, true_or, or_false, false_or, ne_eq, not_true_eq_false, not_false_eq_true, Nat.reduceLeDiff, Nat.reduceEqDiff, Nat.reduceLT, Nat.reduceAdd, Nat.reduceMul, Nat.reduceSub, Int.reduceLT, Int.reduceLE, Int.reduceEq, Int.reduceToNat, Int.reduceAdd, Int.reduceSub, Int.reduceMul, Int.reduceNeg, Int.cast_ofNat_Int, false_and, and_false]; exact h3
        · simp only [hN_wI, hN_wJ, hN_wR, hS_wI, hS_wJ, hS_wR, hK_wI, hK_wJ, hK_wR, hI_wI, hI_wJ, hI_wR, hJ_wI, hJ_wJ, hJ_wR, hR_wI, hR_wJ, hR_wR, hN_nw, hS_nw, hK_nw, hI_nw, hJ_nw, hR_nw, psh_some, psh_none, Int.toNat_natCast, Int.natCast_nonneg, true_and, and_true, and_self, if_true, if_false, or_true, true_or, or_false, false_or, ne_eq, not_true_eq_false, not_false_eq_true, Nat.reduceLeDiff, Nat.reduceEqDiff, Nat.reduceLT, Nat.reduceAdd, Nat.reduceMul, Nat.reduceSub, Int.reduceLT, Int.reduceLE, Int.reduceEq, Int.reduceToNat, Int.reduceAdd, Int.reduceSub, Int.reduceMul, Int.reduceNeg, Int.cast_ofNat_Int, false_and, and_false]
          rw [et, if_pos ⟨by omega, q2⟩]
      · rw [if_neg (by omega)]
        refine nx _ ⟨f, hkn, h3, ?_⟩
        rw [et, if_neg (by omega)]; exact h4
  · rintro h ⟨f, hkn, h3, h4⟩
    have C := C0.fr f
    obtain ⟨m, a, po, c5, c6, c7, c8, c9, c10, c11, c12, c13⟩ := id C
    have t0 := po.1
    have a1 : hI h 295 1 = A 1 := a 1 (by omega)
    have hlt : ¬ (((A 1).toNat : Int) < A 1) := by omega
    rw [rX12_laysDive_175]
    simp only [rX12_laysDive_177, rX12_laysDive_178, rX12_laysDive_181, rX12_laysDive_182, rX12_laysDive_183, hN_wI, hN_wJ, hN_wR, hS_wI, hS_wJ, hS_wR, hK_wI, hK_wJ, hK_wR, hI_wI, hI_wJ, hI_wR, hJ_wI, hJ_wJ, hJ_wR, hR_wI, hR_wJ, hR_wR, hN_nw, hS_nw, hK_nw, hI_nw, hJ_nw, hR_nw, psh_some, psh_none, Int.toNat_natCast, Int.natCast_nonneg, true_and, and_true, and_self, if_true, if_false, or_true, true_or, or_false, false_or, ne_eq, not_true_eq_false, not_false_eq_true, Nat.reduceLeDiff, Nat.reduceEqDiff, Nat.reduceLT, Nat.reduceAdd, Nat.reduceMul, Nat.reduceSub, Int.reduceLT, Int.reduceLE, Int.reduceEq, Int.reduceToNat, Int.reduceAdd, Int.reduceSub, Int.reduceMul, Int.reduceNeg, Int.cast_ofNat_Int, false_and, and_false, Md_K280 m, Md_R281 m, Md_K281 m, Md_R282 m, Md_K282 m, Md_R283 m, Md_K283 m, Md_R284 m, Md_K284 m, Md_R285 m, Md_K285 m, Md_R286 m, Md_K286 m, Md_R287 m, Md_K287 m, Md_R288 m, Md_K288 m, Md_R289 m, Md_K289 m, Md_R290 m, Md_K290 m, Md_R291 m, Md_K291 m, Md_R292 m, Md_K292 m, Md_R293 m, Md_K293 m, Md_R294 m, Md_K294 m, Md_R295 m, Md_K295 m, Md_R296 m, Md_K296 m, Md_R297 m, Md_K297 m, Md_R298 m, Md_K298 m, Md_R299 m, Md_K299 m, a1, hlt]
    refine lays_C C f hkn h3 h4 hr er ?_ k
    rw [er]; rfl
theorem lays_A {d : Nat} {Q : Option PV → Hp → Prop} {h0 : Hp} {A : Nat → Int} {g bd th : Nat} {br bo : Int} {r0 : Int} (C0 : LdC h0 A g bd th br bo) (er : r0 = rch0 (pdA A) br bo g th bd)
    (k : ∀ h', Fp lP h0 h' → hI h' 294 18 = dRch (pdA A) br bo g th bd → hI h' 294 19 = (dThr (pdA A) br bo g th bd : Nat) → hI h' 294 20 = dPst (pdA A) br bo g th bd → Q none h') :
    ∀ i (h : Hp), i ≤ (A 1).toNat → (Fp lP h0 h ∧ (∀ j, j < 5 → hI h 300 j = env0 br bo g th bd 0 j) ∧ hI h 294 18 = rch (pdA A) bo th i r0) →
    WP (d + 2) mX12_laysDive 87 [some (.inr (.inr 294)), some (.inl (g : Int)), some (.inl (th : Int)), some (.inl (bd : Int)), some (.inl (i : Int))] [] h Q := by
  intro i h hi hx
  refine wp_for (fun i h => WP (d + 2) mX12_laysDive 87 [some (.inr (.inr 294)), some (.inl (g : Int)), some (.inl (th : Int)), some (.inl (bd : Int)), some (.inl (i : Int))] [] h Q) (fun i h => (Fp lP h0 h ∧ (∀ j, j < 5 → hI h 300 j = env0 br bo g th bd 0 j) ∧ hI h 294 18 = rch (pdA A) bo th i r0)) (A 1).toNat ?_ ?_ i h hi hx
  · rintro i h hi ⟨f, hkn, h3⟩ nx
    have C := C0.fr f
    obtain ⟨m, a, po, c5, c6, c7, c8, c9, c10, c11, c12, c13⟩ := id C
    have t6 := po.2.1
    have t0 := po.1
    have a1 : hI h 295 1 = A 1 := a 1 (by omega)
    have e1 : hI h 295 (9 + i) = A (9 + i) := a _ (by omega)
    have e2 : hI h 295 (15 + i) = A (15 + i) := a _ (by omega)
    have e4 : hI h 295 (41 + g) = bo := by rw [a _ (by omega)]; exact c6
    have b1 : ((9 + i : Nat) : Int) < 3267 := by omega
    have b2 : ((15 + i : Nat) : Int) < 3267 := by omega
    have b4 : ((41 + g : Nat) : Int) < 3267 := by omega
    have hlt : (i : Int) < A 1 := by omega
    rw [rX12_laysDive_87]
    simp only [rX12_laysDive_89, rX12_laysDive_90, rX12_laysDive_93, rX12_laysDive_94, rX12_laysDive_95, rX12_laysDive_98, rX12_laysDive_99, rX12_laysDive_100, rX12_laysDive_102, rX12_laysDive_105, rX12_laysDive_108, rX12_laysDive_109, rX12_laysDive_112, rX12_laysDive_114, rX12_laysDive_116, rX12_laysDive_117, rX12_laysDive_118, rX12_laysDive_119, rX12_laysDive_122, rX12_laysDive_124, rX12_laysDive_125, rX12_laysDive_126, rX12_laysDive_127, rX12_laysDive_130, rX12_laysDive_131, rX12_laysDive_134, rX12_laysDive_136, rX12_laysDive_138, rX12_laysDive_139, rX12_laysDive_140, rX12_laysDive_141, rX12_laysDive_144, rX12_laysDive_147, rX12_laysDive_148, rX12_laysDive_149, rX12_laysDive_152, rX12_laysDive_154, rX12_laysDive_156, rX12_laysDive_157, rX12_laysDive_158, rX12_laysDive_161, rX12_laysDive_164, hN_wI, hN_wJ, hN_wR, hS_wI, hS_wJ, hS_wR, hK_wI, hK_wJ, hK_wR, hI_wI, hI_wJ, hI_wR, hJ_wI, hJ_wJ, hJ_wR, hR_wI, hR_wJ, hR_wR, hN_nw, hS_nw, hK_nw, hI_nw, hJ_nw, hR_nw, psh_some, psh_none, Int.toNat_natCast, Int.natCast_nonneg, true_and, and_true, and_self, if_true, if_false, or_true, true_or, or_false, false_or, ne_eq, not_true_eq_false, not_false_eq_true, Nat.reduceLeDiff, Nat.reduceEqDiff, Nat.reduceLT, Nat.reduceAdd, Nat.reduceMul, Nat.reduceSub, Int.reduceLT, Int.reduceLE, Int.reduceEq, Int.reduceToNat, Int.reduceAdd, Int.reduceSub, Int.reduceMul, Int.reduceNeg, Int.cast_ofNat_Int, false_and, and_false, Md_K280 m, Md_R281 m, Md_K281 m, Md_R282 m, Md_K282 m, Md_R283 m, Md_K283 m, Md_R284 m, Md_K284 m, Md_R285 m, Md_K285 m, Md_R286 m, Md_K286 m, Md_R287 m, Md_K287 m, Md_R288 m, Md_K288 m, Md_R289 m, Md_K289 m, Md_R290 m, Md_K290 m, Md_R291 m, Md_K291 m, Md_R292 m, Md_K292 m, Md_R293 m, Md_K293 m, Md_R294 m, Md_K294 m, Md_R295 m, Md_K295 m, Md_R296 m, Md_K296 m, Md_R297 m, Md_K297 m, Md_R298 m, Md_K298 m, Md_R299 m, Md_K299 m, h3, a1, hlt, b1, b2, b4, w32_la (l := i) 9 (9 + i) (by omega) (by omega), w32_la (l := i) 15 (15 + i) (by omega) (by omega), w32_la (l := g) 41 (41 + g) (by omega) (by omega), e1, e2, e4, w32_s (i := i) (by omega), S_isIn c13 (show i < 6 by omega)]
    have et : rch (pdA A) bo th (i + 1) r0 = if th.testBit i = true ∧ bo < A (15 + i) ∧ A (9 + i) < rch (pdA A) bo th i r0 then A (9 + i) else rch (pdA A) bo th i r0 := rfl
    by_cases q0 : th.testBit i = true
    · rw [if_pos q0]
      simp only [Int.toNat_natCast, Int.natCast_nonneg, true_and, and_true, and_self, if_true, if_false, or_true, true_or, or_false, false_or, ne_eq, not_true_eq_false, not_false_eq_true, Nat.reduceLeDiff, Nat.reduceEqDiff, Nat.reduceLT, Nat.reduceAdd, Nat.reduceMul, Nat.reduceSub, Int.reduceLT, Int.reduceLE, Int.reduceEq, Int.reduceToNat, Int.reduceAdd, Int.reduceSub, Int.reduceMul, Int.reduceNeg, Int.cast_ofNat_Int, false_and, and_false]
      by_cases q1 : bo < A (15 + i)
      · rw [if_pos q1]
        by_cases q2 : A (9 + i) < rch (pdA A) bo th i r0
        · rw [if_pos q2]
          refine nx _ ⟨f.wI (Or.inr (Or.inr ⟨rfl, by omega⟩)) _, fun j hj => ?_, ?_⟩
          · simp only [hN_wI, hN_wJ, hN_wR, hS_wI, hS_wJ, hS_wR, hK_wI, hK_wJ, hK_wR, hI_wI, hI_wJ, hI_wR, hJ_wI, hJ_wJ, hJ_wR, hR_wI, hR_wJ, hR_wR, hN_nw, hS_nw, hK_nw, hI_nw, hJ_nw, hR_nw, psh_some, psh_none, Int.toNat_natCast, Int.natCast_nonneg, true_and, and_true, and_self, if_true, if_false, or_true, true_or, or_false, false_or, ne_eq, not_true_eq_false, not_false_eq_true, Nat.reduceLeDiff, Nat.reduceEqDiff, Nat.reduceLT, Nat.reduceAdd, Nat.reduceMul, Nat.reduceSub, Int.reduceLT, Int.reduceLE, Int.reduceEq, Int.reduceToNat, Int.reduceAdd, Int.reduceSub, Int.reduceMul, Int.reduceNeg, Int.cast_ofNat_Int, false_and, and_false]; exact hkn j hj
          · simp only [hN_wI, hN_wJ, hN_wR, hS_wI, hS_wJ, hS_wR, hK_wI, hK_wJ, hK_wR, hI_wI, hI_wJ, hI_wR, hJ_wI, hJ_wJ, hJ_wR, hR_wI, hR_wJ, hR_wR, hN_nw, hS_nw, hK_nw, hI_nw, hJ_nw, hR_nw, psh_some, psh_none, Int.toNat_natCast, Int.natCast_nonneg, true_and, and_true, and_self, if_true, if_false, or_true, true_or, or_false, false_or, ne_eq, not_true_eq_false, not_false_eq_true, Nat.reduceLeDiff, Nat.reduceEqDiff, Nat.reduceLT, Nat.reduceAdd, Nat.reduceMul, Nat.reduceSub, Int.reduceLT, Int.reduceLE, Int.reduceEq, Int.reduceToNat, Int.reduceAdd, Int.reduceSub, Int.reduceMul, Int.reduceNeg, Int.cast_ofNat_Int, false_and, and_false]
            rw [et, if_pos ⟨q0, q1, q2⟩]
        · rw [if_neg q2]
          refine nx _ ⟨f, hkn, ?_⟩
          rw [et, if_neg (fun q => q2 q.2.2)]; exact h3
      · rw [if_neg q1]
        refine nx _ ⟨f, hkn, ?_⟩
        rw [et, if_neg (fun q => q1 q.2.1)]; exact h3
    · rw [if_neg q0]
      simp only [Int.toNat_natCast, Int.natCast_nonneg, true_and, and_true, and_self, if_true, if_false, or_true, true_or, or_false, false_or, ne_eq, not_true_eq_false, not_false_eq_true, Nat.reduceLeDiff, Nat.reduceEqDiff, Nat.reduceLT, Nat.reduceAdd, Nat.reduceMul, Nat.reduceSub, Int.reduceLT, Int.reduceLE, Int.reduceEq, Int.reduceToNat, Int.reduceAdd, Int.reduceSub, Int.reduceMul, Int.reduceNeg, Int.cast_ofNat_Int, false_and, and_false]
      refine nx _ ⟨f, hkn, ?_⟩
      rw [et, if_neg (fun q => q0 q.1)]; exact h3
  · rintro h ⟨f, hkn, h3⟩
    have C := C0.fr f
    obtain ⟨m, a, po, c5, c6, c7, c8, c9, c10, c11, c12, c13⟩ := id C
    have t0 := po.1
    have a1 : hI h 295 1 = A 1 := a 1 (by omega)
    have hlt : ¬ (((A 1).toNat : Int) < A 1) := by omega
    have e : rch (pdA A) bo th (A 1).toNat r0 = dRch (pdA A) br bo g th bd := by rw [er]; rfl
    have hr := dRch_in (p := pdA A) po.2.2.2.2.1 (g := g) (th := th) (bd := bd) (bo := bo) c7 c8
    rw [rX12_laysDive_87]
    simp only [rX12_laysDive_89, rX12_laysDive_90, rX12_laysDive_93, rX12_laysDive_94, rX12_laysDive_95, rX12_laysDive_167, rX12_laysDive_168, rX12_laysDive_169, rX12_laysDive_172, rX12_laysDive_173, hN_wI, hN_wJ, hN_wR, hS_wI, hS_wJ, hS_wR, hK_wI, hK_wJ, hK_wR, hI_wI, hI_wJ, hI_wR, hJ_wI, hJ_wJ, hJ_wR, hR_wI, hR_wJ, hR_wR, hN_nw, hS_nw, hK_nw, hI_nw, hJ_nw, hR_nw, psh_some, psh_none, Int.toNat_natCast, Int.natCast_nonneg, true_and, and_true, and_self, if_true, if_false, or_true, true_or, or_false, false_or, ne_eq, not_true_eq_false, not_false_eq_true, Nat.reduceLeDiff, Nat.reduceEqDiff, Nat.reduceLT, Nat.reduceAdd, Nat.reduceMul, Nat.reduceSub, Int.reduceLT, Int.reduceLE, Int.reduceEq, Int.reduceToNat, Int.reduceAdd, Int.reduceSub, Int.reduceMul, Int.reduceNeg, Int.cast_ofNat_Int, false_and, and_false, Md_K280 m, Md_R281 m, Md_K281 m, Md_R282 m, Md_K282 m, Md_R283 m, Md_K283 m, Md_R284 m, Md_K284 m, Md_R285 m, Md_K285 m, Md_R286 m, Md_K286 m, Md_R287 m, Md_K287 m, Md_R288 m, Md_K288 m, Md_R289 m, Md_K289 m, Md_R290 m, Md_K290 m, Md_R291 m, Md_K291 m, Md_R292 m, Md_K292 m, Md_R293 m, Md_K293 m, Md_R294 m, Md_K294 m, Md_R295 m, Md_K295 m, Md_R296 m, Md_K296 m, Md_R297 m, Md_K297 m, Md_R298 m, Md_K298 m, Md_R299 m, Md_K299 m, a1, hlt]
    refine lays_B C0 (by rw [e]; exact hr) e k 0 _ (Nat.zero_le _) ⟨f.wI (Or.inr (Or.inr ⟨rfl, by omega⟩)) _, fun j hj => ?_, ?_, ?_⟩
    · simp only [hN_wI, hN_wJ, hN_wR, hS_wI, hS_wJ, hS_wR, hK_wI, hK_wJ, hK_wR, hI_wI, hI_wJ, hI_wR, hJ_wI, hJ_wJ, hJ_wR, hR_wI, hR_wJ, hR_wR, hN_nw, hS_nw, hK_nw, hI_nw, hJ_nw, hR_nw, psh_some, psh_none, Int.toNat_natCast, Int.natCast_nonneg, true_and, and_true, and_self, if_true, if_false, or_true, true_or, or_false, false_or, ne_eq, not_true_eq_false, not_false_eq_true, Nat.reduceLeDiff, Nat.reduceEqDiff, Nat.reduceLT, Nat.reduceAdd, Nat.reduceMul, Nat.reduceSub, Int.reduceLT, Int.reduceLE, Int.reduceEq, Int.reduceToNat, Int.reduceAdd, Int.reduceSub, Int.reduceMul, Int.reduceNeg, Int.cast_ofNat_Int, false_and, and_false]; exact hkn j hj
    · simp only [hN_wI, hN_wJ, hN_wR, hS_wI, hS_wJ, hS_wR, hK_wI, hK_wJ, hK_wR, hI_wI, hI_wJ, hI_wR, hJ_wI, hJ_wJ, hJ_wR, hR_wI, hR_wJ, hR_wR, hN_nw, hS_nw, hK_nw, hI_nw, hJ_nw, hR_nw, psh_some, psh_none, Int.toNat_natCast, Int.natCast_nonneg, true_and, and_true, and_self, if_true, if_false, or_true, true_or, or_false, false_or, ne_eq, not_true_eq_false, not_false_eq_true, Nat.reduceLeDiff, Nat.reduceEqDiff, Nat.reduceLT, Nat.reduceAdd, Nat.reduceMul, Nat.reduceSub, Int.reduceLT, Int.reduceLE, Int.reduceEq, Int.reduceToNat, Int.reduceAdd, Int.reduceSub, Int.reduceMul, Int.reduceNeg, Int.cast_ofNat_Int, false_and, and_false]; exact h3
    · simp only [hN_wI, hN_wJ, hN_wR, hS_wI, hS_wJ, hS_wR, hK_wI, hK_wJ, hK_wR, hI_wI, hI_wJ, hI_wR, hJ_wI, hJ_wJ, hJ_wR, hR_wI, hR_wJ, hR_wR, hN_nw, hS_nw, hK_nw, hI_nw, hJ_nw, hR_nw, psh_some, psh_none, Int.toNat_natCast, Int.natCast_nonneg, true_and, and_true, and_self, if_true, if_false, or_true, true_or, or_false, false_or, ne_eq, not_true_eq_false, not_false_eq_true, Nat.reduceLeDiff, Nat.reduceEqDiff, Nat.reduceLT, Nat.reduceAdd, Nat.reduceMul, Nat.reduceSub, Int.reduceLT, Int.reduceLE, Int.reduceEq, Int.reduceToNat, Int.reduceAdd, Int.reduceSub, Int.reduceMul, Int.reduceNeg, Int.cast_ofNat_Int, false_and, and_false]; rfl
theorem S_laysDive {d : Nat} {Q : Option PV → Hp → Prop} {h : Hp} {A : Nat → Int} {g bd th : Nat} {br bo : Int} (C : LdC h A g bd th br bo)
    (k : ∀ h', Fp lP h h' → hI h' 294 18 = dRch (pdA A) br bo g th bd → hI h' 294 19 = (dThr (pdA A) br bo g th bd : Nat) → hI h' 294 20 = dPst (pdA A) br bo g th bd → Q none h') :
    WP (d + 2) mX12_laysDive 0 [some (.inr (.inr 294)), some (.inl (g : Int)), some (.inl (th : Int)), some (.inl (bd : Int)), none] [] h Q := by
  obtain ⟨m, a, po, c5, c6, c7, c8, c9, c10, c11, c12, c13⟩ := id C
  have a3 : hI h 295 3 = A 3 := a 3 (by omega)
  have e4 : hI h 295 (41 + g) = bo := by rw [a _ (by omega)]; exact c6
  have e5 : hI h 295 (35 + g) = br := by rw [a _ (by omega)]; exact c5
  have b4 : ((41 + g : Nat) : Int) < 3267 := by omega
  have b5 : ((35 + g : Nat) : Int) < 3267 := by omega
  have pk := po.2.2.2.2.1
  have fA : Fp lP h (wI (wI (wI (wI (wI h 300 0 g) 300 1 bo) 300 2 bd) 300 3 (bits th : Nat)) 300 4 br) := ((((((Fp.refl lP h).wI (Or.inr (Or.inl rfl)) _).wI (Or.inr (Or.inl rfl)) _).wI (Or.inr (Or.inl rfl)) _).wI (Or.inr (Or.inl rfl)) _).wI (Or.inr (Or.inl rfl)) _)
  have kn : ∀ j, j < 5 → hI (wI (wI (wI (wI (wI h 300 0 g) 300 1 bo) 300 2 bd) 300 3 (bits th : Nat)) 300 4 br) 300 j = env0 br bo g th bd 0 j := by
    intro j hj
    have : j = 0 ∨ j = 1 ∨ j = 2 ∨ j = 3 ∨ j = 4 := by omega
    rcases this with rfl | rfl | rfl | rfl | rfl <;> simp [hI_wI, env0]
  rcases (po.2.2.2.2.2.2.1 0 (by omega)).1 with ht | ht
  · have e0 : (pdA A).2.2.2.2.1 = [] := by
      show lawA A 0 = []
      unfold lawA; rw [if_pos ht]
    simp only [Nat.add_zero] at ht
    simp only [rX12_laysDive_0, rX12_laysDive_1, rX12_laysDive_4, rX12_laysDive_5, rX12_laysDive_6, rX12_laysDive_7, rX12_laysDive_8, rX12_laysDive_11, rX12_laysDive_12, rX12_laysDive_13, rX12_laysDive_16, rX12_laysDive_18, rX12_laysDive_19, rX12_laysDive_20, rX12_laysDive_21, rX12_laysDive_22, rX12_laysDive_23, rX12_laysDive_26, rX12_laysDive_27, rX12_laysDive_28, rX12_laysDive_29, rX12_laysDive_30, rX12_laysDive_33, rX12_laysDive_34, rX12_laysDive_35, rX12_laysDive_38, rX12_laysDive_39, rX12_laysDive_40, rX12_laysDive_43, rX12_laysDive_44, rX12_laysDive_45, rX12_laysDive_48, rX12_laysDive_50, rX12_laysDive_51, rX12_laysDive_52, rX12_laysDive_53, rX12_laysDive_54, rX12_laysDive_55, rX12_laysDive_56, rX12_laysDive_59, rX12_laysDive_60, rX12_laysDive_61, rX12_laysDive_64, rX12_laysDive_65, rX12_laysDive_68, rX12_laysDive_70, rX12_laysDive_71, rX12_laysDive_72, rX12_laysDive_73, rX12_laysDive_76, rX12_laysDive_77, rX12_laysDive_78, rX12_laysDive_81, rX12_laysDive_84, rX12_laysDive_85, hN_wI, hN_wJ, hN_wR, hS_wI, hS_wJ, hS_wR, hK_wI, hK_wJ, hK_wR, hI_wI, hI_wJ, hI_wR, hJ_wI, hJ_wJ, hJ_wR, hR_wI, hR_wJ, hR_wR, hN_nw, hS_nw, hK_nw, hI_nw, hJ_nw, hR_nw, psh_some, psh_none, Int.toNat_natCast, Int.natCast_nonneg, true_and, and_true, and_self, if_true, if_false, or_true, true_or, or_false, false_or, ne_eq, not_true_eq_false, not_false_eq_true, Nat.reduceLeDiff, Nat.reduceEqDiff, Nat.reduceLT, Nat.reduceAdd, Nat.reduceMul, Nat.reduceSub, Int.reduceLT, Int.reduceLE, Int.reduceEq, Int.reduceToNat, Int.reduceAdd, Int.reduceSub, Int.reduceMul, Int.reduceNeg, Int.cast_ofNat_Int, false_and, and_false, Md_K280 m, Md_R281 m, Md_K281 m, Md_R282 m, Md_K282 m, Md_R283 m, Md_K283 m, Md_R284 m, Md_K284 m, Md_R285 m, Md_K285 m, Md_R286 m, Md_K286 m, Md_R287 m, Md_K287 m, Md_R288 m, Md_K288 m, Md_R289 m, Md_K289 m, Md_R290 m, Md_K290 m, Md_R291 m, Md_K291 m, Md_R292 m, Md_K292 m, Md_R293 m, Md_K293 m, Md_R294 m, Md_K294 m, Md_R295 m, Md_K295 m, Md_R296 m, Md_K296 m, Md_R297 m, Md_K297 m, Md_R298 m, Md_K298 m, Md_R299 m, Md_K299 m, a3, ht, b4, b5, w32_la (l := g) 41 (41 + g) (by omega) (by omega), w32_la (l := g) 35 (35 + g) (by omega) (by omega), e4, e5, S_bitsOf (show th < 2147483648 by omega)]
    refine lays_A C (r0 := br) ?_ k 0 _ (Nat.zero_le _) ⟨fA.wI (Or.inr (Or.inr ⟨rfl, by omega⟩)) _, fun j hj => ?_, ?_⟩
    · unfold rch0; rw [if_pos e0]
    · rw [hI_wI, if_neg (by omega)]; exact kn j hj
    · simp only [hN_wI, hN_wJ, hN_wR, hS_wI, hS_wJ, hS_wR, hK_wI, hK_wJ, hK_wR, hI_wI, hI_wJ, hI_wR, hJ_wI, hJ_wJ, hJ_wR, hR_wI, hR_wJ, hR_wR, hN_nw, hS_nw, hK_nw, hI_nw, hJ_nw, hR_nw, psh_some, psh_none, Int.toNat_natCast, Int.natCast_nonneg, true_and, and_true, and_self, if_true, if_false, or_true, true_or, or_false, false_or, ne_eq, not_true_eq_false, not_false_eq_true, Nat.reduceLeDiff, Nat.reduceEqDiff, Nat.reduceLT, Nat.reduceAdd, Nat.reduceMul, Nat.reduceSub, Int.reduceLT, Int.reduceLE, Int.reduceEq, Int.reduceToNat, Int.reduceAdd, Int.reduceSub, Int.reduceMul, Int.reduceNeg, Int.cast_ofNat_Int, false_and, and_false]; rfl
  · obtain ⟨K1, ne⟩ := RkC_of (m.fr fA) (C.fr fA).2.1 po (l := 0) (w := 5) (by omega) ht kn
    have hty := (pk.2.2.1.2).resolve_left ne
    simp only [Nat.add_zero] at ht
    simp only [rX12_laysDive_0, rX12_laysDive_1, rX12_laysDive_4, rX12_laysDive_5, rX12_laysDive_6, rX12_laysDive_7, rX12_laysDive_8, rX12_laysDive_11, rX12_laysDive_12, rX12_laysDive_13, rX12_laysDive_16, rX12_laysDive_18, rX12_laysDive_19, rX12_laysDive_20, rX12_laysDive_21, rX12_laysDive_22, rX12_laysDive_23, rX12_laysDive_26, rX12_laysDive_27, rX12_laysDive_28, rX12_laysDive_29, rX12_laysDive_30, rX12_laysDive_33, rX12_laysDive_34, rX12_laysDive_35, rX12_laysDive_38, rX12_laysDive_39, rX12_laysDive_40, rX12_laysDive_43, rX12_laysDive_44, rX12_laysDive_45, rX12_laysDive_48, rX12_laysDive_50, rX12_laysDive_51, rX12_laysDive_52, rX12_laysDive_53, rX12_laysDive_54, rX12_laysDive_55, rX12_laysDive_56, rX12_laysDive_59, rX12_laysDive_60, rX12_laysDive_61, rX12_laysDive_64, rX12_laysDive_65, rX12_laysDive_68, rX12_laysDive_70, rX12_laysDive_71, rX12_laysDive_72, rX12_laysDive_73, rX12_laysDive_76, rX12_laysDive_77, rX12_laysDive_78, hN_wI, hN_wJ, hN_wR, hS_wI, hS_wJ, hS_wR, hK_wI, hK_wJ, hK_wR, hI_wI, hI_wJ, hI_wR, hJ_wI, hJ_wJ, hJ_wR, hR_wI, hR_wJ, hR_wR, hN_nw, hS_nw, hK_nw, hI_nw, hJ_nw, hR_nw, psh_some, psh_none, Int.toNat_natCast, Int.natCast_nonneg, true_and, and_true, and_self, if_true, if_false, or_true, true_or, or_false, false_or, ne_eq, not_true_eq_false, not_false_eq_true, Nat.reduceLeDiff, Nat.reduceEqDiff, Nat.reduceLT, Nat.reduceAdd, Nat.reduceMul, Nat.reduceSub, Int.reduceLT, Int.reduceLE, Int.reduceEq, Int.reduceToNat, Int.reduceAdd, Int.reduceSub, Int.reduceMul, Int.reduceNeg, Int.cast_ofNat_Int, false_and, and_false, Md_K280 m, Md_R281 m, Md_K281 m, Md_R282 m, Md_K282 m, Md_R283 m, Md_K283 m, Md_R284 m, Md_K284 m, Md_R285 m, Md_K285 m, Md_R286 m, Md_K286 m, Md_R287 m, Md_K287 m, Md_R288 m, Md_K288 m, Md_R289 m, Md_K289 m, Md_R290 m, Md_K290 m, Md_R291 m, Md_K291 m, Md_R292 m, Md_K292 m, Md_R293 m, Md_K293 m, Md_R294 m, Md_K294 m, Md_R295 m, Md_K295 m, Md_R296 m, Md_K296 m, Md_R297 m, Md_K297 m, Md_R298 m, Md_K298 m, Md_R299 m, Md_K299 m, a3, ht, b4, b5, w32_la (l := g) 41 (41 + g) (by omega) (by omega), w32_la (l := g) 35 (35 + g) (by omega) (by omega), e4, e5, S_bitsOf (show th < 2147483648 by omega)]
    refine S_reckons (l := 0) (w := 5) (by omega) (by omega) (env0_ok ⟨c7, c8⟩ ⟨c9, c10⟩ c11 c12 ⟨by omega, by omega⟩ 5) K1 hty ?_
    intro h' f'
    simp only [psh_some, rX12_laysDive_81, rX12_laysDive_84, rX12_laysDive_85, f'.K, hN_wI, hN_wJ, hN_wR, hS_wI, hS_wJ, hS_wR, hK_wI, hK_wJ, hK_wR, hI_wI, hI_wJ, hI_wR, hJ_wI, hJ_wJ, hJ_wR, hR_wI, hR_wJ, hR_wR, hN_nw, hS_nw, hK_nw, hI_nw, hJ_nw, hR_nw, psh_some, psh_none, Int.toNat_natCast, Int.natCast_nonneg, true_and, and_true, and_self, if_true, if_false, or_true, true_or, or_false, false_or, ne_eq, not_true_eq_false, not_false_eq_true, Nat.reduceLeDiff, Nat.reduceEqDiff, Nat.reduceLT, Nat.reduceAdd, Nat.reduceMul, Nat.reduceSub, Int.reduceLT, Int.reduceLE, Int.reduceEq, Int.reduceToNat, Int.reduceAdd, Int.reduceSub, Int.reduceMul, Int.reduceNeg, Int.cast_ofNat_Int, false_and, and_false, Md_K280 m, Md_R281 m, Md_K281 m, Md_R282 m, Md_K282 m, Md_R283 m, Md_K283 m, Md_R284 m, Md_K284 m, Md_R285 m, Md_K285 m, Md_R286 m, Md_K286 m, Md_R287 m, Md_K287 m, Md_R288 m, Md_K288 m, Md_R289 m, Md_K289 m, Md_R290 m, Md_K290 m, Md_R291 m, Md_K291 m, Md_R292 m, Md_K292 m, Md_R293 m, Md_K293 m, Md_R294 m, Md_K294 m, Md_R295 m, Md_K295 m, Md_R296 m, Md_K296 m, Md_R297 m, Md_K297 m, Md_R298 m, Md_K298 m, Md_R299 m, Md_K299 m]
    have fv : Fp lP h h' := fA.trans (f'.mono (fun a b c => by unfold rP at c; unfold lP; omega))
    refine lays_A C rfl k 0 _ (Nat.zero_le _) ⟨fv.wI (Or.inr (Or.inr ⟨rfl, by omega⟩)) _, fun j hj => ?_, ?_⟩
    · simp only [hN_wI, hN_wJ, hN_wR, hS_wI, hS_wJ, hS_wR, hK_wI, hK_wJ, hK_wR, hI_wI, hI_wJ, hI_wR, hJ_wI, hJ_wJ, hJ_wR, hR_wI, hR_wJ, hR_wR, hN_nw, hS_nw, hK_nw, hI_nw, hJ_nw, hR_nw, psh_some, psh_none, Int.toNat_natCast, Int.natCast_nonneg, true_and, and_true, and_self, if_true, if_false, or_true, true_or, or_false, false_or, ne_eq, not_true_eq_false, not_false_eq_true, Nat.reduceLeDiff, Nat.reduceEqDiff, Nat.reduceLT, Nat.reduceAdd, Nat.reduceMul, Nat.reduceSub, Int.reduceLT, Int.reduceLE, Int.reduceEq, Int.reduceToNat, Int.reduceAdd, Int.reduceSub, Int.reduceMul, Int.reduceNeg, Int.cast_ofNat_Int, false_and, and_false]
      rw [f'.I (by unfold rP; omega)]; exact kn j hj
    · simp only [hN_wI, hN_wJ, hN_wR, hS_wI, hS_wJ, hS_wR, hK_wI, hK_wJ, hK_wR, hI_wI, hI_wJ, hI_wR, hJ_wI, hJ_wJ, hJ_wR, hR_wI, hR_wJ, hR_wR, hN_nw, hS_nw, hK_nw, hI_nw, hJ_nw, hR_nw, psh_some, psh_none, Int.toNat_natCast, Int.natCast_nonneg, true_and, and_true, and_self, if_true, if_false, or_true, true_or, or_false, false_or, ne_eq, not_true_eq_false, not_false_eq_true, Nat.reduceLeDiff, Nat.reduceEqDiff, Nat.reduceLT, Nat.reduceAdd, Nat.reduceMul, Nat.reduceSub, Int.reduceLT, Int.reduceLE, Int.reduceEq, Int.reduceToNat, Int.reduceAdd, Int.reduceSub, Int.reduceMul, Int.reduceNeg, Int.cast_ofNat_Int, false_and, and_false]
      have ne' : (pdA A).2.2.2.2.1 ≠ [] := ne
      unfold rch rch0
      rw [if_neg ne']
      rfl
