/-! counts, the truthful, those who went alone -/
def sumG (A : Nat → Int) : Nat → Int
  | 0 => 0
  | n + 1 => sumG A n + A (27 + n)
def maxD (A : Nat → Int) : Nat → Int
  | 0 => -1
  | n + 1 => if maxD A n < A (9 + n) then A (9 + n) else maxD A n
theorem sumG_in {A : Nat → Int} (po : poolOk A) : ∀ n, n ≤ 6 → 0 ≤ sumG A n ∧ sumG A n ≤ 9 * n := by
  intro n
  induction n with
  | zero => intro _; exact ⟨Int.le_refl _, Int.le_refl _⟩
  | succ n ih =>
    intro hn
    have := ih (by omega)
    have := po.2.2.2.2.2.2.2 n (by omega)
    show 0 ≤ sumG A n + A (27 + n) ∧ sumG A n + A (27 + n) ≤ 9 * ((n + 1 : Nat) : Int)
    omega
theorem S_allOdds {d : Nat} {Q : Option PV → Hp → Prop} {h : Hp} {A : Nat → Int} {p : Nat} (po : poolOk A) (hk : hK h p = (5, 0)) (h5 : hR h p 5 = p + 6) (k6 : hK h (p + 6) = (21, 6)) (hG : hI h p 11 = A 2) (ho : ∀ g, g < 6 → hI h (p + 6) g = A (27 + g)) (k : Q (some (.inl (sumG A (A 2).toNat))) h) :
    WP d mX5_allOdds 0 [some (.inr (.inr p)), none, none] [] h Q := by
  have g0 := po.2.2.1
  have g6 := po.2.2.2.1
  simp only [rX5_allOdds_0, rX5_allOdds_1, rX5_allOdds_2, rX5_allOdds_3]
  have main : ∀ n i, i + n = (A 2).toNat → WP d mX5_allOdds 4 [some (.inr (.inr p)), some (.inl (sumG A i)), some (.inl (i : Int))] [] h Q := by
    intro n
    induction n with
    | zero =>
      intro i hi
      have e : (i : Int) = A 2 := by omega
      rw [rX5_allOdds_4]
      simp only [rX5_allOdds_5, rX5_allOdds_6, rX5_allOdds_9, rX5_allOdds_27, rX5_allOdds_28, hk, hG, e, Int.lt_irrefl, Int.toNat_natCast, Int.natCast_nonneg, true_and, and_true, and_self, if_true, if_false, or_true, true_or, or_false, false_or, ne_eq, not_true_eq_false, not_false_eq_true, Nat.reduceLeDiff, Nat.reduceEqDiff, Nat.reduceLT, Nat.reduceAdd, Nat.reduceMul, Nat.reduceSub, Int.reduceLT, Int.reduceLE, Int.reduceEq, Int.reduceToNat, Int.reduceAdd, Int.reduceSub, Int.reduceMul, Int.reduceNeg, Int.cast_ofNat_Int, false_and, and_false]
      have : i = (A 2).toNat := by omega
      rw [this]; exact k
    | succ n ih =>
      intro i hi
      have l1 : (i : Int) < A 2 := by omega
      have l2 : (i : Int) < 6 := by omega
      have a := sumG_in po i (by omega)
      have b := po.2.2.2.2.2.2.2 i (by omega)
      have l3 : w32 (sumG A i + A (27 + i)) = sumG A (i + 1) := by rw [w32_i (by omega) (by omega)]; rfl
      rw [rX5_allOdds_4]
      simp only [rX5_allOdds_5, rX5_allOdds_6, rX5_allOdds_9, rX5_allOdds_12, rX5_allOdds_13, rX5_allOdds_14, rX5_allOdds_17, rX5_allOdds_18, rX5_allOdds_19, rX5_allOdds_20, rX5_allOdds_21, rX5_allOdds_24, hk, hG, h5, k6, l1, l2, l3, ho i (by omega), w32_s (i := i) (by omega), Int.toNat_natCast, Int.natCast_nonneg, true_and, and_true, and_self, if_true, if_false, or_true, true_or, or_false, false_or, ne_eq, not_true_eq_false, not_false_eq_true, Nat.reduceLeDiff, Nat.reduceEqDiff, Nat.reduceLT, Nat.reduceAdd, Nat.reduceMul, Nat.reduceSub, Int.reduceLT, Int.reduceLE, Int.reduceEq, Int.reduceToNat, Int.reduceAdd, Int.reduceSub, Int.reduceMul, Int.reduceNeg, Int.cast_ofNat_Int, false_and, and_false]
      exact ih (i + 1) (by omega)
  exact main _ 0 (Nat.zero_add _)
theorem S_greatest {d : Nat} {Q : Option PV → Hp → Prop} {h : Hp} {A : Nat → Int} {p : Nat} (po : poolOk A) (hk : hK h p = (5, 0)) (h0 : hR h p 0 = p + 1) (k1 : hK h (p + 1) = (21, 6)) (hT : hI h p 10 = A 1) (ho : ∀ t : Nat, (t : Int) < A 1 → hI h (p + 1) t = A (9 + t)) (k : Q (some (.inl (maxD A (A 1).toNat))) h) :
    WP (d + 1) mX5_greatestDepth 0 [some (.inr (.inr p)), none, none] [] h Q := by
  have g0 := po.1
  have g6 := po.2.1
  simp only [rX5_greatestDepth_0, rX5_greatestDepth_1, rX5_greatestDepth_2, rX5_greatestDepth_3]
  have main : ∀ n i, i + n = (A 1).toNat → WP (d + 1) mX5_greatestDepth 4 [some (.inr (.inr p)), some (.inl (maxD A i)), some (.inl (i : Int))] [] h Q := by
    intro n
    induction n with
    | zero =>
      intro i hi
      have e : (i : Int) = A 1 := by omega
      rw [rX5_greatestDepth_4]
      simp only [rX5_greatestDepth_5, rX5_greatestDepth_6, rX5_greatestDepth_9, rX5_greatestDepth_29, rX5_greatestDepth_30, hk, hT, e, Int.lt_irrefl, Int.toNat_natCast, Int.natCast_nonneg, true_and, and_true, and_self, if_true, if_false, or_true, true_or, or_false, false_or, ne_eq, not_true_eq_false, not_false_eq_true, Nat.reduceLeDiff, Nat.reduceEqDiff, Nat.reduceLT, Nat.reduceAdd, Nat.reduceMul, Nat.reduceSub, Int.reduceLT, Int.reduceLE, Int.reduceEq, Int.reduceToNat, Int.reduceAdd, Int.reduceSub, Int.reduceMul, Int.reduceNeg, Int.cast_ofNat_Int, false_and, and_false]
      have : i = (A 1).toNat := by omega
      rw [this]; exact k
    | succ n ih =>
      intro i hi
      have l1 : (i : Int) < A 1 := by omega
      have l2 : (i : Int) < 6 := by omega
      have l3 : (if maxD A i < A (9 + i) then A (9 + i) else maxD A i) = maxD A (i + 1) := rfl
      rw [rX5_greatestDepth_4]
      simp only [rX5_greatestDepth_5, rX5_greatestDepth_6, rX5_greatestDepth_9, rX5_greatestDepth_12, rX5_greatestDepth_13, rX5_greatestDepth_14, rX5_greatestDepth_17, rX5_greatestDepth_18, rX5_greatestDepth_19, rX5_greatestDepth_22, rX5_greatestDepth_23, rX5_greatestDepth_26, hk, hT, h0, k1, l1, l2, ho i l1, S_max, psh_some, l3, w32_s (i := i) (by omega), Int.toNat_natCast, Int.natCast_nonneg, true_and, and_true, and_self, if_true, if_false, or_true, true_or, or_false, false_or, ne_eq, not_true_eq_false, not_false_eq_true, Nat.reduceLeDiff, Nat.reduceEqDiff, Nat.reduceLT, Nat.reduceAdd, Nat.reduceMul, Nat.reduceSub, Int.reduceLT, Int.reduceLE, Int.reduceEq, Int.reduceToNat, Int.reduceAdd, Int.reduceSub, Int.reduceMul, Int.reduceNeg, Int.cast_ofNat_Int, false_and, and_false]
      exact ih (i + 1) (by omega)
  exact main _ 0 (Nat.zero_add _)
theorem S_rOdds {d : Nat} {Q : Option PV → Hp → Prop} {h : Hp} {A : Nat → Int} (x : RpF h A) (k : Q (some (.inl (sumG A (A 2).toNat))) h) :
    WP d mX12_oddsAll 0 [some (.inr (.inr 294)), none, none] [] h Q := by
  obtain ⟨m, a, po⟩ := x
  have g0 := po.2.2.1
  have g6 := po.2.2.2.1
  simp only [rX12_oddsAll_0, rX12_oddsAll_1, rX12_oddsAll_2, rX12_oddsAll_3]
  have main : ∀ n i, i + n = (A 2).toNat → WP d mX12_oddsAll 4 [some (.inr (.inr 294)), some (.inl (sumG A i)), some (.inl (i : Int))] [] h Q := by
    intro n
    induction n with
    | zero =>
      intro i hi
      have e : (i : Int) = A 2 := by omega
      rw [rX12_oddsAll_4]
      simp only [rX12_oddsAll_5, rX12_oddsAll_6, rX12_oddsAll_9, rX12_oddsAll_10, rX12_oddsAll_11, rX12_oddsAll_32, rX12_oddsAll_33, Md_K280 m, Md_R281 m, Md_K281 m, Md_R282 m, Md_K282 m, Md_R283 m, Md_K283 m, Md_R284 m, Md_K284 m, Md_R285 m, Md_K285 m, Md_R286 m, Md_K286 m, Md_R287 m, Md_K287 m, Md_R288 m, Md_K288 m, Md_R289 m, Md_K289 m, Md_R290 m, Md_K290 m, Md_R291 m, Md_K291 m, Md_R292 m, Md_K292 m, Md_R293 m, Md_K293 m, Md_R294 m, Md_K294 m, Md_R295 m, Md_K295 m, Md_R296 m, Md_K296 m, Md_R297 m, Md_K297 m, Md_R298 m, Md_K298 m, Md_R299 m, Md_K299 m, a 2 (by omega), e, Int.lt_irrefl, Int.toNat_natCast, Int.natCast_nonneg, true_and, and_true, and_self, if_true, if_false, or_true, true_or, or_false, false_or, ne_eq, not_true_eq_false, not_false_eq_true, Nat.reduceLeDiff, Nat.reduceEqDiff, Nat.reduceLT, Nat.reduceAdd, Nat.reduceMul, Nat.reduceSub, Int.reduceLT, Int.reduceLE, Int.reduceEq, Int.reduceToNat, Int.reduceAdd, Int.reduceSub, Int.reduceMul, Int.reduceNeg, Int.cast_ofNat_Int, false_and, and_false]
      have : i = (A 2).toNat := by omega
      rw [this]; exact k
    | succ n ih =>
      intro i hi
      have l1 : (i : Int) < A 2 := by omega
      have a' := sumG_in po i (by omega)
      have b := po.2.2.2.2.2.2.2 i (by omega)
      have l3 : w32 (sumG A i + A (27 + i)) = sumG A (i + 1) := by rw [w32_i (by omega) (by omega)]; rfl
      have l4 : w32 (27 + (i : Int)) = ((27 + i : Nat) : Int) := w32_la _ _ (by omega) (by omega)
      have l5 : ((27 + i : Nat) : Int) < 3267 := by omega
      rw [rX12_oddsAll_4]
      simp only [rX12_oddsAll_5, rX12_oddsAll_6, rX12_oddsAll_9, rX12_oddsAll_10, rX12_oddsAll_11, rX12_oddsAll_14, rX12_oddsAll_15, rX12_oddsAll_16, rX12_oddsAll_19, rX12_oddsAll_21, rX12_oddsAll_22, rX12_oddsAll_23, rX12_oddsAll_24, rX12_oddsAll_25, rX12_oddsAll_26, rX12_oddsAll_29, Md_K280 m, Md_R281 m, Md_K281 m, Md_R282 m, Md_K282 m, Md_R283 m, Md_K283 m, Md_R284 m, Md_K284 m, Md_R285 m, Md_K285 m, Md_R286 m, Md_K286 m, Md_R287 m, Md_K287 m, Md_R288 m, Md_K288 m, Md_R289 m, Md_K289 m, Md_R290 m, Md_K290 m, Md_R291 m, Md_K291 m, Md_R292 m, Md_K292 m, Md_R293 m, Md_K293 m, Md_R294 m, Md_K294 m, Md_R295 m, Md_K295 m, Md_R296 m, Md_K296 m, Md_R297 m, Md_K297 m, Md_R298 m, Md_K298 m, Md_R299 m, Md_K299 m, a 2 (by omega), a (27 + i) (by omega), l1, l3, l4, l5, w32_s (i := i) (by omega), Int.toNat_natCast, Int.natCast_nonneg, true_and, and_true, and_self, if_true, if_false, or_true, true_or, or_false, false_or, ne_eq, not_true_eq_false, not_false_eq_true, Nat.reduceLeDiff, Nat.reduceEqDiff, Nat.reduceLT, Nat.reduceAdd, Nat.reduceMul, Nat.reduceSub, Int.reduceLT, Int.reduceLE, Int.reduceEq, Int.reduceToNat, Int.reduceAdd, Int.reduceSub, Int.reduceMul, Int.reduceNeg, Int.cast_ofNat_Int, false_and, and_false]
      exact ih (i + 1) (by omega)
  exact main _ 0 (Nat.zero_add _)
theorem S_rDeepest {d : Nat} {Q : Option PV → Hp → Prop} {h : Hp} {A : Nat → Int} (x : RpF h A) (k : Q (some (.inl (maxD A (A 1).toNat))) h) :
    WP d mX12_deepestThing 0 [some (.inr (.inr 294)), none, none] [] h Q := by
  obtain ⟨m, a, po⟩ := x
  have g0 := po.1
  have g6 := po.2.1
  simp only [rX12_deepestThing_0, rX12_deepestThing_1, rX12_deepestThing_2, rX12_deepestThing_3]
  have main : ∀ n i, i + n = (A 1).toNat → WP d mX12_deepestThing 4 [some (.inr (.inr 294)), some (.inl (maxD A i)), some (.inl (i : Int))] [] h Q := by
    intro n
    induction n with
    | zero =>
      intro i hi
      have e : (i : Int) = A 1 := by omega
      rw [rX12_deepestThing_4]
      simp only [rX12_deepestThing_5, rX12_deepestThing_6, rX12_deepestThing_9, rX12_deepestThing_10, rX12_deepestThing_11, rX12_deepestThing_47, rX12_deepestThing_48, Md_K280 m, Md_R281 m, Md_K281 m, Md_R282 m, Md_K282 m, Md_R283 m, Md_K283 m, Md_R284 m, Md_K284 m, Md_R285 m, Md_K285 m, Md_R286 m, Md_K286 m, Md_R287 m, Md_K287 m, Md_R288 m, Md_K288 m, Md_R289 m, Md_K289 m, Md_R290 m, Md_K290 m, Md_R291 m, Md_K291 m, Md_R292 m, Md_K292 m, Md_R293 m, Md_K293 m, Md_R294 m, Md_K294 m, Md_R295 m, Md_K295 m, Md_R296 m, Md_K296 m, Md_R297 m, Md_K297 m, Md_R298 m, Md_K298 m, Md_R299 m, Md_K299 m, a 1 (by omega), e, Int.lt_irrefl, Int.toNat_natCast, Int.natCast_nonneg, true_and, and_true, and_self, if_true, if_false, or_true, true_or, or_false, false_or, ne_eq, not_true_eq_false, not_false_eq_true, Nat.reduceLeDiff, Nat.reduceEqDiff, Nat.reduceLT, Nat.reduceAdd, Nat.reduceMul, Nat.reduceSub, Int.reduceLT, Int.reduceLE, Int.reduceEq, Int.reduceToNat, Int.reduceAdd, Int.reduceSub, Int.reduceMul, Int.reduceNeg, Int.cast_ofNat_Int, false_and, and_false]
      have : i = (A 1).toNat := by omega
      rw [this]; exact k
    | succ n ih =>
      intro i hi
      have l1 : (i : Int) < A 1 := by omega
      have l4 : w32 (9 + (i : Int)) = ((9 + i : Nat) : Int) := w32_la _ _ (by omega) (by omega)
      have l5 : ((9 + i : Nat) : Int) < 3267 := by omega
      have go := ih (i + 1) (by omega)
      unfold maxD at go
      rw [rX12_deepestThing_4]
      simp only [rX12_deepestThing_5, rX12_deepestThing_6, rX12_deepestThing_9, rX12_deepestThing_10, rX12_deepestThing_11, rX12_deepestThing_14, rX12_deepestThing_15, rX12_deepestThing_18, rX12_deepestThing_20, rX12_deepestThing_21, rX12_deepestThing_22, rX12_deepestThing_23, rX12_deepestThing_24, rX12_deepestThing_27, rX12_deepestThing_28, rX12_deepestThing_31, rX12_deepestThing_33, rX12_deepestThing_34, rX12_deepestThing_35, rX12_deepestThing_36, rX12_deepestThing_39, rX12_deepestThing_40, rX12_deepestThing_41, rX12_deepestThing_44, Md_K280 m, Md_R281 m, Md_K281 m, Md_R282 m, Md_K282 m, Md_R283 m, Md_K283 m, Md_R284 m, Md_K284 m, Md_R285 m, Md_K285 m, Md_R286 m, Md_K286 m, Md_R287 m, Md_K287 m, Md_R288 m, Md_K288 m, Md_R289 m, Md_K289 m, Md_R290 m, Md_K290 m, Md_R291 m, Md_K291 m, Md_R292 m, Md_K292 m, Md_R293 m, Md_K293 m, Md_R294 m, Md_K294 m, Md_R295 m, Md_K295 m, Md_R296 m, Md_K296 m, Md_R297 m, Md_K297 m, Md_R298 m, Md_K298 m, Md_R299 m, Md_K299 m, a 1 (by omega), a (9 + i) (by omega), l1, l4, l5, w32_s (i := i) (by omega), Int.toNat_natCast, Int.natCast_nonneg, true_and, and_true, and_self, if_true, if_false, or_true, true_or, or_false, false_or, ne_eq, not_true_eq_false, not_false_eq_true, Nat.reduceLeDiff, Nat.reduceEqDiff, Nat.reduceLT, Nat.reduceAdd, Nat.reduceMul, Nat.reduceSub, Int.reduceLT, Int.reduceLE, Int.reduceEq, Int.reduceToNat, Int.reduceAdd, Int.reduceSub, Int.reduceMul, Int.reduceNeg, Int.cast_ofNat_Int, false_and, and_false]
      by_cases h9 : maxD A i < A (9 + i)
      · rw [if_pos h9] at go ⊢; exact go
      · rw [if_neg h9] at go ⊢; exact go
  exact main _ 0 (Nat.zero_add _)
def cnV (σ : AS) (wh : Int) : Int := if wh = 0 then sA σ 33 else if wh = 1 then sA σ 1 else if wh = 2 then sA σ 34 else if wh = 3 then sA σ 2 else if wh = 4 then sumG (sA σ) (sA σ 2).toNat else if wh = 5 then maxD (sA σ) (sA σ 1).toNat else if wh = 6 then sA σ 47 else if wh = 7 then (sN σ : Int) else if wh = 8 then sA σ 0 else -1
theorem C_count {d : Nat} {σ : AS} {wh : Int} : CSpec (d + 2) mX11_count [some (.inr (.inr 200)), some (.inl wh)] σ (.inl (cnV σ wh)) σ := by
  intro h Q x w k
  have k0 := k h x (Cfr.refl h)
  have m := x.1.1
  have c := x.cp w
  have st := x.1.2.2.2.1
  have rd := x.1.2.2.2.2.2.2.2
  obtain ⟨top, t1, t2, t3, t4⟩ := x.1.2.2.2.2.1
  obtain ⟨p, hp, p1, p2, p3, pk, pr0, pr1, pr2, pr5, k1, k2, k3, k6, pT, pG, pL, prw, pod⟩ := c.get
  have s0 : hI h 214 2 = sA σ 33 := st.1
  have s1 : hI h 214 3 = sA σ 34 := st.2.1
  unfold cnV at k0
  rw [rX11_count_0, rX11_count_1]
  by_cases w0 : wh = 0
  · rw [if_pos w0] at k0; subst w0
    simp only [show tabT 1 123 0 8 [51, 59, 67, 75, 83, 91, 99, 107, 115] 0 = 52 from rfl, rX11_count_52, rX11_count_53, rX11_count_56, rX11_count_59, Cs_K200 m, Cs_R200_0 m, Cs_R200_1 m, Cs_R200_2 m, Cs_R200_3 m, Cs_R200_4 m, Cs_R200_5 m, Cs_R200_6 m, Cs_K201 m, Cs_R201_0 m, Cs_R201_1 m, Cs_K202 m, Cs_K203 m, Cs_K211 m, Cs_R211_0 m, Cs_R211_1 m, Cs_K212 m, Cs_K213 m, Cs_K214 m, Cs_R214_0 m, Cs_R214_1 m, Cs_K215 m, Cs_K216 m, Cs_K217 m, Cs_R217_0 m, Cs_R217_1 m, Cs_K218 m, Cs_K219 m, Cs_K220 m, Cs_R220_0 m, Cs_K221 m, Cs_K262 m, Cs_K271 m, Cs_R271_0 m, Cs_R271_1 m, Cs_K272 m, Cs_K276 m, Cs_R272_0 m, Cs_R276_0 m, Cs_K273 m, Cs_R273_0 m, Cs_R273_1 m, Cs_K274 m, Cs_K275 m, Cs_K277 m, Cs_R277_0 m, Cs_R277_1 m, Cs_K278 m, Cs_K279 m, Cs_R262_0 m, Cs_K263 m, Cs_R263_0 m, Cs_K264 m, Cs_R262_1 m, Cs_K265 m, Cs_R265_0 m, Cs_K266 m, Cs_R262_2 m, Cs_K267 m, Cs_R267_0 m, Cs_K268 m, Cs_R262_3 m, Cs_K269 m, Cs_R269_0 m, Cs_K270 m, Int.toNat_natCast, Int.natCast_nonneg, true_and, and_true, and_self, if_true, if_false, or_true, true_or, or_false, false_or, ne_eq, not_true_eq_false, not_false_eq_true, Nat.reduceLeDiff, Nat.reduceEqDiff, Nat.reduceLT, Nat.reduceAdd, Nat.reduceMul, Nat.reduceSub, Int.reduceLT, Int.reduceLE, Int.reduceEq, Int.reduceToNat, Int.reduceAdd, Int.reduceSub, Int.reduceMul, Int.reduceNeg, Int.cast_ofNat_Int, false_and, and_false, s0]; exact k0
  rw [if_neg w0] at k0
  by_cases w1 : wh = 1
  · rw [if_pos w1] at k0; subst w1
    simp only [show tabT 1 123 0 8 [51, 59, 67, 75, 83, 91, 99, 107, 115] 1 = 60 from rfl, rX11_count_60, rX11_count_61, rX11_count_64, rX11_count_67, Cs_K200 m, hp, pk, pT, Int.toNat_natCast, Int.natCast_nonneg, true_and, and_true, and_self, if_true, if_false, or_true, true_or, or_false, false_or, ne_eq, not_true_eq_false, not_false_eq_true, Nat.reduceLeDiff, Nat.reduceEqDiff, Nat.reduceLT, Nat.reduceAdd, Nat.reduceMul, Nat.reduceSub, Int.reduceLT, Int.reduceLE, Int.reduceEq, Int.reduceToNat, Int.reduceAdd, Int.reduceSub, Int.reduceMul, Int.reduceNeg, Int.cast_ofNat_Int, false_and, and_false]; exact k0
  rw [if_neg w1] at k0
  by_cases w2 : wh = 2
  · rw [if_pos w2] at k0; subst w2
    simp only [show tabT 1 123 0 8 [51, 59, 67, 75, 83, 91, 99, 107, 115] 2 = 68 from rfl, rX11_count_68, rX11_count_69, rX11_count_72, rX11_count_75, Cs_K200 m, Cs_R200_0 m, Cs_R200_1 m, Cs_R200_2 m, Cs_R200_3 m, Cs_R200_4 m, Cs_R200_5 m, Cs_R200_6 m, Cs_K201 m, Cs_R201_0 m, Cs_R201_1 m, Cs_K202 m, Cs_K203 m, Cs_K211 m, Cs_R211_0 m, Cs_R211_1 m, Cs_K212 m, Cs_K213 m, Cs_K214 m, Cs_R214_0 m, Cs_R214_1 m, Cs_K215 m, Cs_K216 m, Cs_K217 m, Cs_R217_0 m, Cs_R217_1 m, Cs_K218 m, Cs_K219 m, Cs_K220 m, Cs_R220_0 m, Cs_K221 m, Cs_K262 m, Cs_K271 m, Cs_R271_0 m, Cs_R271_1 m, Cs_K272 m, Cs_K276 m, Cs_R272_0 m, Cs_R276_0 m, Cs_K273 m, Cs_R273_0 m, Cs_R273_1 m, Cs_K274 m, Cs_K275 m, Cs_K277 m, Cs_R277_0 m, Cs_R277_1 m, Cs_K278 m, Cs_K279 m, Cs_R262_0 m, Cs_K263 m, Cs_R263_0 m, Cs_K264 m, Cs_R262_1 m, Cs_K265 m, Cs_R265_0 m, Cs_K266 m, Cs_R262_2 m, Cs_K267 m, Cs_R267_0 m, Cs_K268 m, Cs_R262_3 m, Cs_K269 m, Cs_R269_0 m, Cs_K270 m, Int.toNat_natCast, Int.natCast_nonneg, true_and, and_true, and_self, if_true, if_false, or_true, true_or, or_false, false_or, ne_eq, not_true_eq_false, not_false_eq_true, Nat.reduceLeDiff, Nat.reduceEqDiff, Nat.reduceLT, Nat.reduceAdd, Nat.reduceMul, Nat.reduceSub, Int.reduceLT, Int.reduceLE, Int.reduceEq, Int.reduceToNat, Int.reduceAdd, Int.reduceSub, Int.reduceMul, Int.reduceNeg, Int.cast_ofNat_Int, false_and, and_false, s1]; exact k0
  rw [if_neg w2] at k0
  by_cases w3 : wh = 3
  · rw [if_pos w3] at k0; subst w3
    simp only [show tabT 1 123 0 8 [51, 59, 67, 75, 83, 91, 99, 107, 115] 3 = 76 from rfl, rX11_count_76, rX11_count_77, rX11_count_80, rX11_count_83, Cs_K200 m, hp, pk, pG, Int.toNat_natCast, Int.natCast_nonneg, true_and, and_true, and_self, if_true, if_false, or_true, true_or, or_false, false_or, ne_eq, not_true_eq_false, not_false_eq_true, Nat.reduceLeDiff, Nat.reduceEqDiff, Nat.reduceLT, Nat.reduceAdd, Nat.reduceMul, Nat.reduceSub, Int.reduceLT, Int.reduceLE, Int.reduceEq, Int.reduceToNat, Int.reduceAdd, Int.reduceSub, Int.reduceMul, Int.reduceNeg, Int.cast_ofNat_Int, false_and, and_false]; exact k0
  rw [if_neg w3] at k0
  by_cases w4 : wh = 4
  · rw [if_pos w4] at k0; subst w4
    simp only [show tabT 1 123 0 8 [51, 59, 67, 75, 83, 91, 99, 107, 115] 4 = 84 from rfl, rX11_count_84, rX11_count_85, rX11_count_88, Cs_K200 m, hp, pk, Int.toNat_natCast, Int.natCast_nonneg, true_and, and_true, and_self, if_true, if_false, or_true, true_or, or_false, false_or, ne_eq, not_true_eq_false, not_false_eq_true, Nat.reduceLeDiff, Nat.reduceEqDiff, Nat.reduceLT, Nat.reduceAdd, Nat.reduceMul, Nat.reduceSub, Int.reduceLT, Int.reduceLE, Int.reduceEq, Int.reduceToNat, Int.reduceAdd, Int.reduceSub, Int.reduceMul, Int.reduceNeg, Int.cast_ofNat_Int, false_and, and_false]
    refine S_allOdds (d := d + 1) w.1 pk pr5 k6 pG pod ?_
    simp only [psh_some, rX11_count_91]; exact k0
  rw [if_neg w4] at k0
  by_cases w5 : wh = 5
  · rw [if_pos w5] at k0; subst w5
    simp only [show tabT 1 123 0 8 [51, 59, 67, 75, 83, 91, 99, 107, 115] 5 = 92 from rfl, rX11_count_92, rX11_count_93, rX11_count_96, Cs_K200 m, hp, pk, Int.toNat_natCast, Int.natCast_nonneg, true_and, and_true, and_self, if_true, if_false, or_true, true_or, or_false, false_or, ne_eq, not_true_eq_false, not_false_eq_true, Nat.reduceLeDiff, Nat.reduceEqDiff, Nat.reduceLT, Nat.reduceAdd, Nat.reduceMul, Nat.reduceSub, Int.reduceLT, Int.reduceLE, Int.reduceEq, Int.reduceToNat, Int.reduceAdd, Int.reduceSub, Int.reduceMul, Int.reduceNeg, Int.cast_ofNat_Int, false_and, and_false]
    refine S_greatest w.1 pk pr0 k1 pT (fun t ht => (prw t ht).1) ?_
    simp only [psh_some, rX11_count_99]; exact k0
  rw [if_neg w5] at k0
  by_cases w6 : wh = 6
  · rw [if_pos w6] at k0; subst w6
    simp only [show tabT 1 123 0 8 [51, 59, 67, 75, 83, 91, 99, 107, 115] 6 = 100 from rfl, rX11_count_100, rX11_count_101, rX11_count_104, rX11_count_107, Cs_K200 m, Cs_R200_0 m, Cs_R200_1 m, Cs_R200_2 m, Cs_R200_3 m, Cs_R200_4 m, Cs_R200_5 m, Cs_R200_6 m, Cs_K201 m, Cs_R201_0 m, Cs_R201_1 m, Cs_K202 m, Cs_K203 m, Cs_K211 m, Cs_R211_0 m, Cs_R211_1 m, Cs_K212 m, Cs_K213 m, Cs_K214 m, Cs_R214_0 m, Cs_R214_1 m, Cs_K215 m, Cs_K216 m, Cs_K217 m, Cs_R217_0 m, Cs_R217_1 m, Cs_K218 m, Cs_K219 m, Cs_K220 m, Cs_R220_0 m, Cs_K221 m, Cs_K262 m, Cs_K271 m, Cs_R271_0 m, Cs_R271_1 m, Cs_K272 m, Cs_K276 m, Cs_R272_0 m, Cs_R276_0 m, Cs_K273 m, Cs_R273_0 m, Cs_R273_1 m, Cs_K274 m, Cs_K275 m, Cs_K277 m, Cs_R277_0 m, Cs_R277_1 m, Cs_K278 m, Cs_K279 m, Cs_R262_0 m, Cs_K263 m, Cs_R263_0 m, Cs_K264 m, Cs_R262_1 m, Cs_K265 m, Cs_R265_0 m, Cs_K266 m, Cs_R262_2 m, Cs_K267 m, Cs_R267_0 m, Cs_K268 m, Cs_R262_3 m, Cs_K269 m, Cs_R269_0 m, Cs_K270 m, Int.toNat_natCast, Int.natCast_nonneg, true_and, and_true, and_self, if_true, if_false, or_true, true_or, or_false, false_or, ne_eq, not_true_eq_false, not_false_eq_true, Nat.reduceLeDiff, Nat.reduceEqDiff, Nat.reduceLT, Nat.reduceAdd, Nat.reduceMul, Nat.reduceSub, Int.reduceLT, Int.reduceLE, Int.reduceEq, Int.reduceToNat, Int.reduceAdd, Int.reduceSub, Int.reduceMul, Int.reduceNeg, Int.cast_ofNat_Int, false_and, and_false, t3]; exact k0
  rw [if_neg w6] at k0
  by_cases w7 : wh = 7
  · rw [if_pos w7] at k0; subst w7
    simp only [show tabT 1 123 0 8 [51, 59, 67, 75, 83, 91, 99, 107, 115] 7 = 108 from rfl, rX11_count_108, rX11_count_109, rX11_count_112, rX11_count_115, Cs_K200 m, Cs_R200_0 m, Cs_R200_1 m, Cs_R200_2 m, Cs_R200_3 m, Cs_R200_4 m, Cs_R200_5 m, Cs_R200_6 m, Cs_K201 m, Cs_R201_0 m, Cs_R201_1 m, Cs_K202 m, Cs_K203 m, Cs_K211 m, Cs_R211_0 m, Cs_R211_1 m, Cs_K212 m, Cs_K213 m, Cs_K214 m, Cs_R214_0 m, Cs_R214_1 m, Cs_K215 m, Cs_K216 m, Cs_K217 m, Cs_R217_0 m, Cs_R217_1 m, Cs_K218 m, Cs_K219 m, Cs_K220 m, Cs_R220_0 m, Cs_K221 m, Cs_K262 m, Cs_K271 m, Cs_R271_0 m, Cs_R271_1 m, Cs_K272 m, Cs_K276 m, Cs_R272_0 m, Cs_R276_0 m, Cs_K273 m, Cs_R273_0 m, Cs_R273_1 m, Cs_K274 m, Cs_K275 m, Cs_K277 m, Cs_R277_0 m, Cs_R277_1 m, Cs_K278 m, Cs_K279 m, Cs_R262_0 m, Cs_K263 m, Cs_R263_0 m, Cs_K264 m, Cs_R262_1 m, Cs_K265 m, Cs_R265_0 m, Cs_K266 m, Cs_R262_2 m, Cs_K267 m, Cs_R267_0 m, Cs_K268 m, Cs_R262_3 m, Cs_K269 m, Cs_R269_0 m, Cs_K270 m, Int.toNat_natCast, Int.natCast_nonneg, true_and, and_true, and_self, if_true, if_false, or_true, true_or, or_false, false_or, ne_eq, not_true_eq_false, not_false_eq_true, Nat.reduceLeDiff, Nat.reduceEqDiff, Nat.reduceLT, Nat.reduceAdd, Nat.reduceMul, Nat.reduceSub, Int.reduceLT, Int.reduceLE, Int.reduceEq, Int.reduceToNat, Int.reduceAdd, Int.reduceSub, Int.reduceMul, Int.reduceNeg, Int.cast_ofNat_Int, false_and, and_false, rd.1]; exact k0
  rw [if_neg w7] at k0
  by_cases w8 : wh = 8
  · rw [if_pos w8] at k0; subst w8
    simp only [show tabT 1 123 0 8 [51, 59, 67, 75, 83, 91, 99, 107, 115] 8 = 116 from rfl, rX11_count_116, rX11_count_117, rX11_count_120, rX11_count_123, Cs_K200 m, hp, pk, pL, Int.toNat_natCast, Int.natCast_nonneg, true_and, and_true, and_self, if_true, if_false, or_true, true_or, or_false, false_or, ne_eq, not_true_eq_false, not_false_eq_true, Nat.reduceLeDiff, Nat.reduceEqDiff, Nat.reduceLT, Nat.reduceAdd, Nat.reduceMul, Nat.reduceSub, Int.reduceLT, Int.reduceLE, Int.reduceEq, Int.reduceToNat, Int.reduceAdd, Int.reduceSub, Int.reduceMul, Int.reduceNeg, Int.cast_ofNat_Int, false_and, and_false]; exact k0
  rw [if_neg w8] at k0
  rw [tabT_out (by omega), show tgt 1 123 = 124 from rfl]
  simp only [rX11_count_124, rX11_count_125]; exact k0
theorem R_count {d : Nat} {σ : AS} {wh : Int} : RSpec (d + 2) mX12_count [some (.inr (.inr 294)), some (.inl wh)] σ (.inl (cnV σ wh)) σ := by
  refine RSpec5.of (RSpec5.u ?_) (fun h Q hk => by simp only [rX12_count_0, rX12_count_1, rX12_count_2, hk, Int.toNat_natCast, Int.natCast_nonneg, true_and, and_true, and_self, if_true, if_false, or_true, true_or, or_false, false_or, ne_eq, not_true_eq_false, not_false_eq_true, Nat.reduceLeDiff, Nat.reduceEqDiff, Nat.reduceLT, Nat.reduceAdd, Nat.reduceMul, Nat.reduceSub, Int.reduceLT, Int.reduceLE, Int.reduceEq, Int.reduceToNat, Int.reduceAdd, Int.reduceSub, Int.reduceMul, Int.reduceNeg, Int.cast_ofNat_Int, false_and, and_false])
  intro h Q x w k
  have k0 := k h (Fp.refl _ h)
  have m := x.1
  have a := x.2.1
  have rp := x.rp w
  unfold cnV at k0
  rw [rX12_count_5, rX12_count_6]
  by_cases w0 : wh = 0
  · rw [if_pos w0] at k0; subst w0
    simp only [show tabT 6 110 0 8 [50, 58, 65, 73, 80, 85, 90, 98, 103] 0 = 56 from rfl, rX12_count_56, rX12_count_57, rX12_count_60, rX12_count_62, rX12_count_63, Md_K280 m, Md_R281 m, Md_K281 m, Md_R282 m, Md_K282 m, Md_R283 m, Md_K283 m, Md_R284 m, Md_K284 m, Md_R285 m, Md_K285 m, Md_R286 m, Md_K286 m, Md_R287 m, Md_K287 m, Md_R288 m, Md_K288 m, Md_R289 m, Md_K289 m, Md_R290 m, Md_K290 m, Md_R291 m, Md_K291 m, Md_R292 m, Md_K292 m, Md_R293 m, Md_K293 m, Md_R294 m, Md_K294 m, Md_R295 m, Md_K295 m, Md_R296 m, Md_K296 m, Md_R297 m, Md_K297 m, Md_R298 m, Md_K298 m, Md_R299 m, Md_K299 m, Int.toNat_natCast, Int.natCast_nonneg, true_and, and_true, and_self, if_true, if_false, or_true, true_or, or_false, false_or, ne_eq, not_true_eq_false, not_false_eq_true, Nat.reduceLeDiff, Nat.reduceEqDiff, Nat.reduceLT, Nat.reduceAdd, Nat.reduceMul, Nat.reduceSub, Int.reduceLT, Int.reduceLE, Int.reduceEq, Int.reduceToNat, Int.reduceAdd, Int.reduceSub, Int.reduceMul, Int.reduceNeg, Int.cast_ofNat_Int, false_and, and_false, a 33 (by omega)]; exact k0
  rw [if_neg w0] at k0
  by_cases w1 : wh = 1
  · rw [if_pos w1] at k0; subst w1
    simp only [show tabT 6 110 0 8 [50, 58, 65, 73, 80, 85, 90, 98, 103] 1 = 64 from rfl, rX12_count_64, rX12_count_65, rX12_count_68, rX12_count_69, rX12_count_70, Md_K280 m, Md_R281 m, Md_K281 m, Md_R282 m, Md_K282 m, Md_R283 m, Md_K283 m, Md_R284 m, Md_K284 m, Md_R285 m, Md_K285 m, Md_R286 m, Md_K286 m, Md_R287 m, Md_K287 m, Md_R288 m, Md_K288 m, Md_R289 m, Md_K289 m, Md_R290 m, Md_K290 m, Md_R291 m, Md_K291 m, Md_R292 m, Md_K292 m, Md_R293 m, Md_K293 m, Md_R294 m, Md_K294 m, Md_R295 m, Md_K295 m, Md_R296 m, Md_K296 m, Md_R297 m, Md_K297 m, Md_R298 m, Md_K298 m, Md_R299 m, Md_K299 m, Int.toNat_natCast, Int.natCast_nonneg, true_and, and_true, and_self, if_true, if_false, or_true, true_or, or_false, false_or, ne_eq, not_true_eq_false, not_false_eq_true, Nat.reduceLeDiff, Nat.reduceEqDiff, Nat.reduceLT, Nat.reduceAdd, Nat.reduceMul, Nat.reduceSub, Int.reduceLT, Int.reduceLE, Int.reduceEq, Int.reduceToNat, Int.reduceAdd, Int.reduceSub, Int.reduceMul, Int.reduceNeg, Int.cast_ofNat_Int, false_and, and_false, a 1 (by omega)]; exact k0
  rw [if_neg w1] at k0
  by_cases w2 : wh = 2
  · rw [if_pos w2] at k0; subst w2
    simp only [show tabT 6 110 0 8 [50, 58, 65, 73, 80, 85, 90, 98, 103] 2 = 71 from rfl, rX12_count_71, rX12_count_72, rX12_count_75, rX12_count_77, rX12_count_78, Md_K280 m, Md_R281 m, Md_K281 m, Md_R282 m, Md_K282 m, Md_R283 m, Md_K283 m, Md_R284 m, Md_K284 m, Md_R285 m, Md_K285 m, Md_R286 m, Md_K286 m, Md_R287 m, Md_K287 m, Md_R288 m, Md_K288 m, Md_R289 m, Md_K289 m, Md_R290 m, Md_K290 m, Md_R291 m, Md_K291 m, Md_R292 m, Md_K292 m, Md_R293 m, Md_K293 m, Md_R294 m, Md_K294 m, Md_R295 m, Md_K295 m, Md_R296 m, Md_K296 m, Md_R297 m, Md_K297 m, Md_R298 m, Md_K298 m, Md_R299 m, Md_K299 m, Int.toNat_natCast, Int.natCast_nonneg, true_and, and_true, and_self, if_true, if_false, or_true, true_or, or_false, false_or, ne_eq, not_true_eq_false, not_false_eq_true, Nat.reduceLeDiff, Nat.reduceEqDiff, Nat.reduceLT, Nat.reduceAdd, Nat.reduceMul, Nat.reduceSub, Int.reduceLT, Int.reduceLE, Int.reduceEq, Int.reduceToNat, Int.reduceAdd, Int.reduceSub, Int.reduceMul, Int.reduceNeg, Int.cast_ofNat_Int, false_and, and_false, a 34 (by omega)]; exact k0
  rw [if_neg w2] at k0
  by_cases w3 : wh = 3
  · rw [if_pos w3] at k0; subst w3
    simp only [show tabT 6 110 0 8 [50, 58, 65, 73, 80, 85, 90, 98, 103] 3 = 79 from rfl, rX12_count_79, rX12_count_80, rX12_count_83, rX12_count_84, rX12_count_85, Md_K280 m, Md_R281 m, Md_K281 m, Md_R282 m, Md_K282 m, Md_R283 m, Md_K283 m, Md_R284 m, Md_K284 m, Md_R285 m, Md_K285 m, Md_R286 m, Md_K286 m, Md_R287 m, Md_K287 m, Md_R288 m, Md_K288 m, Md_R289 m, Md_K289 m, Md_R290 m, Md_K290 m, Md_R291 m, Md_K291 m, Md_R292 m, Md_K292 m, Md_R293 m, Md_K293 m, Md_R294 m, Md_K294 m, Md_R295 m, Md_K295 m, Md_R296 m, Md_K296 m, Md_R297 m, Md_K297 m, Md_R298 m, Md_K298 m, Md_R299 m, Md_K299 m, Int.toNat_natCast, Int.natCast_nonneg, true_and, and_true, and_self, if_true, if_false, or_true, true_or, or_false, false_or, ne_eq, not_true_eq_false, not_false_eq_true, Nat.reduceLeDiff, Nat.reduceEqDiff, Nat.reduceLT, Nat.reduceAdd, Nat.reduceMul, Nat.reduceSub, Int.reduceLT, Int.reduceLE, Int.reduceEq, Int.reduceToNat, Int.reduceAdd, Int.reduceSub, Int.reduceMul, Int.reduceNeg, Int.cast_ofNat_Int, false_and, and_false, a 2 (by omega)]; exact k0
  rw [if_neg w3] at k0
  by_cases w4 : wh = 4
  · rw [if_pos w4] at k0; subst w4
    simp only [show tabT 6 110 0 8 [50, 58, 65, 73, 80, 85, 90, 98, 103] 4 = 86 from rfl, rX12_count_86, rX12_count_87, Md_K280 m, Md_R281 m, Md_K281 m, Md_R282 m, Md_K282 m, Md_R283 m, Md_K283 m, Md_R284 m, Md_K284 m, Md_R285 m, Md_K285 m, Md_R286 m, Md_K286 m, Md_R287 m, Md_K287 m, Md_R288 m, Md_K288 m, Md_R289 m, Md_K289 m, Md_R290 m, Md_K290 m, Md_R291 m, Md_K291 m, Md_R292 m, Md_K292 m, Md_R293 m, Md_K293 m, Md_R294 m, Md_K294 m, Md_R295 m, Md_K295 m, Md_R296 m, Md_K296 m, Md_R297 m, Md_K297 m, Md_R298 m, Md_K298 m, Md_R299 m, Md_K299 m, Int.toNat_natCast, Int.natCast_nonneg, true_and, and_true, and_self, if_true, if_false, or_true, true_or, or_false, false_or, ne_eq, not_true_eq_false, not_false_eq_true, Nat.reduceLeDiff, Nat.reduceEqDiff, Nat.reduceLT, Nat.reduceAdd, Nat.reduceMul, Nat.reduceSub, Int.reduceLT, Int.reduceLE, Int.reduceEq, Int.reduceToNat, Int.reduceAdd, Int.reduceSub, Int.reduceMul, Int.reduceNeg, Int.cast_ofNat_Int, false_and, and_false]
    refine S_rOdds rp ?_
    simp only [psh_some, rX12_count_90]; exact k0
  rw [if_neg w4] at k0
  by_cases w5 : wh = 5
  · rw [if_pos w5] at k0; subst w5
    simp only [show tabT 6 110 0 8 [50, 58, 65, 73, 80, 85, 90, 98, 103] 5 = 91 from rfl, rX12_count_91, rX12_count_92, Md_K280 m, Md_R281 m, Md_K281 m, Md_R282 m, Md_K282 m, Md_R283 m, Md_K283 m, Md_R284 m, Md_K284 m, Md_R285 m, Md_K285 m, Md_R286 m, Md_K286 m, Md_R287 m, Md_K287 m, Md_R288 m, Md_K288 m, Md_R289 m, Md_K289 m, Md_R290 m, Md_K290 m, Md_R291 m, Md_K291 m, Md_R292 m, Md_K292 m, Md_R293 m, Md_K293 m, Md_R294 m, Md_K294 m, Md_R295 m, Md_K295 m, Md_R296 m, Md_K296 m, Md_R297 m, Md_K297 m, Md_R298 m, Md_K298 m, Md_R299 m, Md_K299 m, Int.toNat_natCast, Int.natCast_nonneg, true_and, and_true, and_self, if_true, if_false, or_true, true_or, or_false, false_or, ne_eq, not_true_eq_false, not_false_eq_true, Nat.reduceLeDiff, Nat.reduceEqDiff, Nat.reduceLT, Nat.reduceAdd, Nat.reduceMul, Nat.reduceSub, Int.reduceLT, Int.reduceLE, Int.reduceEq, Int.reduceToNat, Int.reduceAdd, Int.reduceSub, Int.reduceMul, Int.reduceNeg, Int.cast_ofNat_Int, false_and, and_false]
    refine S_rDeepest rp ?_
    simp only [psh_some, rX12_count_95]; exact k0
  rw [if_neg w5] at k0
  by_cases w6 : wh = 6
  · rw [if_pos w6] at k0; subst w6
    simp only [show tabT 6 110 0 8 [50, 58, 65, 73, 80, 85, 90, 98, 103] 6 = 96 from rfl, rX12_count_96, rX12_count_97, rX12_count_100, rX12_count_102, rX12_count_103, Md_K280 m, Md_R281 m, Md_K281 m, Md_R282 m, Md_K282 m, Md_R283 m, Md_K283 m, Md_R284 m, Md_K284 m, Md_R285 m, Md_K285 m, Md_R286 m, Md_K286 m, Md_R287 m, Md_K287 m, Md_R288 m, Md_K288 m, Md_R289 m, Md_K289 m, Md_R290 m, Md_K290 m, Md_R291 m, Md_K291 m, Md_R292 m, Md_K292 m, Md_R293 m, Md_K293 m, Md_R294 m, Md_K294 m, Md_R295 m, Md_K295 m, Md_R296 m, Md_K296 m, Md_R297 m, Md_K297 m, Md_R298 m, Md_K298 m, Md_R299 m, Md_K299 m, Int.toNat_natCast, Int.natCast_nonneg, true_and, and_true, and_self, if_true, if_false, or_true, true_or, or_false, false_or, ne_eq, not_true_eq_false, not_false_eq_true, Nat.reduceLeDiff, Nat.reduceEqDiff, Nat.reduceLT, Nat.reduceAdd, Nat.reduceMul, Nat.reduceSub, Int.reduceLT, Int.reduceLE, Int.reduceEq, Int.reduceToNat, Int.reduceAdd, Int.reduceSub, Int.reduceMul, Int.reduceNeg, Int.cast_ofNat_Int, false_and, and_false, a 47 (by omega)]; exact k0
  rw [if_neg w6] at k0
  by_cases w7 : wh = 7
  · rw [if_pos w7] at k0; subst w7
    simp only [show tabT 6 110 0 8 [50, 58, 65, 73, 80, 85, 90, 98, 103] 7 = 104 from rfl, rX12_count_104, rX12_count_105, rX12_count_108, Md_K280 m, Md_R281 m, Md_K281 m, Md_R282 m, Md_K282 m, Md_R283 m, Md_K283 m, Md_R284 m, Md_K284 m, Md_R285 m, Md_K285 m, Md_R286 m, Md_K286 m, Md_R287 m, Md_K287 m, Md_R288 m, Md_K288 m, Md_R289 m, Md_K289 m, Md_R290 m, Md_K290 m, Md_R291 m, Md_K291 m, Md_R292 m, Md_K292 m, Md_R293 m, Md_K293 m, Md_R294 m, Md_K294 m, Md_R295 m, Md_K295 m, Md_R296 m, Md_K296 m, Md_R297 m, Md_K297 m, Md_R298 m, Md_K298 m, Md_R299 m, Md_K299 m, Int.toNat_natCast, Int.natCast_nonneg, true_and, and_true, and_self, if_true, if_false, or_true, true_or, or_false, false_or, ne_eq, not_true_eq_false, not_false_eq_true, Nat.reduceLeDiff, Nat.reduceEqDiff, Nat.reduceLT, Nat.reduceAdd, Nat.reduceMul, Nat.reduceSub, Int.reduceLT, Int.reduceLE, Int.reduceEq, Int.reduceToNat, Int.reduceAdd, Int.reduceSub, Int.reduceMul, Int.reduceNeg, Int.cast_ofNat_Int, false_and, and_false, x.2.2.2.1]; exact k0
  rw [if_neg w7] at k0
  by_cases w8 : wh = 8
  · rw [if_pos w8] at k0; subst w8
    simp only [show tabT 6 110 0 8 [50, 58, 65, 73, 80, 85, 90, 98, 103] 8 = 109 from rfl, rX12_count_109, rX12_count_110, rX12_count_113, rX12_count_114, rX12_count_115, Md_K280 m, Md_R281 m, Md_K281 m, Md_R282 m, Md_K282 m, Md_R283 m, Md_K283 m, Md_R284 m, Md_K284 m, Md_R285 m, Md_K285 m, Md_R286 m, Md_K286 m, Md_R287 m, Md_K287 m, Md_R288 m, Md_K288 m, Md_R289 m, Md_K289 m, Md_R290 m, Md_K290 m, Md_R291 m, Md_K291 m, Md_R292 m, Md_K292 m, Md_R293 m, Md_K293 m, Md_R294 m, Md_K294 m, Md_R295 m, Md_K295 m, Md_R296 m, Md_K296 m, Md_R297 m, Md_K297 m, Md_R298 m, Md_K298 m, Md_R299 m, Md_K299 m, Int.toNat_natCast, Int.natCast_nonneg, true_and, and_true, and_self, if_true, if_false, or_true, true_or, or_false, false_or, ne_eq, not_true_eq_false, not_false_eq_true, Nat.reduceLeDiff, Nat.reduceEqDiff, Nat.reduceLT, Nat.reduceAdd, Nat.reduceMul, Nat.reduceSub, Int.reduceLT, Int.reduceLE, Int.reduceEq, Int.reduceToNat, Int.reduceAdd, Int.reduceSub, Int.reduceMul, Int.reduceNeg, Int.cast_ofNat_Int, false_and, and_false, a 0 (by omega)]; exact k0
  rw [if_neg w8] at k0
  rw [tabT_out (by omega), show tgt 6 110 = 116 from rfl]
  simp only [rX12_count_116, rX12_count_117]; exact k0
def trV (A : Nat → Int) : Nat → Nat
  | 0 => 0
  | n + 1 => if aP A n = aR A n then trV A n ||| 2 ^ n else trV A n
theorem trV_lt (A : Nat → Int) : ∀ n, n ≤ 6 → trV A n < 64 := by
  intro n
  induction n with
  | zero => intro _; exact (by decide : 0 < 64)
  | succ n ih =>
    intro hn
    have := ih (by omega)
    unfold trV; split
    · exact Nat.or_lt_two_pow (n := 6) this (Nat.pow_lt_pow_right (a := 2) (by decide) (by omega))
    · exact this
theorem orb_n {a i : Nat} (ha : a < 2147483648) (hi : i < 31) : ior (a : Int) (ishl 1 (i : Int)) = ((a ||| 2 ^ i : Nat) : Int) := by
  rw [shl1 hi, ior_n ha (Nat.pow_lt_pow_right (a := 2) (by decide) hi)]
theorem C_truthful {d : Nat} {σ : AS} : CSpec (d + 4) mX11_truthful [some (.inr (.inr 200)), none, none] σ (.inl (trV (sA σ) (sA σ 2).toNat : Int)) σ := by
  intro h Q x w k
  have g0 := w.1.2.2.1
  have g6 := w.1.2.2.2.1
  simp only [rX11_truthful_0, rX11_truthful_1, rX11_truthful_2, rX11_truthful_3]
  have main : ∀ n i h', i + n = (sA σ 2).toNat → CRep h' σ → Fp vP h h' → WP (d + 4) mX11_truthful 4 [some (.inr (.inr 200)), some (.inl (trV (sA σ) i : Int)), some (.inl (i : Int))] [] h' Q := by
    intro n
    induction n with
    | zero =>
      intro i h' hi x' f
      have m := x'.1.1
      have e : (i : Int) = sA σ 2 := by omega
      have e9 : i = (sA σ 2).toNat := by omega
      obtain ⟨p, hp, p1, p2, p3, pk, pr0, pr1, pr2, pr5, k1, k2, k3, k6, pT, pG, pL, prw, pod⟩ := (x'.cp w).get
      rw [rX11_truthful_4]
      simp only [rX11_truthful_5, rX11_truthful_6, rX11_truthful_9, rX11_truthful_12, rX11_truthful_74, rX11_truthful_75, Cs_K200 m, hp, pk, pG, e, Int.lt_irrefl, Int.toNat_natCast, Int.natCast_nonneg, true_and, and_true, and_self, if_true, if_false, or_true, true_or, or_false, false_or, ne_eq, not_true_eq_false, not_false_eq_true, Nat.reduceLeDiff, Nat.reduceEqDiff, Nat.reduceLT, Nat.reduceAdd, Nat.reduceMul, Nat.reduceSub, Int.reduceLT, Int.reduceLE, Int.reduceEq, Int.reduceToNat, Int.reduceAdd, Int.reduceSub, Int.reduceMul, Int.reduceNeg, Int.cast_ofNat_Int, false_and, and_false]
      rw [e9]; exact k h' x' (Cfr_v f)
    | succ n ih =>
      intro i h' hi x' f
      have m := x'.1.1
      have l1 : (i : Int) < sA σ 2 := by omega
      have l2 : w32 ((i : Int) + 1) = ((i + 1 : Nat) : Int) := w32_s (by omega)
      have tl := trV_lt (sA σ) i (by omega)
      have i6 : i < 6 := by omega
      have hi' : i + 1 + n = (sA σ 2).toNat := by omega
      have ob := orb_n (a := trV (sA σ) i) (i := i) (by omega) (by omega)
      obtain ⟨p, hp, p1, p2, p3, pk, pr0, pr1, pr2, pr5, k1, k2, k3, k6, pT, pG, pL, prw, pod⟩ := (x'.cp w).get
      rw [rX11_truthful_4]
      simp only [rX11_truthful_5, rX11_truthful_6, rX11_truthful_9, rX11_truthful_12, Cs_K200 m, hp, pk, pG, l1, Int.toNat_natCast, Int.natCast_nonneg, true_and, and_true, and_self, if_true, if_false, or_true, true_or, or_false, false_or, ne_eq, not_true_eq_false, not_false_eq_true, Nat.reduceLeDiff, Nat.reduceEqDiff, Nat.reduceLT, Nat.reduceAdd, Nat.reduceMul, Nat.reduceSub, Int.reduceLT, Int.reduceLE, Int.reduceEq, Int.reduceToNat, Int.reduceAdd, Int.reduceSub, Int.reduceMul, Int.reduceNeg, Int.cast_ofNat_Int, false_and, and_false]
      simp only [rX11_truthful_15, rX11_truthful_16, rX11_truthful_19, rX11_truthful_20, rX11_truthful_23, rX11_truthful_24, rX11_truthful_27, rX11_truthful_28, rX11_truthful_29, rX11_truthful_32, rX11_truthful_35, rX11_truthful_36, rX11_truthful_39, rX11_truthful_42, Cs_K200 m, Cs_R200_0 m, Cs_R200_1 m, Cs_R200_2 m, Cs_R200_3 m, Cs_R200_4 m, Cs_R200_5 m, Cs_R200_6 m, Cs_K201 m, Cs_R201_0 m, Cs_R201_1 m, Cs_K202 m, Cs_K203 m, Cs_K211 m, Cs_R211_0 m, Cs_R211_1 m, Cs_K212 m, Cs_K213 m, Cs_K214 m, Cs_R214_0 m, Cs_R214_1 m, Cs_K215 m, Cs_K216 m, Cs_K217 m, Cs_R217_0 m, Cs_R217_1 m, Cs_K218 m, Cs_K219 m, Cs_K220 m, Cs_R220_0 m, Cs_K221 m, Cs_K262 m, Cs_K271 m, Cs_R271_0 m, Cs_R271_1 m, Cs_K272 m, Cs_K276 m, Cs_R272_0 m, Cs_R276_0 m, Cs_K273 m, Cs_R273_0 m, Cs_R273_1 m, Cs_K274 m, Cs_K275 m, Cs_K277 m, Cs_R277_0 m, Cs_R277_1 m, Cs_K278 m, Cs_K279 m, Cs_R262_0 m, Cs_K263 m, Cs_R263_0 m, Cs_K264 m, Cs_R262_1 m, Cs_K265 m, Cs_R265_0 m, Cs_K266 m, Cs_R262_2 m, Cs_K267 m, Cs_R267_0 m, Cs_K268 m, Cs_R262_3 m, Cs_K269 m, Cs_R269_0 m, Cs_K270 m, Int.toNat_natCast, Int.natCast_nonneg, true_and, and_true, and_self, if_true, if_false, or_true, true_or, or_false, false_or, ne_eq, not_true_eq_false, not_false_eq_true, Nat.reduceLeDiff, Nat.reduceEqDiff, Nat.reduceLT, Nat.reduceAdd, Nat.reduceMul, Nat.reduceSub, Int.reduceLT, Int.reduceLE, Int.reduceEq, Int.reduceToNat, Int.reduceAdd, Int.reduceSub, Int.reduceMul, Int.reduceNeg, Int.cast_ofNat_Int, false_and, and_false]
      refine S_lookNow x' w i6 ?_
      intro h2 x2 f2 a1 a2 a3
      have m2 := x2.1.1
      have go := ih (i + 1) h2 hi' x2 (f.trans f2)
      unfold trV at go
      simp only [psh_none, rX11_truthful_45, rX11_truthful_46, rX11_truthful_49, rX11_truthful_52, rX11_truthful_53, rX11_truthful_56, rX11_truthful_59, Cs_K200 m2, Cs_R200_0 m2, Cs_R200_1 m2, Cs_R200_2 m2, Cs_R200_3 m2, Cs_R200_4 m2, Cs_R200_5 m2, Cs_R200_6 m2, Cs_K201 m2, Cs_R201_0 m2, Cs_R201_1 m2, Cs_K202 m2, Cs_K203 m2, Cs_K211 m2, Cs_R211_0 m2, Cs_R211_1 m2, Cs_K212 m2, Cs_K213 m2, Cs_K214 m2, Cs_R214_0 m2, Cs_R214_1 m2, Cs_K215 m2, Cs_K216 m2, Cs_K217 m2, Cs_R217_0 m2, Cs_R217_1 m2, Cs_K218 m2, Cs_K219 m2, Cs_K220 m2, Cs_R220_0 m2, Cs_K221 m2, Cs_K262 m2, Cs_K271 m2, Cs_R271_0 m2, Cs_R271_1 m2, Cs_K272 m2, Cs_K276 m2, Cs_R272_0 m2, Cs_R276_0 m2, Cs_K273 m2, Cs_R273_0 m2, Cs_R273_1 m2, Cs_K274 m2, Cs_K275 m2, Cs_K277 m2, Cs_R277_0 m2, Cs_R277_1 m2, Cs_K278 m2, Cs_K279 m2, Cs_R262_0 m2, Cs_K263 m2, Cs_R263_0 m2, Cs_K264 m2, Cs_R262_1 m2, Cs_K265 m2, Cs_R265_0 m2, Cs_K266 m2, Cs_R262_2 m2, Cs_K267 m2, Cs_R267_0 m2, Cs_K268 m2, Cs_R262_3 m2, Cs_K269 m2, Cs_R269_0 m2, Cs_K270 m2, Int.toNat_natCast, Int.natCast_nonneg, true_and, and_true, and_self, if_true, if_false, or_true, true_or, or_false, false_or, ne_eq, not_true_eq_false, not_false_eq_true, Nat.reduceLeDiff, Nat.reduceEqDiff, Nat.reduceLT, Nat.reduceAdd, Nat.reduceMul, Nat.reduceSub, Int.reduceLT, Int.reduceLE, Int.reduceEq, Int.reduceToNat, Int.reduceAdd, Int.reduceSub, Int.reduceMul, Int.reduceNeg, Int.cast_ofNat_Int, false_and, and_false, a1, a3]
      by_cases he : aP (sA σ) i = aR (sA σ) i
      · rw [if_pos he] at go ⊢
        simp only [rX11_truthful_62, rX11_truthful_63, rX11_truthful_64, rX11_truthful_65, rX11_truthful_66, rX11_truthful_67, rX11_truthful_68, rX11_truthful_71, ob, l2]
        exact go
      · rw [if_neg he] at go ⊢
        simp only [rX11_truthful_68, rX11_truthful_71, l2]
        exact go
  exact main _ 0 h (Nat.zero_add _) x (Fp.refl _ h)
theorem R_truthful {d : Nat} {σ : AS} : RSpec (d + 4) mX12_truthful [some (.inr (.inr 294)), none, none] σ (.inl (trV (sA σ) (sA σ 2).toNat : Int)) σ := by
  refine RSpec5.of (RSpec5.u ?_) (fun h Q hk => by simp only [rX12_truthful_0, rX12_truthful_1, rX12_truthful_2, hk, Int.toNat_natCast, Int.natCast_nonneg, true_and, and_true, and_self, if_true, if_false, or_true, true_or, or_false, false_or, ne_eq, not_true_eq_false, not_false_eq_true, Nat.reduceLeDiff, Nat.reduceEqDiff, Nat.reduceLT, Nat.reduceAdd, Nat.reduceMul, Nat.reduceSub, Int.reduceLT, Int.reduceLE, Int.reduceEq, Int.reduceToNat, Int.reduceAdd, Int.reduceSub, Int.reduceMul, Int.reduceNeg, Int.cast_ofNat_Int, false_and, and_false])
  intro h Q x w k
  have g0 := w.1.2.2.1
  have g6 := w.1.2.2.2.1
  simp only [rX12_truthful_5, rX12_truthful_6, rX12_truthful_7, rX12_truthful_8]
  have main : ∀ n i h', i + n = (sA σ 2).toNat → Fp lP h h' → WP (d + 4) mX12_truthful 9 [some (.inr (.inr 294)), some (.inl (trV (sA σ) i : Int)), some (.inl (i : Int))] [] h' Q := by
    intro n
    induction n with
    | zero =>
      intro i h' hi f
      have fu := f.mono (fun _ _ => lP_u)
      have x' := x.u fu
      have m := x'.1
      have e : (i : Int) = sA σ 2 := by omega
      rw [rX12_truthful_9]
      simp only [rX12_truthful_10, rX12_truthful_11, rX12_truthful_14, rX12_truthful_15, rX12_truthful_16, rX12_truthful_51, rX12_truthful_52, Md_K280 m, Md_R281 m, Md_K281 m, Md_R282 m, Md_K282 m, Md_R283 m, Md_K283 m, Md_R284 m, Md_K284 m, Md_R285 m, Md_K285 m, Md_R286 m, Md_K286 m, Md_R287 m, Md_K287 m, Md_R288 m, Md_K288 m, Md_R289 m, Md_K289 m, Md_R290 m, Md_K290 m, Md_R291 m, Md_K291 m, Md_R292 m, Md_K292 m, Md_R293 m, Md_K293 m, Md_R294 m, Md_K294 m, Md_R295 m, Md_K295 m, Md_R296 m, Md_K296 m, Md_R297 m, Md_K297 m, Md_R298 m, Md_K298 m, Md_R299 m, Md_K299 m, x'.2.1 2 (by omega), e, Int.lt_irrefl, Int.toNat_natCast, Int.natCast_nonneg, true_and, and_true, and_self, if_true, if_false, or_true, true_or, or_false, false_or, ne_eq, not_true_eq_false, not_false_eq_true, Nat.reduceLeDiff, Nat.reduceEqDiff, Nat.reduceLT, Nat.reduceAdd, Nat.reduceMul, Nat.reduceSub, Int.reduceLT, Int.reduceLE, Int.reduceEq, Int.reduceToNat, Int.reduceAdd, Int.reduceSub, Int.reduceMul, Int.reduceNeg, Int.cast_ofNat_Int, false_and, and_false]
      have : i = (sA σ 2).toNat := by omega
      rw [this]; exact k h' fu
    | succ n ih =>
      intro i h' hi f
      have fu := f.mono (fun _ _ => lP_u)
      have x' := x.u fu
      have m := x'.1
      have l1 : (i : Int) < sA σ 2 := by omega
      have l2 : w32 ((i : Int) + 1) = ((i + 1 : Nat) : Int) := w32_s (by omega)
      have tl := trV_lt (sA σ) i (by omega)
      rw [rX12_truthful_9]
      simp only [rX12_truthful_10, rX12_truthful_11, rX12_truthful_14, rX12_truthful_15, rX12_truthful_16, rX12_truthful_19, rX12_truthful_20, rX12_truthful_21, Md_K280 m, Md_R281 m, Md_K281 m, Md_R282 m, Md_K282 m, Md_R283 m, Md_K283 m, Md_R284 m, Md_K284 m, Md_R285 m, Md_K285 m, Md_R286 m, Md_K286 m, Md_R287 m, Md_K287 m, Md_R288 m, Md_K288 m, Md_R289 m, Md_K289 m, Md_R290 m, Md_K290 m, Md_R291 m, Md_K291 m, Md_R292 m, Md_K292 m, Md_R293 m, Md_K293 m, Md_R294 m, Md_K294 m, Md_R295 m, Md_K295 m, Md_R296 m, Md_K296 m, Md_R297 m, Md_K297 m, Md_R298 m, Md_K298 m, Md_R299 m, Md_K299 m, x'.2.1 2 (by omega), l1, Int.toNat_natCast, Int.natCast_nonneg, true_and, and_true, and_self, if_true, if_false, or_true, true_or, or_false, false_or, ne_eq, not_true_eq_false, not_false_eq_true, Nat.reduceLeDiff, Nat.reduceEqDiff, Nat.reduceLT, Nat.reduceAdd, Nat.reduceMul, Nat.reduceSub, Int.reduceLT, Int.reduceLE, Int.reduceEq, Int.reduceToNat, Int.reduceAdd, Int.reduceSub, Int.reduceMul, Int.reduceNeg, Int.cast_ofNat_Int, false_and, and_false]
      refine S_laysNow (x'.rp w) w.2.1 (by omega) ?_
      intro h2 f2 a1 a2 a3
      have m2 := m.fr f2
      have go := ih (i + 1) h2 (by omega) (f.trans f2)
      unfold trV at go
      simp only [psh_none, rX12_truthful_24, rX12_truthful_25, rX12_truthful_26, rX12_truthful_29, rX12_truthful_30, rX12_truthful_33, Md_K280 m2, Md_R281 m2, Md_K281 m2, Md_R282 m2, Md_K282 m2, Md_R283 m2, Md_K283 m2, Md_R284 m2, Md_K284 m2, Md_R285 m2, Md_K285 m2, Md_R286 m2, Md_K286 m2, Md_R287 m2, Md_K287 m2, Md_R288 m2, Md_K288 m2, Md_R289 m2, Md_K289 m2, Md_R290 m2, Md_K290 m2, Md_R291 m2, Md_K291 m2, Md_R292 m2, Md_K292 m2, Md_R293 m2, Md_K293 m2, Md_R294 m2, Md_K294 m2, Md_R295 m2, Md_K295 m2, Md_R296 m2, Md_K296 m2, Md_R297 m2, Md_K297 m2, Md_R298 m2, Md_K298 m2, Md_R299 m2, Md_K299 m2, Int.toNat_natCast, Int.natCast_nonneg, true_and, and_true, and_self, if_true, if_false, or_true, true_or, or_false, false_or, ne_eq, not_true_eq_false, not_false_eq_true, Nat.reduceLeDiff, Nat.reduceEqDiff, Nat.reduceLT, Nat.reduceAdd, Nat.reduceMul, Nat.reduceSub, Int.reduceLT, Int.reduceLE, Int.reduceEq, Int.reduceToNat, Int.reduceAdd, Int.reduceSub, Int.reduceMul, Int.reduceNeg, Int.cast_ofNat_Int, false_and, and_false, a1, a3]
      by_cases he : aP (sA σ) i = aR (sA σ) i
      · rw [if_pos he] at go
        rw [if_pos he.symm]
        simp only [rX12_truthful_36, rX12_truthful_37, rX12_truthful_38, rX12_truthful_39, rX12_truthful_42, rX12_truthful_43, rX12_truthful_44, rX12_truthful_45, rX12_truthful_48, orb_n (a := trV (sA σ) i) (i := i) (by omega) (by omega), l2]
        exact go
      · rw [if_neg he] at go
        rw [if_neg (fun q => he q.symm)]
        have z : ior (trV (sA σ) i : Int) 0 = (trV (sA σ) i : Int) := by
          have := ior_n (a := trV (sA σ) i) (b := 0) (by omega) (by omega)
          rw [Nat.or_zero] at this
          exact this
        simp only [rX12_truthful_42, rX12_truthful_43, rX12_truthful_44, rX12_truthful_45, rX12_truthful_48, z, l2]
        exact go
  exact main _ 0 h (Nat.zero_add _) (Fp.refl _ h)
