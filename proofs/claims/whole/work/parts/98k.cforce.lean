/-! forces, best, power of the class -/
set_option maxHeartbeats 1000000 in
theorem S_gameOf {d : Nat} {Q : Option PV → Hp → Prop} {h : Hp} {σ : AS} (x : CRep h σ) (w : WF σ) {one other : Nat} (h1 : one < 2 ^ (sA σ 2).toNat) (h2 : other < 2 ^ (sA σ 2).toNat)
    (k : ∀ h' h0 ga se, GH h0 σ ga se (one ||| other) (Lst (sA σ) (stA (sA σ)) (one ||| other)) → Cf0 h h0 → GW h0 h' (sA σ) (fA σ) (one ||| other) (Lst (sA σ) (stA (sA σ)) (one ||| other)) ga se → hI h' ga 7 = (one : Int) → hI h' ga 8 = (other : Int) → CHs h' ga (fA σ) (one ||| other) (GA σ) (Lst (sA σ) (stA (sA σ)) (one ||| other)) (Lst (sA σ) (stA (sA σ)) (one ||| other)).length 0 → Q (some (.inr (.inr ga))) h') :
    WP (d + 6) mX11_gameOf 0 [some (.inr (.inr 200)), some (.inl (one : Int)), some (.inl (other : Int)), none] [] h Q := by
  have m := x.1.1
  have hset := or_set h1 h2
  have o1 := set64 w.1 h1
  have o2 := set64 w.1 h2
  have ob := ior_n (a := one) (b := other) (Nat.lt_trans o1 (by decide)) (Nat.lt_trans o2 (by decide))
  have fin : ∀ (h0 : Hp) (ga se : Nat) (y3 : Option PV), GH h0 σ ga se (one ||| other) (Lst (sA σ) (stA (sA σ)) (one ||| other)) → Cf0 h h0 → WP (d + 6) mX11_gameOf 31 [some (.inr (.inr 200)), some (.inl (one : Int)), some (.inl (other : Int)), y3] [] h0 Q := by
    intro h0 ga se y3 gh cf
    have m0 := gh.1.1.1
    have g10 := gh.2.2.1
    have gw := gh.gw
    obtain ⟨K0, _⟩ := gw.2.1.ks
    simp only [rX11_gameOf_31, rX11_gameOf_32, rX11_gameOf_35, rX11_gameOf_36, rX11_gameOf_37, Cs_K200 m0, g10, K0, Int.toNat_natCast, Int.natCast_nonneg, true_and, and_true, and_self, if_true, if_false, or_true, true_or, or_false, false_or, ne_eq, not_true_eq_false, not_false_eq_true, Nat.reduceLeDiff, Nat.reduceEqDiff, Nat.reduceLT, Nat.reduceAdd, Nat.reduceMul, Nat.reduceSub, Int.reduceLT, Int.reduceLE, Int.reduceEq, Int.reduceToNat, Int.reduceAdd, Int.reduceSub, Int.reduceMul, Int.reduceNeg, Int.cast_ofNat_Int, false_and, and_false]
    refine S_gBegin (d := d + 2) gw (GA_e w) o1 o2 ?_
    intro h' gw' e7 e8 ch
    have r10 : hR h' 200 10 = ga := gw'.2.2.2.1
    have K2 : hK h' 200 = (11, 0) := by rw [gw'.1.K]; exact Cs_K200 m0
    simp only [psh_none, rX11_gameOf_40, rX11_gameOf_41, rX11_gameOf_44, K2, r10, Int.toNat_natCast, Int.natCast_nonneg, true_and, and_true, and_self, if_true, if_false, or_true, true_or, or_false, false_or, ne_eq, not_true_eq_false, not_false_eq_true, Nat.reduceLeDiff, Nat.reduceEqDiff, Nat.reduceLT, Nat.reduceAdd, Nat.reduceMul, Nat.reduceSub, Int.reduceLT, Int.reduceLE, Int.reduceEq, Int.reduceToNat, Int.reduceAdd, Int.reduceSub, Int.reduceMul, Int.reduceNeg, Int.cast_ofNat_Int, false_and, and_false]
    exact k h' h0 ga se gh cf gw' e7 e8 ch
  simp only [rX11_gameOf_0, rX11_gameOf_1, Cs_K200 m, Cs_R200_0 m, Cs_R200_1 m, Cs_R200_2 m, Cs_R200_3 m, Cs_R200_4 m, Cs_R200_5 m, Cs_R200_6 m, Cs_K201 m, Cs_R201_0 m, Cs_R201_1 m, Cs_K202 m, Cs_K203 m, Cs_K211 m, Cs_R211_0 m, Cs_R211_1 m, Cs_K212 m, Cs_K213 m, Cs_K214 m, Cs_R214_0 m, Cs_R214_1 m, Cs_K215 m, Cs_K216 m, Cs_K217 m, Cs_R217_0 m, Cs_R217_1 m, Cs_K218 m, Cs_K219 m, Cs_K220 m, Cs_R220_0 m, Cs_K221 m, Cs_K262 m, Cs_K271 m, Cs_R271_0 m, Cs_R271_1 m, Cs_K272 m, Cs_K276 m, Cs_R272_0 m, Cs_R276_0 m, Cs_K273 m, Cs_R273_0 m, Cs_R273_1 m, Cs_K274 m, Cs_K275 m, Cs_K277 m, Cs_R277_0 m, Cs_R277_1 m, Cs_K278 m, Cs_K279 m, Cs_R262_0 m, Cs_K263 m, Cs_R263_0 m, Cs_K264 m, Cs_R262_1 m, Cs_K265 m, Cs_R265_0 m, Cs_K266 m, Cs_R262_2 m, Cs_K267 m, Cs_R267_0 m, Cs_K268 m, Cs_R262_3 m, Cs_K269 m, Cs_R269_0 m, Cs_K270 m, Int.toNat_natCast, Int.natCast_nonneg, true_and, and_true, and_self, if_true, if_false, or_true, true_or, or_false, false_or, ne_eq, not_true_eq_false, not_false_eq_true, Nat.reduceLeDiff, Nat.reduceEqDiff, Nat.reduceLT, Nat.reduceAdd, Nat.reduceMul, Nat.reduceSub, Int.reduceLT, Int.reduceLE, Int.reduceEq, Int.reduceToNat, Int.reduceAdd, Int.reduceSub, Int.reduceMul, Int.reduceNeg, Int.cast_ofNat_Int, false_and, and_false]
  refine S_ready (d := d + 2) x w ?_
  intro h1' se x1 c1 pn ps sx
  have m1 := x1.1.1
  simp only [psh_some, rX11_gameOf_4, rX11_gameOf_5, rX11_gameOf_6, rX11_gameOf_7, rX11_gameOf_8, rX11_gameOf_9, ob, sx.2.2.1.1, Int.toNat_natCast, Int.natCast_nonneg, true_and, and_true, and_self, if_true, if_false, or_true, true_or, or_false, false_or, ne_eq, not_true_eq_false, not_false_eq_true, Nat.reduceLeDiff, Nat.reduceEqDiff, Nat.reduceLT, Nat.reduceAdd, Nat.reduceMul, Nat.reduceSub, Int.reduceLT, Int.reduceLE, Int.reduceEq, Int.reduceToNat, Int.reduceAdd, Int.reduceSub, Int.reduceMul, Int.reduceNeg, Int.cast_ofNat_Int, false_and, and_false]
  refine S_explore sx hset ?_
  intro h2' f2 sx2 srx
  obtain ⟨x2, c2⟩ := x1.ex sx f2 sx2
  have m2 := x2.1.1
  have c12 : Cf0 h h2' := Cf0.trans ⟨c1, pn, ps⟩ c2
  have pr := PR.of x2 w sx2 srx
  have h8 : hR h2' 200 8 = se := sx2.2.1.1
  have se3 := sx2.2.1.2.1
  have h80 : hR h2' 200 8 ≠ 0 := by rw [h8]; omega
  have b9 : hR h2' 200 10 = 0 ∨ 200 ≤ hR h2' 200 10 := by have := x2.2.1.2.2; omega
  simp only [psh_none, rX11_gameOf_12, rX11_gameOf_13, rX11_gameOf_16, Cs_K200 m2, Cs_R200_0 m2, Cs_R200_1 m2, Cs_R200_2 m2, Cs_R200_3 m2, Cs_R200_4 m2, Cs_R200_5 m2, Cs_R200_6 m2, Cs_K201 m2, Cs_R201_0 m2, Cs_R201_1 m2, Cs_K202 m2, Cs_K203 m2, Cs_K211 m2, Cs_R211_0 m2, Cs_R211_1 m2, Cs_K212 m2, Cs_K213 m2, Cs_K214 m2, Cs_R214_0 m2, Cs_R214_1 m2, Cs_K215 m2, Cs_K216 m2, Cs_K217 m2, Cs_R217_0 m2, Cs_R217_1 m2, Cs_K218 m2, Cs_K219 m2, Cs_K220 m2, Cs_R220_0 m2, Cs_K221 m2, Cs_K262 m2, Cs_K271 m2, Cs_R271_0 m2, Cs_R271_1 m2, Cs_K272 m2, Cs_K276 m2, Cs_R272_0 m2, Cs_R276_0 m2, Cs_K273 m2, Cs_R273_0 m2, Cs_R273_1 m2, Cs_K274 m2, Cs_K275 m2, Cs_K277 m2, Cs_R277_0 m2, Cs_R277_1 m2, Cs_K278 m2, Cs_K279 m2, Cs_R262_0 m2, Cs_K263 m2, Cs_R263_0 m2, Cs_K264 m2, Cs_R262_1 m2, Cs_K265 m2, Cs_R265_0 m2, Cs_K266 m2, Cs_R262_2 m2, Cs_K267 m2, Cs_R267_0 m2, Cs_K268 m2, Cs_R262_3 m2, Cs_K269 m2, Cs_R269_0 m2, Cs_K270 m2, Int.toNat_natCast, Int.natCast_nonneg, true_and, and_true, and_self, if_true, if_false, or_true, true_or, or_false, false_or, ne_eq, not_true_eq_false, not_false_eq_true, Nat.reduceLeDiff, Nat.reduceEqDiff, Nat.reduceLT, Nat.reduceAdd, Nat.reduceMul, Nat.reduceSub, Int.reduceLT, Int.reduceLE, Int.reduceEq, Int.reduceToNat, Int.reduceAdd, Int.reduceSub, Int.reduceMul, Int.reduceNeg, Int.cast_ofNat_Int, false_and, and_false]
  refine ⟨b9, ?_⟩
  by_cases h9 : hR h2' 200 10 = 0
  · rw [if_pos h9]
    have n2 := x2.1.2.1
    have d2 : ¬ (200 = 200 + hN h2') := by omega
    simp only [rX11_gameOf_19, rX11_gameOf_20, rX11_gameOf_23, rX11_gameOf_24, rX11_gameOf_25, hN_wI, hN_wJ, hN_wR, hS_wI, hS_wJ, hS_wR, hK_wI, hK_wJ, hK_wR, hI_wI, hI_wJ, hI_wR, hJ_wI, hJ_wJ, hJ_wR, hR_wI, hR_wJ, hR_wR, hN_nw, hS_nw, hK_nw, hI_nw, hJ_nw, hR_nw, psh_some, psh_none, Cs_K200 m2, Cs_R200_0 m2, Cs_R200_1 m2, Cs_R200_2 m2, Cs_R200_3 m2, Cs_R200_4 m2, Cs_R200_5 m2, Cs_R200_6 m2, Cs_K201 m2, Cs_R201_0 m2, Cs_R201_1 m2, Cs_K202 m2, Cs_K203 m2, Cs_K211 m2, Cs_R211_0 m2, Cs_R211_1 m2, Cs_K212 m2, Cs_K213 m2, Cs_K214 m2, Cs_R214_0 m2, Cs_R214_1 m2, Cs_K215 m2, Cs_K216 m2, Cs_K217 m2, Cs_R217_0 m2, Cs_R217_1 m2, Cs_K218 m2, Cs_K219 m2, Cs_K220 m2, Cs_R220_0 m2, Cs_K221 m2, Cs_K262 m2, Cs_K271 m2, Cs_R271_0 m2, Cs_R271_1 m2, Cs_K272 m2, Cs_K276 m2, Cs_R272_0 m2, Cs_R276_0 m2, Cs_K273 m2, Cs_R273_0 m2, Cs_R273_1 m2, Cs_K274 m2, Cs_K275 m2, Cs_K277 m2, Cs_R277_0 m2, Cs_R277_1 m2, Cs_K278 m2, Cs_K279 m2, Cs_R262_0 m2, Cs_K263 m2, Cs_R263_0 m2, Cs_K264 m2, Cs_R262_1 m2, Cs_K265 m2, Cs_R265_0 m2, Cs_K266 m2, Cs_R262_2 m2, Cs_K267 m2, Cs_R267_0 m2, Cs_K268 m2, Cs_R262_3 m2, Cs_K269 m2, Cs_R269_0 m2, Cs_K270 m2, d2, ge2', Int.toNat_natCast, Int.natCast_nonneg, true_and, and_true, and_self, if_true, if_false, or_true, true_or, or_false, false_or, ne_eq, not_true_eq_false, not_false_eq_true, Nat.reduceLeDiff, Nat.reduceEqDiff, Nat.reduceLT, Nat.reduceAdd, Nat.reduceMul, Nat.reduceSub, Int.reduceLT, Int.reduceLE, Int.reduceEq, Int.reduceToNat, Int.reduceAdd, Int.reduceSub, Int.reduceMul, Int.reduceNeg, Int.cast_ofNat_Int, false_and, and_false]
    refine S_newGame (d := d + 3) rfl ?_
    intro h3 f3 eN eS tl
    rw [← h8] at tl
    obtain ⟨x4, c4, tl4, r4, f4⟩ := x2.mkG h80 h9 f3 eN eS tl
    have K2 : hK h3 200 = (11, 0) := by rw [f3.K (by omega) (fun q => q)]; exact Cs_K200 m2
    have r9 : hR (wR h3 200 10 (200 + hN h2')) 200 10 = 200 + hN h2' := by rw [hR_wR, if_pos ⟨rfl, rfl⟩]
    simp only [psh_none, rX11_gameOf_28, K2, Int.toNat_natCast, Int.natCast_nonneg, true_and, and_true, and_self, if_true, if_false, or_true, true_or, or_false, false_or, ne_eq, not_true_eq_false, not_false_eq_true, Nat.reduceLeDiff, Nat.reduceEqDiff, Nat.reduceLT, Nat.reduceAdd, Nat.reduceMul, Nat.reduceSub, Int.reduceLT, Int.reduceLE, Int.reduceEq, Int.reduceToNat, Int.reduceAdd, Int.reduceSub, Int.reduceMul, Int.reduceNeg, Int.cast_ofNat_Int, false_and, and_false]
    exact fin _ (200 + hN h2') se _ ⟨x4, by rw [r4 8 (by decide)]; exact h8, r9, by omega, by omega, by rw [← h8]; exact tl4, pr.fl f4 (dy10 r9 r4) (sx_pp sx2)⟩ (c12.trans c4)
  · rw [if_neg h9]
    exact fin h2' _ se _ ⟨x2, h8, rfl, h9, by omega, by rw [← h8]; exact x2.2.2.2.2 h9, pr⟩ c12
theorem S_forcingRefused {d : Nat} {h : Hp} {A : Nat → Int} {Q : Option PV → Hp → Prop} (x : CpF h A) {t a b : Int} (ha : i32 a) (hb : i32 b) : WP (d + 2) mX11_forcingRefused 0 [some (.inr (.inr 200)), some (.inl t), some (.inl a), some (.inl b)] [] h Q = Q (some (.inl (nfV A t a b))) h := by
  unfold nfV
  simp only [rX11_forcingRefused_0, rX11_forcingRefused_1, rX11_forcingRefused_2, rX11_forcingRefused_5, Cs_K200 x.1, S_cThing x, psh_some, Int.toNat_natCast, Int.natCast_nonneg, true_and, and_true, and_self, if_true, if_false, or_true, true_or, or_false, false_or, ne_eq, not_true_eq_false, not_false_eq_true, Nat.reduceLeDiff, Nat.reduceEqDiff, Nat.reduceLT, Nat.reduceAdd, Nat.reduceMul, Nat.reduceSub, Int.reduceLT, Int.reduceLE, Int.reduceEq, Int.reduceToNat, Int.reduceAdd, Int.reduceSub, Int.reduceMul, Int.reduceNeg, Int.cast_ofNat_Int, false_and, and_false]
  by_cases h1 : 0 ≤ t ∧ t < A 1
  · rw [if_pos h1, if_pos h1, if_neg (by decide)]
    simp only [rX11_forcingRefused_11, rX11_forcingRefused_12, rX11_forcingRefused_13, rX11_forcingRefused_16, Cs_K200 x.1, S_cSet x ha, psh_some, Int.toNat_natCast, Int.natCast_nonneg, true_and, and_true, and_self, if_true, if_false, or_true, true_or, or_false, false_or, ne_eq, not_true_eq_false, not_false_eq_true, Nat.reduceLeDiff, Nat.reduceEqDiff, Nat.reduceLT, Nat.reduceAdd, Nat.reduceMul, Nat.reduceSub, Int.reduceLT, Int.reduceLE, Int.reduceEq, Int.reduceToNat, Int.reduceAdd, Int.reduceSub, Int.reduceMul, Int.reduceNeg, Int.cast_ofNat_Int, false_and, and_false]
    by_cases h2 : 0 ≤ a ∧ a < ((2 ^ (A 2).toNat : Nat) : Int)
    · rw [if_pos h2, if_neg (by decide)]
      simp only [rX11_forcingRefused_19, rX11_forcingRefused_20, rX11_forcingRefused_21, rX11_forcingRefused_24, Cs_K200 x.1, S_cSet x hb, psh_some, Int.toNat_natCast, Int.natCast_nonneg, true_and, and_true, and_self, if_true, if_false, or_true, true_or, or_false, false_or, ne_eq, not_true_eq_false, not_false_eq_true, Nat.reduceLeDiff, Nat.reduceEqDiff, Nat.reduceLT, Nat.reduceAdd, Nat.reduceMul, Nat.reduceSub, Int.reduceLT, Int.reduceLE, Int.reduceEq, Int.reduceToNat, Int.reduceAdd, Int.reduceSub, Int.reduceMul, Int.reduceNeg, Int.cast_ofNat_Int, false_and, and_false]
      by_cases h3 : 0 ≤ b ∧ b < ((2 ^ (A 2).toNat : Nat) : Int)
      · rw [if_pos h3, if_neg (by decide), if_pos ⟨h2, h3⟩]
        simp only [rX11_forcingRefused_27, rX11_forcingRefused_28, rX11_forcingRefused_33]
      · rw [if_neg h3, if_pos (by trivial), if_neg (fun c => h3 c.2)]
        simp only [rX11_forcingRefused_31, rX11_forcingRefused_33]
    · rw [if_neg h2, if_pos (by trivial), if_neg (fun c => h2 c.1)]
      simp only [rX11_forcingRefused_31, rX11_forcingRefused_33]
  · rw [if_neg h1, if_neg h1, if_pos (by trivial)]
    simp only [rX11_forcingRefused_8, rX11_forcingRefused_10]
theorem C_forces {d : Nat} {σ : AS} {t a b : Int} (ha : i32 a) (hb : i32 b) : CSpec (d + 7) mX11_forces [some (.inr (.inr 200)), some (.inl t), some (.inl a), some (.inl b), none] σ (.inl (fcV σ t a b)) σ := by
  intro h Q x w k
  have m := x.1.1
  unfold fcV at k
  simp only [rX11_forces_0, rX11_forces_1, rX11_forces_2, rX11_forces_3, rX11_forces_4, rX11_forces_7, rX11_forces_9, rX11_forces_11, Cs_K200 m, Cs_R200_0 m, Cs_R200_1 m, Cs_R200_2 m, Cs_R200_3 m, Cs_R200_4 m, Cs_R200_5 m, Cs_R200_6 m, Cs_K201 m, Cs_R201_0 m, Cs_R201_1 m, Cs_K202 m, Cs_K203 m, Cs_K211 m, Cs_R211_0 m, Cs_R211_1 m, Cs_K212 m, Cs_K213 m, Cs_K214 m, Cs_R214_0 m, Cs_R214_1 m, Cs_K215 m, Cs_K216 m, Cs_K217 m, Cs_R217_0 m, Cs_R217_1 m, Cs_K218 m, Cs_K219 m, Cs_K220 m, Cs_R220_0 m, Cs_K221 m, Cs_K262 m, Cs_K271 m, Cs_R271_0 m, Cs_R271_1 m, Cs_K272 m, Cs_K276 m, Cs_R272_0 m, Cs_R276_0 m, Cs_K273 m, Cs_R273_0 m, Cs_R273_1 m, Cs_K274 m, Cs_K275 m, Cs_K277 m, Cs_R277_0 m, Cs_R277_1 m, Cs_K278 m, Cs_K279 m, Cs_R262_0 m, Cs_K263 m, Cs_R263_0 m, Cs_K264 m, Cs_R262_1 m, Cs_K265 m, Cs_R265_0 m, Cs_K266 m, Cs_R262_2 m, Cs_K267 m, Cs_R267_0 m, Cs_K268 m, Cs_R262_3 m, Cs_K269 m, Cs_R269_0 m, Cs_K270 m, S_forcingRefused (x.cp w) ha hb, psh_some, Int.toNat_natCast, Int.natCast_nonneg, true_and, and_true, and_self, if_true, if_false, or_true, true_or, or_false, false_or, ne_eq, not_true_eq_false, not_false_eq_true, Nat.reduceLeDiff, Nat.reduceEqDiff, Nat.reduceLT, Nat.reduceAdd, Nat.reduceMul, Nat.reduceSub, Int.reduceLT, Int.reduceLE, Int.reduceEq, Int.reduceToNat, Int.reduceAdd, Int.reduceSub, Int.reduceMul, Int.reduceNeg, Int.cast_ofNat_Int, false_and, and_false]
  by_cases h0 : nfV (sA σ) t a b = 0
  · rw [if_pos h0] at k ⊢
    obtain ⟨T, p, q, rfl, rfl, rfl, T6, _, hp, hq⟩ := nfV_0 w.1 h0
    simp only [Int.toNat_natCast] at k
    simp only [h0, rX11_forces_17, rX11_forces_18, rX11_forces_19, rX11_forces_20, Cs_K200 m, Cs_R200_0 m, Cs_R200_1 m, Cs_R200_2 m, Cs_R200_3 m, Cs_R200_4 m, Cs_R200_5 m, Cs_R200_6 m, Cs_K201 m, Cs_R201_0 m, Cs_R201_1 m, Cs_K202 m, Cs_K203 m, Cs_K211 m, Cs_R211_0 m, Cs_R211_1 m, Cs_K212 m, Cs_K213 m, Cs_K214 m, Cs_R214_0 m, Cs_R214_1 m, Cs_K215 m, Cs_K216 m, Cs_K217 m, Cs_R217_0 m, Cs_R217_1 m, Cs_K218 m, Cs_K219 m, Cs_K220 m, Cs_R220_0 m, Cs_K221 m, Cs_K262 m, Cs_K271 m, Cs_R271_0 m, Cs_R271_1 m, Cs_K272 m, Cs_K276 m, Cs_R272_0 m, Cs_R276_0 m, Cs_K273 m, Cs_R273_0 m, Cs_R273_1 m, Cs_K274 m, Cs_K275 m, Cs_K277 m, Cs_R277_0 m, Cs_R277_1 m, Cs_K278 m, Cs_K279 m, Cs_R262_0 m, Cs_K263 m, Cs_R263_0 m, Cs_K264 m, Cs_R262_1 m, Cs_K265 m, Cs_R265_0 m, Cs_K266 m, Cs_R262_2 m, Cs_K267 m, Cs_R267_0 m, Cs_K268 m, Cs_R262_3 m, Cs_K269 m, Cs_R269_0 m, Cs_K270 m, Int.toNat_natCast, Int.natCast_nonneg, true_and, and_true, and_self, if_true, if_false, or_true, true_or, or_false, false_or, ne_eq, not_true_eq_false, not_false_eq_true, Nat.reduceLeDiff, Nat.reduceEqDiff, Nat.reduceLT, Nat.reduceAdd, Nat.reduceMul, Nat.reduceSub, Int.reduceLT, Int.reduceLE, Int.reduceEq, Int.reduceToNat, Int.reduceAdd, Int.reduceSub, Int.reduceMul, Int.reduceNeg, Int.cast_ofNat_Int, false_and, and_false]
    refine S_gameOf x w hp hq ?_
    intro h' h0' ga se gh cf gw e7 e8 ch
    obtain ⟨K0, _⟩ := gw.2.1.ks
    have l0 := Lst_0 (sA σ) (stA (sA σ)) (p ||| q)
    simp only [psh_some, rX11_forces_23, rX11_forces_24, K0, Int.toNat_natCast, Int.natCast_nonneg, true_and, and_true, and_self, if_true, if_false, or_true, true_or, or_false, false_or, ne_eq, not_true_eq_false, not_false_eq_true, Nat.reduceLeDiff, Nat.reduceEqDiff, Nat.reduceLT, Nat.reduceAdd, Nat.reduceMul, Nat.reduceSub, Int.reduceLT, Int.reduceLE, Int.reduceEq, Int.reduceToNat, Int.reduceAdd, Int.reduceSub, Int.reduceMul, Int.reduceNeg, Int.cast_ofNat_Int, false_and, and_false]
    refine S_play (d := d + 3) gw (GA_e w) hp hq e7 e8 ch T6 ?_
    intro h2 f2 vals
    have gw2 := gw.fp f2 (fun a k q => gq_ga q)
    obtain ⟨x2, c2⟩ := gh.done gw2
    have v0 := vals 0 (Nat.mul_pos (by decide) l0.2)
    rw [show 0 / 2 = 0 from rfl, l0.1] at v0
    simp only [psh_some, rX11_forces_27]
    rw [v0]
    exact k h2 x2 (cf.trans c2).1
  · rw [if_neg h0] at k ⊢
    simp only [rX11_forces_14, rX11_forces_16]
    exact k h x (Cfr.refl h)
theorem fb_n {q l : Nat} (h : q < l) (hl : l ≤ 1600) : w32 (2 * (q : Int)) = ((2 * q : Nat) : Int) ∧ w32 (((2 * q : Nat) : Int) + 1) = ((2 * q + 1 : Nat) : Int) ∧ ((2 * q + 1 : Nat) : Int) < 3200 ∧ 2 * q + 1 < 2 * l ∧ (2 * q + 1) % 2 = 1 ∧ (2 * q + 1) / 2 = q := ⟨by rw [w32_i (by omega) (by omega)]; omega, w32_s (by omega), by omega, by omega, by omega, by omega⟩
theorem v1_n {v : Int} (h : v = -1 ∨ ∃ n : Nat, v = (n : Int) ∧ n < 268435456) : w32 (v - 1) = v - 1 := by
  rcases h with h | ⟨n, h, hn⟩
  · rw [h]; decide
  · exact w32_i (by omega) (by omega)
set_option maxHeartbeats 1000000 in
theorem C_best {d : Nat} {σ : AS} {t a b : Int} (ha : i32 a) (hb : i32 b) : CSpec (d + 7) mX11_best [some (.inr (.inr 200)), some (.inl t), some (.inl a), some (.inl b), none, none] σ (.inl (beV σ t a b)) σ := by
  intro h Q x w k
  have m := x.1.1
  unfold beV at k
  simp only [rX11_best_0, rX11_best_1, rX11_best_2, rX11_best_3, rX11_best_4, rX11_best_7, rX11_best_9, rX11_best_11, Cs_K200 m, Cs_R200_0 m, Cs_R200_1 m, Cs_R200_2 m, Cs_R200_3 m, Cs_R200_4 m, Cs_R200_5 m, Cs_R200_6 m, Cs_K201 m, Cs_R201_0 m, Cs_R201_1 m, Cs_K202 m, Cs_K203 m, Cs_K211 m, Cs_R211_0 m, Cs_R211_1 m, Cs_K212 m, Cs_K213 m, Cs_K214 m, Cs_R214_0 m, Cs_R214_1 m, Cs_K215 m, Cs_K216 m, Cs_K217 m, Cs_R217_0 m, Cs_R217_1 m, Cs_K218 m, Cs_K219 m, Cs_K220 m, Cs_R220_0 m, Cs_K221 m, Cs_K262 m, Cs_K271 m, Cs_R271_0 m, Cs_R271_1 m, Cs_K272 m, Cs_K276 m, Cs_R272_0 m, Cs_R276_0 m, Cs_K273 m, Cs_R273_0 m, Cs_R273_1 m, Cs_K274 m, Cs_K275 m, Cs_K277 m, Cs_R277_0 m, Cs_R277_1 m, Cs_K278 m, Cs_K279 m, Cs_R262_0 m, Cs_K263 m, Cs_R263_0 m, Cs_K264 m, Cs_R262_1 m, Cs_K265 m, Cs_R265_0 m, Cs_K266 m, Cs_R262_2 m, Cs_K267 m, Cs_R267_0 m, Cs_K268 m, Cs_R262_3 m, Cs_K269 m, Cs_R269_0 m, Cs_K270 m, S_forcingRefused (x.cp w) ha hb, psh_some, Int.toNat_natCast, Int.natCast_nonneg, true_and, and_true, and_self, if_true, if_false, or_true, true_or, or_false, false_or, ne_eq, not_true_eq_false, not_false_eq_true, Nat.reduceLeDiff, Nat.reduceEqDiff, Nat.reduceLT, Nat.reduceAdd, Nat.reduceMul, Nat.reduceSub, Int.reduceLT, Int.reduceLE, Int.reduceEq, Int.reduceToNat, Int.reduceAdd, Int.reduceSub, Int.reduceMul, Int.reduceNeg, Int.cast_ofNat_Int, false_and, and_false]
  by_cases h0 : nfV (sA σ) t a b = 0
  · rw [if_pos h0] at k ⊢
    obtain ⟨T, p, q, rfl, rfl, rfl, T6, _, hp, hq⟩ := nfV_0 w.1 h0
    simp only [Int.toNat_natCast] at k
    simp only [h0, rX11_best_17, rX11_best_18, rX11_best_19, rX11_best_20, Cs_K200 m, Cs_R200_0 m, Cs_R200_1 m, Cs_R200_2 m, Cs_R200_3 m, Cs_R200_4 m, Cs_R200_5 m, Cs_R200_6 m, Cs_K201 m, Cs_R201_0 m, Cs_R201_1 m, Cs_K202 m, Cs_K203 m, Cs_K211 m, Cs_R211_0 m, Cs_R211_1 m, Cs_K212 m, Cs_K213 m, Cs_K214 m, Cs_R214_0 m, Cs_R214_1 m, Cs_K215 m, Cs_K216 m, Cs_K217 m, Cs_R217_0 m, Cs_R217_1 m, Cs_K218 m, Cs_K219 m, Cs_K220 m, Cs_R220_0 m, Cs_K221 m, Cs_K262 m, Cs_K271 m, Cs_R271_0 m, Cs_R271_1 m, Cs_K272 m, Cs_K276 m, Cs_R272_0 m, Cs_R276_0 m, Cs_K273 m, Cs_R273_0 m, Cs_R273_1 m, Cs_K274 m, Cs_K275 m, Cs_K277 m, Cs_R277_0 m, Cs_R277_1 m, Cs_K278 m, Cs_K279 m, Cs_R262_0 m, Cs_K263 m, Cs_R263_0 m, Cs_K264 m, Cs_R262_1 m, Cs_K265 m, Cs_R265_0 m, Cs_K266 m, Cs_R262_2 m, Cs_K267 m, Cs_R267_0 m, Cs_K268 m, Cs_R262_3 m, Cs_K269 m, Cs_R269_0 m, Cs_K270 m, Int.toNat_natCast, Int.natCast_nonneg, true_and, and_true, and_self, if_true, if_false, or_true, true_or, or_false, false_or, ne_eq, not_true_eq_false, not_false_eq_true, Nat.reduceLeDiff, Nat.reduceEqDiff, Nat.reduceLT, Nat.reduceAdd, Nat.reduceMul, Nat.reduceSub, Int.reduceLT, Int.reduceLE, Int.reduceEq, Int.reduceToNat, Int.reduceAdd, Int.reduceSub, Int.reduceMul, Int.reduceNeg, Int.cast_ofNat_Int, false_and, and_false]
    refine S_gameOf x w hp hq ?_
    intro h' h0' ga se gh cf gw e7 e8 ch
    obtain ⟨K0, _⟩ := gw.2.1.ks
    have l0 := Lst_0 (sA σ) (stA (sA σ)) (p ||| q)
    simp only [psh_some, rX11_best_23, rX11_best_25, rX11_best_27, rX11_best_29, rX11_best_30, K0, Int.toNat_natCast, Int.natCast_nonneg, true_and, and_true, and_self, if_true, if_false, or_true, true_or, or_false, false_or, ne_eq, not_true_eq_false, not_false_eq_true, Nat.reduceLeDiff, Nat.reduceEqDiff, Nat.reduceLT, Nat.reduceAdd, Nat.reduceMul, Nat.reduceSub, Int.reduceLT, Int.reduceLE, Int.reduceEq, Int.reduceToNat, Int.reduceAdd, Int.reduceSub, Int.reduceMul, Int.reduceNeg, Int.cast_ofNat_Int, false_and, and_false]
    refine S_play (d := d + 3) gw (GA_e w) hp hq e7 e8 ch T6 ?_
    intro h2 f2 vals
    have gw2 := gw.fp f2 (fun a k q => gq_ga q)
    obtain ⟨x2, c2⟩ := gh.done gw2
    have k0 := k h2 x2 (cf.trans c2).1
    have v0 : hI h2 (ga + 3) 0 = lwS σ T p q 0 (stt (stA (sA σ))) := by
      have := vals 0 (Nat.mul_pos (by decide) l0.2)
      rw [show 0 / 2 = 0 from rfl, l0.1] at this
      exact this
    have q7 : hI h2 ga 7 = (p : Int) := by rw [f2.I (gq_no (Or.inr (Or.inr ⟨rfl, by decide⟩)))]; exact e7
    rw [v0]
    obtain ⟨K0, R0, R1, R2, R3, R4, R5, K1, K2, K3, _⟩ := gw2.2.1.ks
    have KS := gw2.2.2.1.2.1.1
    obtain ⟨pp, P0, PK, PG⟩ := gw2.2.2.1.pl
    have G2 := GA_e w
    have G6 := G_6 w
    have p31 := v_31 (set64 w.1 hp)
    have ok := gw2.2.2.1.2.2.2.1
    have lk := gw2.2.2.1.le
    have vin := v1_n (lwS_in σ T p q 0 (stt (stA (sA σ))))
    simp only [psh_some, rX11_best_33, K0, Int.toNat_natCast, Int.natCast_nonneg, true_and, and_true, and_self, if_true, if_false, or_true, true_or, or_false, false_or, ne_eq, not_true_eq_false, not_false_eq_true, Nat.reduceLeDiff, Nat.reduceEqDiff, Nat.reduceLT, Nat.reduceAdd, Nat.reduceMul, Nat.reduceSub, Int.reduceLT, Int.reduceLE, Int.reduceEq, Int.reduceToNat, Int.reduceAdd, Int.reduceSub, Int.reduceMul, Int.reduceNeg, Int.cast_ofNat_Int, false_and, and_false]
    simp only [rX1_firstBest_0, rX1_firstBest_1]
    by_cases hv : 0 < lwS σ T p q 0 (stt (stA (sA σ)))
    · rw [if_pos hv] at k0
      have main : ∀ n g, g + n = GA σ → Q (some (.inl (ffR (beB σ T p q (lwS σ T p q 0 (stt (stA (sA σ))))) n g))) h2 → WP (d + 6) mX1_firstBest 2 [some (.inr (.inr ga)), some (.inl (lwS σ T p q 0 (stt (stA (sA σ))))), some (.inl (g : Int))] [] h2 (fun r h' => WP (d + 6 + 1) mX11_best 36 [some (.inr (.inr 200)), some (.inl (T : Int)), some (.inl (p : Int)), some (.inl (q : Int)), some (.inl 0), some (.inr (.inr ga))] (psh r []) h' Q) := by
        intro n
        induction n with
        | zero =>
          intro g hg kq
          have eg : g = GA σ := hg
          subst eg
          rw [rX1_firstBest_2]
          simp only [rX1_firstBest_3, rX1_firstBest_6, rX1_firstBest_7, rX1_firstBest_8, rX1_firstBest_11, rX1_firstBest_14, rX1_firstBest_17, rX1_firstBest_63, rX1_firstBest_64, K0, R0, KS, P0, PK, PG, G2, hv, Int.lt_irrefl, psh_some, rX11_best_36, Int.toNat_natCast, Int.natCast_nonneg, true_and, and_true, and_self, if_true, if_false, or_true, true_or, or_false, false_or, ne_eq, not_true_eq_false, not_false_eq_true, Nat.reduceLeDiff, Nat.reduceEqDiff, Nat.reduceLT, Nat.reduceAdd, Nat.reduceMul, Nat.reduceSub, Int.reduceLT, Int.reduceLE, Int.reduceEq, Int.reduceToNat, Int.reduceAdd, Int.reduceSub, Int.reduceMul, Int.reduceNeg, Int.cast_ofNat_Int, false_and, and_false]
          exact kq
        | succ n ih =>
          intro g hg kq
          obtain ⟨gG, hn⟩ := gm_n hg
          obtain ⟨gG', g6, g1⟩ := g_6 gG G6
          have g31 : g < 31 := Nat.lt_trans g6 (by decide)
          unfold ffR at kq
          rw [rX1_firstBest_2]
          simp only [rX1_firstBest_3, rX1_firstBest_6, rX1_firstBest_7, rX1_firstBest_8, rX1_firstBest_11, rX1_firstBest_14, rX1_firstBest_17, rX1_firstBest_20, rX1_firstBest_21, rX1_firstBest_24, rX1_firstBest_25, rX1_firstBest_28, K0, R0, KS, P0, PK, PG, G2, hv, gG', q7, S_has (b := p) (i := g) p31 g31, psh_some, Int.toNat_natCast, Int.natCast_nonneg, true_and, and_true, and_self, if_true, if_false, or_true, true_or, or_false, false_or, ne_eq, not_true_eq_false, not_false_eq_true, Nat.reduceLeDiff, Nat.reduceEqDiff, Nat.reduceLT, Nat.reduceAdd, Nat.reduceMul, Nat.reduceSub, Int.reduceLT, Int.reduceLE, Int.reduceEq, Int.reduceToNat, Int.reduceAdd, Int.reduceSub, Int.reduceMul, Int.reduceNeg, Int.cast_ofNat_Int, false_and, and_false]
          by_cases hb : p.testBit g = true
          · simp only [if_pos hb]
            rw [if_neg (by decide)]
            obtain ⟨r, hr, er, pa⟩ := S_placeAfter gw2.2.2.1 (p := 0) (g := g) l0.2 (by rw [G2]; exact gG') (or_l hb)
            obtain ⟨y1, y2, y3, y4, y5, y6⟩ := fb_n hr lk
            have fv : hI h2 (ga + 3) (2 * r + 1) = lwS σ T p q 1 (fA σ g (stt (stA (sA σ)))) := by
              have := vals (2 * r + 1) y4
              rw [y5, y6, er, l0.1] at this
              exact this
            have pa' := fun (Q : Option PV → Hp → Prop) => pa (d + 5) Q
            simp only [rX1_firstBest_31, rX1_firstBest_32, rX1_firstBest_35, rX1_firstBest_36, rX1_firstBest_37, rX1_firstBest_40, rX1_firstBest_41, rX1_firstBest_42, K0, R0, R3, KS, Int.toNat_natCast, Int.natCast_nonneg, true_and, and_true, and_self, if_true, if_false, or_true, true_or, or_false, false_or, ne_eq, not_true_eq_false, not_false_eq_true, Nat.reduceLeDiff, Nat.reduceEqDiff, Nat.reduceLT, Nat.reduceAdd, Nat.reduceMul, Nat.reduceSub, Int.reduceLT, Int.reduceLE, Int.reduceEq, Int.reduceToNat, Int.reduceAdd, Int.reduceSub, Int.reduceMul, Int.reduceNeg, Int.cast_ofNat_Int, false_and, and_false]
            refine (pa' _).mpr ?_
            simp only [psh_some, rX1_firstBest_45, rX1_firstBest_46, rX1_firstBest_47, rX1_firstBest_48, rX1_firstBest_49, rX1_firstBest_50, rX1_firstBest_51, rX1_firstBest_52, y1, y2, y3, K3, fv, vin, Int.toNat_natCast, Int.natCast_nonneg, true_and, and_true, and_self, if_true, if_false, or_true, true_or, or_false, false_or, ne_eq, not_true_eq_false, not_false_eq_true, Nat.reduceLeDiff, Nat.reduceEqDiff, Nat.reduceLT, Nat.reduceAdd, Nat.reduceMul, Nat.reduceSub, Int.reduceLT, Int.reduceLE, Int.reduceEq, Int.reduceToNat, Int.reduceAdd, Int.reduceSub, Int.reduceMul, Int.reduceNeg, Int.cast_ofNat_Int, false_and, and_false]
            by_cases hc : lwS σ T p q 1 (fA σ g (stt (stA (sA σ)))) = lwS σ T p q 0 (stt (stA (sA σ))) - 1
            · rw [if_pos hc]
              have hbe : beB σ T p q (lwS σ T p q 0 (stt (stA (sA σ)))) g = true := by unfold beB; rw [hb, decide_eq_true hc]; rfl
              rw [if_pos hbe] at kq
              simp only [rX1_firstBest_55, rX1_firstBest_56, psh_some, rX11_best_36]
              exact kq
            · rw [if_neg hc]
              have hbe : ¬ beB σ T p q (lwS σ T p q 0 (stt (stA (sA σ)))) g = true := by unfold beB; rw [hb, decide_eq_false hc]; decide
              rw [if_neg hbe] at kq
              simp only [rX1_firstBest_57, rX1_firstBest_60, g1]
              exact ih (g + 1) hn kq
          · simp only [if_neg hb]
            rw [if_pos (by trivial)]
            have hbe : ¬ beB σ T p q (lwS σ T p q 0 (stt (stA (sA σ)))) g = true := by unfold beB; rw [Bool.eq_false_iff.2 hb, Bool.false_and]; decide
            rw [if_neg hbe] at kq
            simp only [rX1_firstBest_57, rX1_firstBest_60, g1]
            exact ih (g + 1) hn kq
      exact main (GA σ) 0 (Nat.zero_add _) k0
    · rw [if_neg hv] at k0
      rw [rX1_firstBest_2, rX1_firstBest_3, if_neg hv]
      simp only [rX1_firstBest_63, rX1_firstBest_64, psh_some, rX11_best_36]
      exact k0
  · rw [if_neg h0] at k ⊢
    simp only [rX11_best_14, rX11_best_16]
    exact k h x (Cfr.refl h)
set_option maxHeartbeats 1000000 in
theorem C_power {d : Nat} {σ : AS} {a b : Int} (ha : i32 a) (hb : i32 b) : CSpec (d + 7) mX11_power [some (.inr (.inr 200)), some (.inl a), some (.inl b), none, none, none] σ (.inl (pwV σ a b)) σ := by
  intro h Q x w k
  have m := x.1.1
  unfold pwV at k
  have bad : ¬ ((0 ≤ a ∧ a < ((2 ^ (sA σ 2).toNat : Nat) : Int)) ∧ 0 ≤ b ∧ b < ((2 ^ (sA σ 2).toNat : Nat) : Int)) → WP (d + 7) mX11_power 16 [some (.inr (.inr 200)), some (.inl a), some (.inl b), none, none, none] [] h Q := by
    intro hn
    rw [if_neg hn] at k
    simp only [rX11_power_16, rX11_power_18]
    exact k h x (Cfr.refl h)
  simp only [rX11_power_0, rX11_power_1, rX11_power_2, rX11_power_5, Cs_K200 m, Cs_R200_0 m, Cs_R200_1 m, Cs_R200_2 m, Cs_R200_3 m, Cs_R200_4 m, Cs_R200_5 m, Cs_R200_6 m, Cs_K201 m, Cs_R201_0 m, Cs_R201_1 m, Cs_K202 m, Cs_K203 m, Cs_K211 m, Cs_R211_0 m, Cs_R211_1 m, Cs_K212 m, Cs_K213 m, Cs_K214 m, Cs_R214_0 m, Cs_R214_1 m, Cs_K215 m, Cs_K216 m, Cs_K217 m, Cs_R217_0 m, Cs_R217_1 m, Cs_K218 m, Cs_K219 m, Cs_K220 m, Cs_R220_0 m, Cs_K221 m, Cs_K262 m, Cs_K271 m, Cs_R271_0 m, Cs_R271_1 m, Cs_K272 m, Cs_K276 m, Cs_R272_0 m, Cs_R276_0 m, Cs_K273 m, Cs_R273_0 m, Cs_R273_1 m, Cs_K274 m, Cs_K275 m, Cs_K277 m, Cs_R277_0 m, Cs_R277_1 m, Cs_K278 m, Cs_K279 m, Cs_R262_0 m, Cs_K263 m, Cs_R263_0 m, Cs_K264 m, Cs_R262_1 m, Cs_K265 m, Cs_R265_0 m, Cs_K266 m, Cs_R262_2 m, Cs_K267 m, Cs_R267_0 m, Cs_K268 m, Cs_R262_3 m, Cs_K269 m, Cs_R269_0 m, Cs_K270 m, S_cSet (x.cp w) ha, psh_some, Int.toNat_natCast, Int.natCast_nonneg, true_and, and_true, and_self, if_true, if_false, or_true, true_or, or_false, false_or, ne_eq, not_true_eq_false, not_false_eq_true, Nat.reduceLeDiff, Nat.reduceEqDiff, Nat.reduceLT, Nat.reduceAdd, Nat.reduceMul, Nat.reduceSub, Int.reduceLT, Int.reduceLE, Int.reduceEq, Int.reduceToNat, Int.reduceAdd, Int.reduceSub, Int.reduceMul, Int.reduceNeg, Int.cast_ofNat_Int, false_and, and_false]
  by_cases h1 : 0 ≤ a ∧ a < ((2 ^ (sA σ 2).toNat : Nat) : Int)
  · rw [if_pos h1, if_neg (by decide)]
    simp only [rX11_power_8, rX11_power_9, rX11_power_10, rX11_power_13, Cs_K200 m, Cs_R200_0 m, Cs_R200_1 m, Cs_R200_2 m, Cs_R200_3 m, Cs_R200_4 m, Cs_R200_5 m, Cs_R200_6 m, Cs_K201 m, Cs_R201_0 m, Cs_R201_1 m, Cs_K202 m, Cs_K203 m, Cs_K211 m, Cs_R211_0 m, Cs_R211_1 m, Cs_K212 m, Cs_K213 m, Cs_K214 m, Cs_R214_0 m, Cs_R214_1 m, Cs_K215 m, Cs_K216 m, Cs_K217 m, Cs_R217_0 m, Cs_R217_1 m, Cs_K218 m, Cs_K219 m, Cs_K220 m, Cs_R220_0 m, Cs_K221 m, Cs_K262 m, Cs_K271 m, Cs_R271_0 m, Cs_R271_1 m, Cs_K272 m, Cs_K276 m, Cs_R272_0 m, Cs_R276_0 m, Cs_K273 m, Cs_R273_0 m, Cs_R273_1 m, Cs_K274 m, Cs_K275 m, Cs_K277 m, Cs_R277_0 m, Cs_R277_1 m, Cs_K278 m, Cs_K279 m, Cs_R262_0 m, Cs_K263 m, Cs_R263_0 m, Cs_K264 m, Cs_R262_1 m, Cs_K265 m, Cs_R265_0 m, Cs_K266 m, Cs_R262_2 m, Cs_K267 m, Cs_R267_0 m, Cs_K268 m, Cs_R262_3 m, Cs_K269 m, Cs_R269_0 m, Cs_K270 m, S_cSet (x.cp w) hb, psh_some, Int.toNat_natCast, Int.natCast_nonneg, true_and, and_true, and_self, if_true, if_false, or_true, true_or, or_false, false_or, ne_eq, not_true_eq_false, not_false_eq_true, Nat.reduceLeDiff, Nat.reduceEqDiff, Nat.reduceLT, Nat.reduceAdd, Nat.reduceMul, Nat.reduceSub, Int.reduceLT, Int.reduceLE, Int.reduceEq, Int.reduceToNat, Int.reduceAdd, Int.reduceSub, Int.reduceMul, Int.reduceNeg, Int.cast_ofNat_Int, false_and, and_false]
    by_cases h2 : 0 ≤ b ∧ b < ((2 ^ (sA σ 2).toNat : Nat) : Int)
    · rw [if_pos h2, if_neg (by decide)]
      rw [if_pos ⟨h1, h2⟩] at k
      clear bad
      obtain ⟨p, rfl, hp⟩ := set_nat h1
      obtain ⟨q, rfl, hq⟩ := set_nat h2
      simp only [Int.toNat_natCast] at k
      simp only [rX11_power_19, rX11_power_20, rX11_power_21, rX11_power_22, Cs_K200 m, Cs_R200_0 m, Cs_R200_1 m, Cs_R200_2 m, Cs_R200_3 m, Cs_R200_4 m, Cs_R200_5 m, Cs_R200_6 m, Cs_K201 m, Cs_R201_0 m, Cs_R201_1 m, Cs_K202 m, Cs_K203 m, Cs_K211 m, Cs_R211_0 m, Cs_R211_1 m, Cs_K212 m, Cs_K213 m, Cs_K214 m, Cs_R214_0 m, Cs_R214_1 m, Cs_K215 m, Cs_K216 m, Cs_K217 m, Cs_R217_0 m, Cs_R217_1 m, Cs_K218 m, Cs_K219 m, Cs_K220 m, Cs_R220_0 m, Cs_K221 m, Cs_K262 m, Cs_K271 m, Cs_R271_0 m, Cs_R271_1 m, Cs_K272 m, Cs_K276 m, Cs_R272_0 m, Cs_R276_0 m, Cs_K273 m, Cs_R273_0 m, Cs_R273_1 m, Cs_K274 m, Cs_K275 m, Cs_K277 m, Cs_R277_0 m, Cs_R277_1 m, Cs_K278 m, Cs_K279 m, Cs_R262_0 m, Cs_K263 m, Cs_R263_0 m, Cs_K264 m, Cs_R262_1 m, Cs_K265 m, Cs_R265_0 m, Cs_K266 m, Cs_R262_2 m, Cs_K267 m, Cs_R267_0 m, Cs_K268 m, Cs_R262_3 m, Cs_K269 m, Cs_R269_0 m, Cs_K270 m, Int.toNat_natCast, Int.natCast_nonneg, true_and, and_true, and_self, if_true, if_false, or_true, true_or, or_false, false_or, ne_eq, not_true_eq_false, not_false_eq_true, Nat.reduceLeDiff, Nat.reduceEqDiff, Nat.reduceLT, Nat.reduceAdd, Nat.reduceMul, Nat.reduceSub, Int.reduceLT, Int.reduceLE, Int.reduceEq, Int.reduceToNat, Int.reduceAdd, Int.reduceSub, Int.reduceMul, Int.reduceNeg, Int.cast_ofNat_Int, false_and, and_false]
      refine S_gameOf x w hp hq ?_
      intro h' h0' ga se gh cf gw e7 e8 ch
      have l0 := Lst_0 (sA σ) (stA (sA σ)) (p ||| q)
      simp only [psh_some, rX11_power_25, rX11_power_26, rX11_power_27, rX11_power_29, rX11_power_30]
      have T6 := w.1.2.1
      have T0' := w.1.1
      have main : ∀ n t (e : Hp), t + n = (sA σ 1).toNat → Fp (gqP ga) h' e → WP (d + 7) mX11_power 32 [some (.inr (.inr 200)), some (.inl (p : Int)), some (.inl (q : Int)), some (.inr (.inr ga)), some (.inl (fitS (pwB σ p q) t : Int)), some (.inl (t : Int))] [] e Q := by
        intro n
        induction n with
        | zero =>
          intro t e ht fe
          obtain ⟨et, et'⟩ := tz_n ht T0'
          have gwe := gw.fp fe (fun a k q => gq_ga q)
          obtain ⟨xe, ce⟩ := gh.done gwe
          have me := xe.1.1
          obtain ⟨pp, hpp, _, _, _, pk, _, _, _, _, _, _, _, _, pT, _⟩ := (xe.cp w).get
          rw [rX11_power_32]
          simp only [rX11_power_34, rX11_power_35, rX11_power_38, rX11_power_41, rX11_power_69, rX11_power_71, Cs_K200 me, Cs_R200_0 me, Cs_R200_1 me, Cs_R200_2 me, Cs_R200_3 me, Cs_R200_4 me, Cs_R200_5 me, Cs_R200_6 me, Cs_K201 me, Cs_R201_0 me, Cs_R201_1 me, Cs_K202 me, Cs_K203 me, Cs_K211 me, Cs_R211_0 me, Cs_R211_1 me, Cs_K212 me, Cs_K213 me, Cs_K214 me, Cs_R214_0 me, Cs_R214_1 me, Cs_K215 me, Cs_K216 me, Cs_K217 me, Cs_R217_0 me, Cs_R217_1 me, Cs_K218 me, Cs_K219 me, Cs_K220 me, Cs_R220_0 me, Cs_K221 me, Cs_K262 me, Cs_K271 me, Cs_R271_0 me, Cs_R271_1 me, Cs_K272 me, Cs_K276 me, Cs_R272_0 me, Cs_R276_0 me, Cs_K273 me, Cs_R273_0 me, Cs_R273_1 me, Cs_K274 me, Cs_K275 me, Cs_K277 me, Cs_R277_0 me, Cs_R277_1 me, Cs_K278 me, Cs_K279 me, Cs_R262_0 me, Cs_K263 me, Cs_R263_0 me, Cs_K264 me, Cs_R262_1 me, Cs_K265 me, Cs_R265_0 me, Cs_K266 me, Cs_R262_2 me, Cs_K267 me, Cs_R267_0 me, Cs_K268 me, Cs_R262_3 me, Cs_K269 me, Cs_R269_0 me, Cs_K270 me, hpp, pk, pT, et, Int.lt_irrefl, Int.toNat_natCast, Int.natCast_nonneg, true_and, and_true, and_self, if_true, if_false, or_true, true_or, or_false, false_or, ne_eq, not_true_eq_false, not_false_eq_true, Nat.reduceLeDiff, Nat.reduceEqDiff, Nat.reduceLT, Nat.reduceAdd, Nat.reduceMul, Nat.reduceSub, Int.reduceLT, Int.reduceLE, Int.reduceEq, Int.reduceToNat, Int.reduceAdd, Int.reduceSub, Int.reduceMul, Int.reduceNeg, Int.cast_ofNat_Int, false_and, and_false]
          rw [et']
          exact k e xe (cf.trans ce).1
        | succ n ih =>
          intro t e ht fe
          obtain ⟨tT, hn⟩ := ts_n ht
          have t6 := t_6 tT T6
          obtain ⟨ta31, t1⟩ := t31 t6
          have gwe := gw.fp fe (fun a k q => gq_ga q)
          obtain ⟨xe, ce⟩ := gh.done gwe
          have me := xe.1.1
          obtain ⟨pp, hpp, _, _, _, pk, _, _, _, _, _, _, _, _, pT, _⟩ := (xe.cp w).get
          obtain ⟨K0, _⟩ := gwe.2.1.ks
          have q7 : hI e ga 7 = (p : Int) := by rw [fe.I (gq_no (Or.inr (Or.inr ⟨rfl, by decide⟩)))]; exact e7
          have q8 : hI e ga 8 = (q : Int) := by rw [fe.I (gq_no (Or.inr (Or.inr ⟨rfl, by decide⟩)))]; exact e8
          rw [rX11_power_32]
          simp only [rX11_power_34, rX11_power_35, rX11_power_38, rX11_power_41, rX11_power_44, rX11_power_45, rX11_power_47, Cs_K200 me, Cs_R200_0 me, Cs_R200_1 me, Cs_R200_2 me, Cs_R200_3 me, Cs_R200_4 me, Cs_R200_5 me, Cs_R200_6 me, Cs_K201 me, Cs_R201_0 me, Cs_R201_1 me, Cs_K202 me, Cs_K203 me, Cs_K211 me, Cs_R211_0 me, Cs_R211_1 me, Cs_K212 me, Cs_K213 me, Cs_K214 me, Cs_R214_0 me, Cs_R214_1 me, Cs_K215 me, Cs_K216 me, Cs_K217 me, Cs_R217_0 me, Cs_R217_1 me, Cs_K218 me, Cs_K219 me, Cs_K220 me, Cs_R220_0 me, Cs_K221 me, Cs_K262 me, Cs_K271 me, Cs_R271_0 me, Cs_R271_1 me, Cs_K272 me, Cs_K276 me, Cs_R272_0 me, Cs_R276_0 me, Cs_K273 me, Cs_R273_0 me, Cs_R273_1 me, Cs_K274 me, Cs_K275 me, Cs_K277 me, Cs_R277_0 me, Cs_R277_1 me, Cs_K278 me, Cs_K279 me, Cs_R262_0 me, Cs_K263 me, Cs_R263_0 me, Cs_K264 me, Cs_R262_1 me, Cs_K265 me, Cs_R265_0 me, Cs_K266 me, Cs_R262_2 me, Cs_K267 me, Cs_R267_0 me, Cs_K268 me, Cs_R262_3 me, Cs_K269 me, Cs_R269_0 me, Cs_K270 me, hpp, pk, pT, tT, K0, Int.toNat_natCast, Int.natCast_nonneg, true_and, and_true, and_self, if_true, if_false, or_true, true_or, or_false, false_or, ne_eq, not_true_eq_false, not_false_eq_true, Nat.reduceLeDiff, Nat.reduceEqDiff, Nat.reduceLT, Nat.reduceAdd, Nat.reduceMul, Nat.reduceSub, Int.reduceLT, Int.reduceLE, Int.reduceEq, Int.reduceToNat, Int.reduceAdd, Int.reduceSub, Int.reduceMul, Int.reduceNeg, Int.cast_ofNat_Int, false_and, and_false]
          refine S_play (d := d + 3) gwe (GA_e w) hp hq q7 q8 (fun r hr => ?_) t6 ?_
          · obtain ⟨l, l1, l2, l3⟩ := ch r hr
            exact ⟨l, by rw [fe.I (gq_no (Or.inl rfl))]; exact ChL.cg l _ (fun c _ => fe.I (gq_no (Or.inr (Or.inl rfl)))) l1, l2, l3⟩
          · intro e2 f2 vals
            have v0 : hI e2 (ga + 3) 0 = lwS σ t p q 0 (stt (stA (sA σ))) := by
              have := vals 0 (Nat.mul_pos (by decide) l0.2)
              rw [show 0 / 2 = 0 from rfl, l0.1] at this
              exact this
            have fl := t_20 (fitS_lt (pwB σ p q) t (Nat.le_trans (Nat.le_of_lt t6) (by decide)))
            have go := ih (t + 1) e2 hn (fe.trans f2)
            rw [v0]
            simp only [psh_some, rX11_power_50, rX11_power_51]
            by_cases hv : lwS σ t p q 0 (stt (stA (sA σ))) = -1
            · have hs : fitS (pwB σ p q) (t + 1) = fitS (pwB σ p q) t := if_neg (by unfold pwB; rw [decide_eq_false (fun c => c hv)]; decide)
              rw [hs] at go
              rw [if_pos hv]
              simp only [rX11_power_63, rX11_power_66, t1]
              exact go
            · have hs : fitS (pwB σ p q) (t + 1) = fitS (pwB σ p q) t ||| 2 ^ t := if_pos (decide_eq_true hv)
              rw [hs] at go
              rw [if_neg hv]
              simp only [rX11_power_54, rX11_power_56, rX11_power_57, rX11_power_59, rX11_power_60, rX11_power_61, rX11_power_63, rX11_power_66, orb_n fl ta31, t1]
              exact go
      exact main (sA σ 1).toNat 0 h' (Nat.zero_add _) (Fp.refl _ h')
    · rw [if_neg h2, if_pos (by trivial)]
      exact bad (fun c => h2 c.2)
  · rw [if_neg h1, if_pos (by trivial)]
    exact bad (fun c => h1 c.1)
