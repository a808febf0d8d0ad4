/-! soonest, way, tells, tellsBy -/
theorem rSet_n {A : Nat → Int} {t : Int} (h : 0 ≤ t ∧ t < ((2 ^ (A 2).toNat : Nat) : Int)) : ∃ s : Nat, t = (s : Int) ∧ s < 2 ^ (A 2).toNat := set_nat h
theorem S_coming {d : Nat} {h : Hp} {A : Nat → Int} {Q : Option PV → Hp → Prop} (x : CpF h A) {t s : Int} (hs : i32 s) : WP (d + 2) mX11_comingRefused 0 [some (.inr (.inr 200)), some (.inl t), some (.inl s)] [] h Q = Q (some (.inl (if 0 ≤ t ∧ t < A 1 then (if 0 ≤ s ∧ s < ((2 ^ (A 2).toNat : Nat) : Int) then 0 else -3) else -2))) h := by
  simp only [rX11_comingRefused_0, rX11_comingRefused_1, rX11_comingRefused_2, rX11_comingRefused_5, rX11_comingRefused_8, rX11_comingRefused_10, rX11_comingRefused_11, rX11_comingRefused_12, rX11_comingRefused_13, rX11_comingRefused_16, rX11_comingRefused_19, rX11_comingRefused_20, rX11_comingRefused_23, rX11_comingRefused_25, Cs_K200 x.1, S_cThing x, S_cSet x hs, psh_some, Int.toNat_natCast, Int.natCast_nonneg, true_and, and_true, and_self, if_true, if_false, or_true, true_or, or_false, false_or, ne_eq, not_true_eq_false, not_false_eq_true, Nat.reduceLeDiff, Nat.reduceEqDiff, Nat.reduceLT, Nat.reduceAdd, Nat.reduceMul, Nat.reduceSub, Int.reduceLT, Int.reduceLE, Int.reduceEq, Int.reduceToNat, Int.reduceAdd, Int.reduceSub, Int.reduceMul, Int.reduceNeg, Int.cast_ofNat_Int, false_and, and_false]
  by_cases h1 : 0 ≤ t ∧ t < A 1
  · rw [if_pos h1, if_pos h1, if_neg (by decide)]
    by_cases h2 : 0 ≤ s ∧ s < ((2 ^ (A 2).toNat : Nat) : Int)
    · rw [if_pos h2, if_pos h2, if_neg (by decide)]
    · rw [if_neg h2, if_neg h2, if_pos (by trivial)]
  · rw [if_neg h1, if_neg h1, if_pos (by trivial)]
theorem B_soonest {d : Nat} {σ : AS} (w : WF σ) {t s : Int} (hs : i32 s) : ∃ v, CSpec (d + 7) mX11_soonest [some (.inr (.inr 200)), some (.inl t), some (.inl s), none, none] σ (.inl v) σ ∧ RSpec (d + 6) mX12_soonest [some (.inr (.inr 294)), some (.inl t), some (.inl s)] σ (.inl v) σ := by
  obtain ⟨mm, ww, hw⟩ := Way_ex w.1 w.2.1 s.toNat t.toNat
  refine ⟨if 0 ≤ t ∧ t < sA σ 1 then (if 0 ≤ s ∧ s < ((2 ^ (sA σ 2).toNat : Nat) : Int) then mm else -3) else -2, ?_, ?_⟩
  · intro h Q x _ k
    have m := x.1.1
    simp only [rX11_soonest_0, rX11_soonest_1, rX11_soonest_2, rX11_soonest_3, rX11_soonest_6, rX11_soonest_7, rX11_soonest_8, rX11_soonest_11, rX11_soonest_12, Cs_K200 m, Cs_R200_0 m, Cs_R200_1 m, Cs_R200_2 m, Cs_R200_3 m, Cs_R200_4 m, Cs_R200_5 m, Cs_R200_6 m, Cs_K201 m, Cs_R201_0 m, Cs_R201_1 m, Cs_K202 m, Cs_K203 m, Cs_K211 m, Cs_R211_0 m, Cs_R211_1 m, Cs_K212 m, Cs_K213 m, Cs_K214 m, Cs_R214_0 m, Cs_R214_1 m, Cs_K215 m, Cs_K216 m, Cs_K217 m, Cs_R217_0 m, Cs_R217_1 m, Cs_K218 m, Cs_K219 m, Cs_K220 m, Cs_R220_0 m, Cs_K221 m, Cs_K262 m, Cs_K271 m, Cs_R271_0 m, Cs_R271_1 m, Cs_K272 m, Cs_K276 m, Cs_R272_0 m, Cs_R276_0 m, Cs_K273 m, Cs_R273_0 m, Cs_R273_1 m, Cs_K274 m, Cs_K275 m, Cs_K277 m, Cs_R277_0 m, Cs_R277_1 m, Cs_K278 m, Cs_K279 m, Cs_R262_0 m, Cs_K263 m, Cs_R263_0 m, Cs_K264 m, Cs_R262_1 m, Cs_K265 m, Cs_R265_0 m, Cs_K266 m, Cs_R262_2 m, Cs_K267 m, Cs_R267_0 m, Cs_K268 m, Cs_R262_3 m, Cs_K269 m, Cs_R269_0 m, Cs_K270 m, S_coming (x.cp w) hs, psh_some, Int.toNat_natCast, Int.natCast_nonneg, true_and, and_true, and_self, if_true, if_false, or_true, true_or, or_false, false_or, ne_eq, not_true_eq_false, not_false_eq_true, Nat.reduceLeDiff, Nat.reduceEqDiff, Nat.reduceLT, Nat.reduceAdd, Nat.reduceMul, Nat.reduceSub, Int.reduceLT, Int.reduceLE, Int.reduceEq, Int.reduceToNat, Int.reduceAdd, Int.reduceSub, Int.reduceMul, Int.reduceNeg, Int.cast_ofNat_Int, false_and, and_false]
    by_cases h1 : 0 ≤ t ∧ t < sA σ 1
    · simp only [if_pos h1] at k ⊢
      by_cases h2 : 0 ≤ s ∧ s < ((2 ^ (sA σ 2).toNat : Nat) : Int)
      · simp only [if_pos h2] at k ⊢
        obtain ⟨n, rfl⟩ := Int.eq_ofNat_of_zero_le h1.1
        obtain ⟨c, rfl, hc⟩ := rSet_n h2
        have n6 : n < 6 := by have := w.1.2.1; omega
        simp only [Int.toNat_natCast] at hw
        simp only [if_true, rX11_soonest_13, rX11_soonest_14, rX11_soonest_15, Cs_K200 m, Cs_R200_0 m, Cs_R200_1 m, Cs_R200_2 m, Cs_R200_3 m, Cs_R200_4 m, Cs_R200_5 m, Cs_R200_6 m, Cs_K201 m, Cs_R201_0 m, Cs_R201_1 m, Cs_K202 m, Cs_K203 m, Cs_K211 m, Cs_R211_0 m, Cs_R211_1 m, Cs_K212 m, Cs_K213 m, Cs_K214 m, Cs_R214_0 m, Cs_R214_1 m, Cs_K215 m, Cs_K216 m, Cs_K217 m, Cs_R217_0 m, Cs_R217_1 m, Cs_K218 m, Cs_K219 m, Cs_K220 m, Cs_R220_0 m, Cs_K221 m, Cs_K262 m, Cs_K271 m, Cs_R271_0 m, Cs_R271_1 m, Cs_K272 m, Cs_K276 m, Cs_R272_0 m, Cs_R276_0 m, Cs_K273 m, Cs_R273_0 m, Cs_R273_1 m, Cs_K274 m, Cs_K275 m, Cs_K277 m, Cs_R277_0 m, Cs_R277_1 m, Cs_K278 m, Cs_K279 m, Cs_R262_0 m, Cs_K263 m, Cs_R263_0 m, Cs_K264 m, Cs_R262_1 m, Cs_K265 m, Cs_R265_0 m, Cs_K266 m, Cs_R262_2 m, Cs_K267 m, Cs_R267_0 m, Cs_K268 m, Cs_R262_3 m, Cs_K269 m, Cs_R269_0 m, Cs_K270 m, Int.toNat_natCast, Int.natCast_nonneg, true_and, and_true, and_self, if_true, if_false, or_true, true_or, or_false, false_or, ne_eq, not_true_eq_false, not_false_eq_true, Nat.reduceLeDiff, Nat.reduceEqDiff, Nat.reduceLT, Nat.reduceAdd, Nat.reduceMul, Nat.reduceSub, Int.reduceLT, Int.reduceLE, Int.reduceEq, Int.reduceToNat, Int.reduceAdd, Int.reduceSub, Int.reduceMul, Int.reduceNeg, Int.cast_ofNat_Int, false_and, and_false]
        refine S_explored x w hc ?_
        intro h' se x' c' pn ps sx srx
        simp only [psh_some, rX11_soonest_18, rX11_soonest_20, rX11_soonest_22, rX11_soonest_24, rX11_soonest_25, sx.2.2.1.1, Int.toNat_natCast, Int.natCast_nonneg, true_and, and_true, and_self, if_true, if_false, or_true, true_or, or_false, false_or, ne_eq, not_true_eq_false, not_false_eq_true, Nat.reduceLeDiff, Nat.reduceEqDiff, Nat.reduceLT, Nat.reduceAdd, Nat.reduceMul, Nat.reduceSub, Int.reduceLT, Int.reduceLE, Int.reduceEq, Int.reduceToNat, Int.reduceAdd, Int.reduceSub, Int.reduceMul, Int.reduceNeg, Int.cast_ofNat_Int, false_and, and_false]
        refine S_placeOfThing (d := d + 4) w.1 w.2.1 sx.2.2.1 srx n6 ?_
        intro v hv
        simp only [psh_some, rX11_soonest_28, rX11_soonest_31, sx.2.2.1.1, S_divesTo w.1 w.2.1 sx.2.2.1 srx hv hw, Int.toNat_natCast, Int.natCast_nonneg, true_and, and_true, and_self, if_true, if_false, or_true, true_or, or_false, false_or, ne_eq, not_true_eq_false, not_false_eq_true, Nat.reduceLeDiff, Nat.reduceEqDiff, Nat.reduceLT, Nat.reduceAdd, Nat.reduceMul, Nat.reduceSub, Int.reduceLT, Int.reduceLE, Int.reduceEq, Int.reduceToNat, Int.reduceAdd, Int.reduceSub, Int.reduceMul, Int.reduceNeg, Int.cast_ofNat_Int, false_and, and_false]
        exact k h' x' c'
      · simp only [if_neg h2] at k ⊢
        rw [if_neg (by decide)]
        exact k h x (Cfr.refl h)
    · simp only [if_neg h1] at k ⊢
      rw [if_neg (by decide)]
      exact k h x (Cfr.refl h)
  · refine RSpec5.of (RSpec5.u ?_) (fun h Q hk => by simp only [rX12_soonest_0, rX12_soonest_1, rX12_soonest_2, hk, Int.toNat_natCast, Int.natCast_nonneg, true_and, and_true, and_self, if_true, if_false, or_true, true_or, or_false, false_or, ne_eq, not_true_eq_false, not_false_eq_true, Nat.reduceLeDiff, Nat.reduceEqDiff, Nat.reduceLT, Nat.reduceAdd, Nat.reduceMul, Nat.reduceSub, Int.reduceLT, Int.reduceLE, Int.reduceEq, Int.reduceToNat, Int.reduceAdd, Int.reduceSub, Int.reduceMul, Int.reduceNeg, Int.cast_ofNat_Int, false_and, and_false])
    intro h Q x _ k
    have m := x.1
    simp only [rX12_soonest_5, rX12_soonest_6, rX12_soonest_7, rX12_soonest_8, rX12_soonest_11, rX12_soonest_14, rX12_soonest_16, rX12_soonest_38, Md_K280 m, Md_R281 m, Md_K281 m, Md_R282 m, Md_K282 m, Md_R283 m, Md_K283 m, Md_R284 m, Md_K284 m, Md_R285 m, Md_K285 m, Md_R286 m, Md_K286 m, Md_R287 m, Md_K287 m, Md_R288 m, Md_K288 m, Md_R289 m, Md_K289 m, Md_R290 m, Md_K290 m, Md_R291 m, Md_K291 m, Md_R292 m, Md_K292 m, Md_R293 m, Md_K293 m, Md_R294 m, Md_K294 m, Md_R295 m, Md_K295 m, Md_R296 m, Md_K296 m, Md_R297 m, Md_K297 m, Md_R298 m, Md_K298 m, Md_R299 m, Md_K299 m, S_rThing (x.rp w), psh_some, Int.toNat_natCast, Int.natCast_nonneg, true_and, and_true, and_self, if_true, if_false, or_true, true_or, or_false, false_or, ne_eq, not_true_eq_false, not_false_eq_true, Nat.reduceLeDiff, Nat.reduceEqDiff, Nat.reduceLT, Nat.reduceAdd, Nat.reduceMul, Nat.reduceSub, Int.reduceLT, Int.reduceLE, Int.reduceEq, Int.reduceToNat, Int.reduceAdd, Int.reduceSub, Int.reduceMul, Int.reduceNeg, Int.cast_ofNat_Int, false_and, and_false]
    by_cases h1 : 0 ≤ t ∧ t < sA σ 1
    · simp only [if_pos h1] at k
      rw [if_pos h1, if_neg (by decide)]
      simp only [rX12_soonest_19, rX12_soonest_20, rX12_soonest_21, rX12_soonest_24, rX12_soonest_27, rX12_soonest_29, rX12_soonest_38, Md_K280 m, Md_R281 m, Md_K281 m, Md_R282 m, Md_K282 m, Md_R283 m, Md_K283 m, Md_R284 m, Md_K284 m, Md_R285 m, Md_K285 m, Md_R286 m, Md_K286 m, Md_R287 m, Md_K287 m, Md_R288 m, Md_K288 m, Md_R289 m, Md_K289 m, Md_R290 m, Md_K290 m, Md_R291 m, Md_K291 m, Md_R292 m, Md_K292 m, Md_R293 m, Md_K293 m, Md_R294 m, Md_K294 m, Md_R295 m, Md_K295 m, Md_R296 m, Md_K296 m, Md_R297 m, Md_K297 m, Md_R298 m, Md_K298 m, Md_R299 m, Md_K299 m, S_rSet (x.rp w), psh_some, Int.toNat_natCast, Int.natCast_nonneg, true_and, and_true, and_self, if_true, if_false, or_true, true_or, or_false, false_or, ne_eq, not_true_eq_false, not_false_eq_true, Nat.reduceLeDiff, Nat.reduceEqDiff, Nat.reduceLT, Nat.reduceAdd, Nat.reduceMul, Nat.reduceSub, Int.reduceLT, Int.reduceLE, Int.reduceEq, Int.reduceToNat, Int.reduceAdd, Int.reduceSub, Int.reduceMul, Int.reduceNeg, Int.cast_ofNat_Int, false_and, and_false]
      by_cases h2 : 0 ≤ s ∧ s < ((2 ^ (sA σ 2).toNat : Nat) : Int)
      · simp only [if_pos h2] at k
        rw [if_pos h2, if_neg (by decide)]
        obtain ⟨n, rfl⟩ := Int.eq_ofNat_of_zero_le h1.1
        obtain ⟨c, rfl, hc⟩ := rSet_n h2
        have n6 : n < 6 := by have := w.1.2.1; omega
        simp only [Int.toNat_natCast] at hw
        simp only [rX12_soonest_32, rX12_soonest_33, rX12_soonest_34, rX12_soonest_35, Md_K280 m, Md_R281 m, Md_K281 m, Md_R282 m, Md_K282 m, Md_R283 m, Md_K283 m, Md_R284 m, Md_K284 m, Md_R285 m, Md_K285 m, Md_R286 m, Md_K286 m, Md_R287 m, Md_K287 m, Md_R288 m, Md_K288 m, Md_R289 m, Md_K289 m, Md_R290 m, Md_K290 m, Md_R291 m, Md_K291 m, Md_R292 m, Md_K292 m, Md_R293 m, Md_K293 m, Md_R294 m, Md_K294 m, Md_R295 m, Md_K295 m, Md_R296 m, Md_K296 m, Md_R297 m, Md_K297 m, Md_R298 m, Md_K298 m, Md_R299 m, Md_K299 m, Int.toNat_natCast, Int.natCast_nonneg, true_and, and_true, and_self, if_true, if_false, or_true, true_or, or_false, false_or, ne_eq, not_true_eq_false, not_false_eq_true, Nat.reduceLeDiff, Nat.reduceEqDiff, Nat.reduceLT, Nat.reduceAdd, Nat.reduceMul, Nat.reduceSub, Int.reduceLT, Int.reduceLE, Int.reduceEq, Int.reduceToNat, Int.reduceAdd, Int.reduceSub, Int.reduceMul, Int.reduceNeg, Int.cast_ofNat_Int, false_and, and_false]
        refine S_comes (x.rp w) w.2.1 hc (Or.inl n6) hw ?_
        intro h' f' st
        simp only [psh_some, rX12_soonest_38]
        exact k h' (f'.mono (fun a k q => stP2_u q))
      · simp only [if_neg h2] at k
        rw [if_neg h2, if_pos (by trivial)]
        exact k h (Fp.refl _ h)
    · simp only [if_neg h1] at k
      rw [if_neg h1, if_pos (by trivial)]
      exact k h (Fp.refl _ h)
theorem B_way {d : Nat} {σ : AS} (w : WF σ) {t s i : Int} (hs : i32 s) : ∃ v, CSpec (d + 7) mX11_way [some (.inr (.inr 200)), some (.inl t), some (.inl s), some (.inl i), none, none] σ (.inl v) σ ∧ RSpec (d + 7) mX12_way [some (.inr (.inr 294)), some (.inl t), some (.inl s), some (.inl i)] σ (.inl v) σ := by
  obtain ⟨mm, ww, hw⟩ := Way_ex w.1 w.2.1 s.toNat t.toNat
  refine ⟨if 0 ≤ t ∧ t < sA σ 1 then (if (0 ≤ s ∧ s < ((2 ^ (sA σ 2).toNat : Nat) : Int)) ∧ 0 ≤ i then (if i < mm then (ww i.toNat : Int) else -1) else -3) else -2, ?_, ?_⟩
  · intro h Q x _ k
    have m := x.1.1
    simp only [rX11_way_0, rX11_way_1, rX11_way_2, rX11_way_3, rX11_way_6, rX11_way_8, rX11_way_10, rX11_way_13, rX11_way_15, Cs_K200 m, Cs_R200_0 m, Cs_R200_1 m, Cs_R200_2 m, Cs_R200_3 m, Cs_R200_4 m, Cs_R200_5 m, Cs_R200_6 m, Cs_K201 m, Cs_R201_0 m, Cs_R201_1 m, Cs_K202 m, Cs_K203 m, Cs_K211 m, Cs_R211_0 m, Cs_R211_1 m, Cs_K212 m, Cs_K213 m, Cs_K214 m, Cs_R214_0 m, Cs_R214_1 m, Cs_K215 m, Cs_K216 m, Cs_K217 m, Cs_R217_0 m, Cs_R217_1 m, Cs_K218 m, Cs_K219 m, Cs_K220 m, Cs_R220_0 m, Cs_K221 m, Cs_K262 m, Cs_K271 m, Cs_R271_0 m, Cs_R271_1 m, Cs_K272 m, Cs_K276 m, Cs_R272_0 m, Cs_R276_0 m, Cs_K273 m, Cs_R273_0 m, Cs_R273_1 m, Cs_K274 m, Cs_K275 m, Cs_K277 m, Cs_R277_0 m, Cs_R277_1 m, Cs_K278 m, Cs_K279 m, Cs_R262_0 m, Cs_K263 m, Cs_R263_0 m, Cs_K264 m, Cs_R262_1 m, Cs_K265 m, Cs_R265_0 m, Cs_K266 m, Cs_R262_2 m, Cs_K267 m, Cs_R267_0 m, Cs_K268 m, Cs_R262_3 m, Cs_K269 m, Cs_R269_0 m, Cs_K270 m, S_coming (x.cp w) hs, psh_some, Int.toNat_natCast, Int.natCast_nonneg, true_and, and_true, and_self, if_true, if_false, or_true, true_or, or_false, false_or, ne_eq, not_true_eq_false, not_false_eq_true, Nat.reduceLeDiff, Nat.reduceEqDiff, Nat.reduceLT, Nat.reduceAdd, Nat.reduceMul, Nat.reduceSub, Int.reduceLT, Int.reduceLE, Int.reduceEq, Int.reduceToNat, Int.reduceAdd, Int.reduceSub, Int.reduceMul, Int.reduceNeg, Int.cast_ofNat_Int, false_and, and_false]
    by_cases h1 : 0 ≤ t ∧ t < sA σ 1
    · simp only [if_pos h1] at k ⊢
      by_cases h2 : 0 ≤ s ∧ s < ((2 ^ (sA σ 2).toNat : Nat) : Int)
      · simp only [if_pos h2] at ⊢
        simp only [if_true, rX11_way_16, rX11_way_17, rX11_way_20, rX11_way_22]
        by_cases h3 : i < 0
        · rw [if_pos h3]
          rw [if_neg (fun q => by omega)] at k
          exact k h x (Cfr.refl h)
        · rw [if_neg h3]
          rw [if_pos ⟨h2, by omega⟩] at k
          obtain ⟨n, rfl⟩ := Int.eq_ofNat_of_zero_le h1.1
          obtain ⟨c, rfl, hc⟩ := rSet_n h2
          obtain ⟨q, rfl⟩ := Int.eq_ofNat_of_zero_le (show 0 ≤ i by omega)
          have n6 : n < 6 := by have := w.1.2.1; omega
          simp only [Int.toNat_natCast] at hw k
          simp only [rX11_way_23, rX11_way_24, rX11_way_25, Cs_K200 m, Cs_R200_0 m, Cs_R200_1 m, Cs_R200_2 m, Cs_R200_3 m, Cs_R200_4 m, Cs_R200_5 m, Cs_R200_6 m, Cs_K201 m, Cs_R201_0 m, Cs_R201_1 m, Cs_K202 m, Cs_K203 m, Cs_K211 m, Cs_R211_0 m, Cs_R211_1 m, Cs_K212 m, Cs_K213 m, Cs_K214 m, Cs_R214_0 m, Cs_R214_1 m, Cs_K215 m, Cs_K216 m, Cs_K217 m, Cs_R217_0 m, Cs_R217_1 m, Cs_K218 m, Cs_K219 m, Cs_K220 m, Cs_R220_0 m, Cs_K221 m, Cs_K262 m, Cs_K271 m, Cs_R271_0 m, Cs_R271_1 m, Cs_K272 m, Cs_K276 m, Cs_R272_0 m, Cs_R276_0 m, Cs_K273 m, Cs_R273_0 m, Cs_R273_1 m, Cs_K274 m, Cs_K275 m, Cs_K277 m, Cs_R277_0 m, Cs_R277_1 m, Cs_K278 m, Cs_K279 m, Cs_R262_0 m, Cs_K263 m, Cs_R263_0 m, Cs_K264 m, Cs_R262_1 m, Cs_K265 m, Cs_R265_0 m, Cs_K266 m, Cs_R262_2 m, Cs_K267 m, Cs_R267_0 m, Cs_K268 m, Cs_R262_3 m, Cs_K269 m, Cs_R269_0 m, Cs_K270 m, Int.toNat_natCast, Int.natCast_nonneg, true_and, and_true, and_self, if_true, if_false, or_true, true_or, or_false, false_or, ne_eq, not_true_eq_false, not_false_eq_true, Nat.reduceLeDiff, Nat.reduceEqDiff, Nat.reduceLT, Nat.reduceAdd, Nat.reduceMul, Nat.reduceSub, Int.reduceLT, Int.reduceLE, Int.reduceEq, Int.reduceToNat, Int.reduceAdd, Int.reduceSub, Int.reduceMul, Int.reduceNeg, Int.cast_ofNat_Int, false_and, and_false]
          refine S_explored x w hc ?_
          intro h' se x' c' pn ps sx srx
          simp only [psh_some, rX11_way_28, rX11_way_30, rX11_way_32, rX11_way_34, rX11_way_35, sx.2.2.1.1, Int.toNat_natCast, Int.natCast_nonneg, true_and, and_true, and_self, if_true, if_false, or_true, true_or, or_false, false_or, ne_eq, not_true_eq_false, not_false_eq_true, Nat.reduceLeDiff, Nat.reduceEqDiff, Nat.reduceLT, Nat.reduceAdd, Nat.reduceMul, Nat.reduceSub, Int.reduceLT, Int.reduceLE, Int.reduceEq, Int.reduceToNat, Int.reduceAdd, Int.reduceSub, Int.reduceMul, Int.reduceNeg, Int.cast_ofNat_Int, false_and, and_false]
          refine S_placeOfThing (d := d + 4) w.1 w.2.1 sx.2.2.1 srx n6 ?_
          intro v hv
          simp only [psh_some, rX11_way_38, rX11_way_39, sx.2.2.1.1, Int.toNat_natCast, Int.natCast_nonneg, true_and, and_true, and_self, if_true, if_false, or_true, true_or, or_false, false_or, ne_eq, not_true_eq_false, not_false_eq_true, Nat.reduceLeDiff, Nat.reduceEqDiff, Nat.reduceLT, Nat.reduceAdd, Nat.reduceMul, Nat.reduceSub, Int.reduceLT, Int.reduceLE, Int.reduceEq, Int.reduceToNat, Int.reduceAdd, Int.reduceSub, Int.reduceMul, Int.reduceNeg, Int.cast_ofNat_Int, false_and, and_false]
          refine S_goerTo w.1 w.2.1 sx.2.2.1 srx hv hw ?_
          simp only [psh_some, rX11_way_42]
          exact k h' x' c'
      · simp only [if_neg h2] at ⊢
        rw [if_neg (by decide)]
        rw [if_neg (fun q => h2 q.1)] at k
        exact k h x (Cfr.refl h)
    · simp only [if_neg h1] at k ⊢
      rw [if_neg (by decide)]
      exact k h x (Cfr.refl h)
  · refine RSpec5.of (RSpec5.u ?_) (fun h Q hk => by simp only [rX12_way_0, rX12_way_1, rX12_way_2, hk, Int.toNat_natCast, Int.natCast_nonneg, true_and, and_true, and_self, if_true, if_false, or_true, true_or, or_false, false_or, ne_eq, not_true_eq_false, not_false_eq_true, Nat.reduceLeDiff, Nat.reduceEqDiff, Nat.reduceLT, Nat.reduceAdd, Nat.reduceMul, Nat.reduceSub, Int.reduceLT, Int.reduceLE, Int.reduceEq, Int.reduceToNat, Int.reduceAdd, Int.reduceSub, Int.reduceMul, Int.reduceNeg, Int.cast_ofNat_Int, false_and, and_false])
    intro h Q x _ k
    have m := x.1
    simp only [rX12_way_5, rX12_way_6, rX12_way_7, rX12_way_8, rX12_way_11, rX12_way_14, rX12_way_16, rX12_way_43, Md_K280 m, Md_R281 m, Md_K281 m, Md_R282 m, Md_K282 m, Md_R283 m, Md_K283 m, Md_R284 m, Md_K284 m, Md_R285 m, Md_K285 m, Md_R286 m, Md_K286 m, Md_R287 m, Md_K287 m, Md_R288 m, Md_K288 m, Md_R289 m, Md_K289 m, Md_R290 m, Md_K290 m, Md_R291 m, Md_K291 m, Md_R292 m, Md_K292 m, Md_R293 m, Md_K293 m, Md_R294 m, Md_K294 m, Md_R295 m, Md_K295 m, Md_R296 m, Md_K296 m, Md_R297 m, Md_K297 m, Md_R298 m, Md_K298 m, Md_R299 m, Md_K299 m, S_rThing (x.rp w), psh_some, Int.toNat_natCast, Int.natCast_nonneg, true_and, and_true, and_self, if_true, if_false, or_true, true_or, or_false, false_or, ne_eq, not_true_eq_false, not_false_eq_true, Nat.reduceLeDiff, Nat.reduceEqDiff, Nat.reduceLT, Nat.reduceAdd, Nat.reduceMul, Nat.reduceSub, Int.reduceLT, Int.reduceLE, Int.reduceEq, Int.reduceToNat, Int.reduceAdd, Int.reduceSub, Int.reduceMul, Int.reduceNeg, Int.cast_ofNat_Int, false_and, and_false]
    by_cases h1 : 0 ≤ t ∧ t < sA σ 1
    · simp only [if_pos h1] at k
      rw [if_pos h1, if_neg (by decide)]
      simp only [rX12_way_19, rX12_way_20, rX12_way_21, rX12_way_24, rX12_way_27, rX12_way_28, rX12_way_31, rX12_way_33, rX12_way_43, Md_K280 m, Md_R281 m, Md_K281 m, Md_R282 m, Md_K282 m, Md_R283 m, Md_K283 m, Md_R284 m, Md_K284 m, Md_R285 m, Md_K285 m, Md_R286 m, Md_K286 m, Md_R287 m, Md_K287 m, Md_R288 m, Md_K288 m, Md_R289 m, Md_K289 m, Md_R290 m, Md_K290 m, Md_R291 m, Md_K291 m, Md_R292 m, Md_K292 m, Md_R293 m, Md_K293 m, Md_R294 m, Md_K294 m, Md_R295 m, Md_K295 m, Md_R296 m, Md_K296 m, Md_R297 m, Md_K297 m, Md_R298 m, Md_K298 m, Md_R299 m, Md_K299 m, S_rSet (x.rp w), psh_some, Int.toNat_natCast, Int.natCast_nonneg, true_and, and_true, and_self, if_true, if_false, or_true, true_or, or_false, false_or, ne_eq, not_true_eq_false, not_false_eq_true, Nat.reduceLeDiff, Nat.reduceEqDiff, Nat.reduceLT, Nat.reduceAdd, Nat.reduceMul, Nat.reduceSub, Int.reduceLT, Int.reduceLE, Int.reduceEq, Int.reduceToNat, Int.reduceAdd, Int.reduceSub, Int.reduceMul, Int.reduceNeg, Int.cast_ofNat_Int, false_and, and_false]
      by_cases h2 : 0 ≤ s ∧ s < ((2 ^ (sA σ 2).toNat : Nat) : Int)
      · rw [if_pos h2, if_neg (by decide)]
        by_cases h3 : i < 0
        · rw [if_pos h3]
          rw [if_neg (fun q => by omega)] at k
          exact k h (Fp.refl _ h)
        · rw [if_neg h3]
          rw [if_pos ⟨h2, by omega⟩] at k
          obtain ⟨n, rfl⟩ := Int.eq_ofNat_of_zero_le h1.1
          obtain ⟨c, rfl, hc⟩ := rSet_n h2
          obtain ⟨q, rfl⟩ := Int.eq_ofNat_of_zero_le (show 0 ≤ i by omega)
          have n6 : n < 6 := by have := w.1.2.1; omega
          simp only [Int.toNat_natCast] at hw k
          simp only [rX12_way_36, rX12_way_37, rX12_way_38, rX12_way_39, rX12_way_40, Md_K280 m, Md_R281 m, Md_K281 m, Md_R282 m, Md_K282 m, Md_R283 m, Md_K283 m, Md_R284 m, Md_K284 m, Md_R285 m, Md_K285 m, Md_R286 m, Md_K286 m, Md_R287 m, Md_K287 m, Md_R288 m, Md_K288 m, Md_R289 m, Md_K289 m, Md_R290 m, Md_K290 m, Md_R291 m, Md_K291 m, Md_R292 m, Md_K292 m, Md_R293 m, Md_K293 m, Md_R294 m, Md_K294 m, Md_R295 m, Md_K295 m, Md_R296 m, Md_K296 m, Md_R297 m, Md_K297 m, Md_R298 m, Md_K298 m, Md_R299 m, Md_K299 m, Int.toNat_natCast, Int.natCast_nonneg, true_and, and_true, and_self, if_true, if_false, or_true, true_or, or_false, false_or, ne_eq, not_true_eq_false, not_false_eq_true, Nat.reduceLeDiff, Nat.reduceEqDiff, Nat.reduceLT, Nat.reduceAdd, Nat.reduceMul, Nat.reduceSub, Int.reduceLT, Int.reduceLE, Int.reduceEq, Int.reduceToNat, Int.reduceAdd, Int.reduceSub, Int.reduceMul, Int.reduceNeg, Int.cast_ofNat_Int, false_and, and_false]
          refine S_goerAt (x.rp w) w.2.1 hc (Or.inl n6) hw ?_
          intro h' f'
          simp only [psh_some, rX12_way_43]
          exact k h' (f'.mono (fun a k q => stP2_u q))
      · rw [if_neg h2, if_pos (by trivial)]
        rw [if_neg (fun q => h2 q.1)] at k
        exact k h (Fp.refl _ h)
    · simp only [if_neg h1] at k
      rw [if_neg h1, if_pos (by trivial)]
      exact k h (Fp.refl _ h)
theorem B_tells {d : Nat} {σ : AS} (w : WF σ) {n s : Int} (hs : i32 s) : ∃ v, CSpec (d + 7) mX11_tells [some (.inr (.inr 200)), some (.inl n), some (.inl s), none] σ (.inl v) σ ∧ RSpec (d + 6) mX12_tells [some (.inr (.inr 294)), some (.inl n), some (.inl s)] σ (.inl v) σ := by
  obtain ⟨mm, ww, hw⟩ := Way_ex w.1 w.2.1 s.toNat (100 + n.toNat)
  refine ⟨if (0 ≤ n ∧ n ≤ 99) ∧ 0 ≤ s ∧ s < ((2 ^ (sA σ 2).toNat : Nat) : Int) then mm else -3, ?_, ?_⟩
  · intro h Q x _ k
    have m := x.1.1
    have no : ¬ ((0 ≤ n ∧ n ≤ 99) ∧ 0 ≤ s ∧ s < ((2 ^ (sA σ 2).toNat : Nat) : Int)) → Q (some (.inl (-3))) h := fun hn => by
      rw [if_neg hn] at k; exact k h x (Cfr.refl h)
    simp only [rX11_tells_0, rX11_tells_1, rX11_tells_4, rX11_tells_5, rX11_tells_7, rX11_tells_10, rX11_tells_11, rX11_tells_12, rX11_tells_15, rX11_tells_18, rX11_tells_20, Cs_K200 m, Cs_R200_0 m, Cs_R200_1 m, Cs_R200_2 m, Cs_R200_3 m, Cs_R200_4 m, Cs_R200_5 m, Cs_R200_6 m, Cs_K201 m, Cs_R201_0 m, Cs_R201_1 m, Cs_K202 m, Cs_K203 m, Cs_K211 m, Cs_R211_0 m, Cs_R211_1 m, Cs_K212 m, Cs_K213 m, Cs_K214 m, Cs_R214_0 m, Cs_R214_1 m, Cs_K215 m, Cs_K216 m, Cs_K217 m, Cs_R217_0 m, Cs_R217_1 m, Cs_K218 m, Cs_K219 m, Cs_K220 m, Cs_R220_0 m, Cs_K221 m, Cs_K262 m, Cs_K271 m, Cs_R271_0 m, Cs_R271_1 m, Cs_K272 m, Cs_K276 m, Cs_R272_0 m, Cs_R276_0 m, Cs_K273 m, Cs_R273_0 m, Cs_R273_1 m, Cs_K274 m, Cs_K275 m, Cs_K277 m, Cs_R277_0 m, Cs_R277_1 m, Cs_K278 m, Cs_K279 m, Cs_R262_0 m, Cs_K263 m, Cs_R263_0 m, Cs_K264 m, Cs_R262_1 m, Cs_K265 m, Cs_R265_0 m, Cs_K266 m, Cs_R262_2 m, Cs_K267 m, Cs_R267_0 m, Cs_K268 m, Cs_R262_3 m, Cs_K269 m, Cs_R269_0 m, Cs_K270 m, S_cSet (x.cp w) hs, psh_some, Int.toNat_natCast, Int.natCast_nonneg, true_and, and_true, and_self, if_true, if_false, or_true, true_or, or_false, false_or, ne_eq, not_true_eq_false, not_false_eq_true, Nat.reduceLeDiff, Nat.reduceEqDiff, Nat.reduceLT, Nat.reduceAdd, Nat.reduceMul, Nat.reduceSub, Int.reduceLT, Int.reduceLE, Int.reduceEq, Int.reduceToNat, Int.reduceAdd, Int.reduceSub, Int.reduceMul, Int.reduceNeg, Int.cast_ofNat_Int, false_and, and_false]
    by_cases h1 : n < 0
    · rw [if_pos h1]; exact no (by omega)
    rw [if_neg h1]
    by_cases h2 : 99 < n
    · rw [if_pos h2]; exact no (by omega)
    rw [if_neg h2]
    by_cases h3 : 0 ≤ s ∧ s < ((2 ^ (sA σ 2).toNat : Nat) : Int)
    · rw [if_pos h3, if_neg (by decide)]
      rw [if_pos ⟨by omega, h3⟩] at k
      obtain ⟨q, rfl⟩ := Int.eq_ofNat_of_zero_le (show 0 ≤ n by omega)
      obtain ⟨c, rfl, hc⟩ := rSet_n h3
      simp only [Int.toNat_natCast] at hw
      simp only [rX11_tells_21, rX11_tells_22, rX11_tells_23, Cs_K200 m, Cs_R200_0 m, Cs_R200_1 m, Cs_R200_2 m, Cs_R200_3 m, Cs_R200_4 m, Cs_R200_5 m, Cs_R200_6 m, Cs_K201 m, Cs_R201_0 m, Cs_R201_1 m, Cs_K202 m, Cs_K203 m, Cs_K211 m, Cs_R211_0 m, Cs_R211_1 m, Cs_K212 m, Cs_K213 m, Cs_K214 m, Cs_R214_0 m, Cs_R214_1 m, Cs_K215 m, Cs_K216 m, Cs_K217 m, Cs_R217_0 m, Cs_R217_1 m, Cs_K218 m, Cs_K219 m, Cs_K220 m, Cs_R220_0 m, Cs_K221 m, Cs_K262 m, Cs_K271 m, Cs_R271_0 m, Cs_R271_1 m, Cs_K272 m, Cs_K276 m, Cs_R272_0 m, Cs_R276_0 m, Cs_K273 m, Cs_R273_0 m, Cs_R273_1 m, Cs_K274 m, Cs_K275 m, Cs_K277 m, Cs_R277_0 m, Cs_R277_1 m, Cs_K278 m, Cs_K279 m, Cs_R262_0 m, Cs_K263 m, Cs_R263_0 m, Cs_K264 m, Cs_R262_1 m, Cs_K265 m, Cs_R265_0 m, Cs_K266 m, Cs_R262_2 m, Cs_K267 m, Cs_R267_0 m, Cs_K268 m, Cs_R262_3 m, Cs_K269 m, Cs_R269_0 m, Cs_K270 m, Int.toNat_natCast, Int.natCast_nonneg, true_and, and_true, and_self, if_true, if_false, or_true, true_or, or_false, false_or, ne_eq, not_true_eq_false, not_false_eq_true, Nat.reduceLeDiff, Nat.reduceEqDiff, Nat.reduceLT, Nat.reduceAdd, Nat.reduceMul, Nat.reduceSub, Int.reduceLT, Int.reduceLE, Int.reduceEq, Int.reduceToNat, Int.reduceAdd, Int.reduceSub, Int.reduceMul, Int.reduceNeg, Int.cast_ofNat_Int, false_and, and_false]
      refine S_explored x w hc ?_
      intro h' se x' c' pn ps sx srx
      simp only [psh_some, rX11_tells_26, rX11_tells_27, rX11_tells_28, rX11_tells_29, rX11_tells_30, sx.2.2.1.1, Int.toNat_natCast, Int.natCast_nonneg, true_and, and_true, and_self, if_true, if_false, or_true, true_or, or_false, false_or, ne_eq, not_true_eq_false, not_false_eq_true, Nat.reduceLeDiff, Nat.reduceEqDiff, Nat.reduceLT, Nat.reduceAdd, Nat.reduceMul, Nat.reduceSub, Int.reduceLT, Int.reduceLE, Int.reduceEq, Int.reduceToNat, Int.reduceAdd, Int.reduceSub, Int.reduceMul, Int.reduceNeg, Int.cast_ofNat_Int, false_and, and_false]
      refine S_placeOfBoard (d := d + 4) w.1 w.2.1 sx.2.2.1 srx ?_
      intro v hv
      simp only [psh_some, rX11_tells_33, rX11_tells_36, sx.2.2.1.1, S_divesTo w.1 w.2.1 sx.2.2.1 srx hv hw, Int.toNat_natCast, Int.natCast_nonneg, true_and, and_true, and_self, if_true, if_false, or_true, true_or, or_false, false_or, ne_eq, not_true_eq_false, not_false_eq_true, Nat.reduceLeDiff, Nat.reduceEqDiff, Nat.reduceLT, Nat.reduceAdd, Nat.reduceMul, Nat.reduceSub, Int.reduceLT, Int.reduceLE, Int.reduceEq, Int.reduceToNat, Int.reduceAdd, Int.reduceSub, Int.reduceMul, Int.reduceNeg, Int.cast_ofNat_Int, false_and, and_false]
      exact k h' x' c'
    · rw [if_neg h3, if_pos (by trivial)]
      exact no (fun q => h3 q.2)
  · refine RSpec5.of (RSpec5.u ?_) (fun h Q hk => by simp only [rX12_tells_0, rX12_tells_1, rX12_tells_2, hk, Int.toNat_natCast, Int.natCast_nonneg, true_and, and_true, and_self, if_true, if_false, or_true, true_or, or_false, false_or, ne_eq, not_true_eq_false, not_false_eq_true, Nat.reduceLeDiff, Nat.reduceEqDiff, Nat.reduceLT, Nat.reduceAdd, Nat.reduceMul, Nat.reduceSub, Int.reduceLT, Int.reduceLE, Int.reduceEq, Int.reduceToNat, Int.reduceAdd, Int.reduceSub, Int.reduceMul, Int.reduceNeg, Int.cast_ofNat_Int, false_and, and_false])
    intro h Q x _ k
    have m := x.1
    have no : ¬ ((0 ≤ n ∧ n ≤ 99) ∧ 0 ≤ s ∧ s < ((2 ^ (sA σ 2).toNat : Nat) : Int)) → Q (some (.inl (-3))) h := fun hn => by
      rw [if_neg hn] at k; exact k h (Fp.refl _ h)
    simp only [rX12_tells_5, rX12_tells_6, rX12_tells_7, rX12_tells_8, rX12_tells_11, rX12_tells_14, rX12_tells_17, rX12_tells_18, rX12_tells_19, rX12_tells_22, rX12_tells_25, rX12_tells_27, rX12_tells_39, Md_K280 m, Md_R281 m, Md_K281 m, Md_R282 m, Md_K282 m, Md_R283 m, Md_K283 m, Md_R284 m, Md_K284 m, Md_R285 m, Md_K285 m, Md_R286 m, Md_K286 m, Md_R287 m, Md_K287 m, Md_R288 m, Md_K288 m, Md_R289 m, Md_K289 m, Md_R290 m, Md_K290 m, Md_R291 m, Md_K291 m, Md_R292 m, Md_K292 m, Md_R293 m, Md_K293 m, Md_R294 m, Md_K294 m, Md_R295 m, Md_K295 m, Md_R296 m, Md_K296 m, Md_R297 m, Md_K297 m, Md_R298 m, Md_K298 m, Md_R299 m, Md_K299 m, S_within, S_rSet (x.rp w), psh_some, Int.toNat_natCast, Int.natCast_nonneg, true_and, and_true, and_self, if_true, if_false, or_true, true_or, or_false, false_or, ne_eq, not_true_eq_false, not_false_eq_true, Nat.reduceLeDiff, Nat.reduceEqDiff, Nat.reduceLT, Nat.reduceAdd, Nat.reduceMul, Nat.reduceSub, Int.reduceLT, Int.reduceLE, Int.reduceEq, Int.reduceToNat, Int.reduceAdd, Int.reduceSub, Int.reduceMul, Int.reduceNeg, Int.cast_ofNat_Int, false_and, and_false]
    by_cases h1 : 0 ≤ n ∧ n ≤ 99
    · rw [if_pos h1, if_neg (by decide)]
      by_cases h3 : 0 ≤ s ∧ s < ((2 ^ (sA σ 2).toNat : Nat) : Int)
      · rw [if_pos h3, if_neg (by decide)]
        rw [if_pos ⟨h1, h3⟩] at k
        obtain ⟨q, rfl⟩ := Int.eq_ofNat_of_zero_le h1.1
        obtain ⟨c, rfl, hc⟩ := rSet_n h3
        simp only [Int.toNat_natCast] at hw
        simp only [rX12_tells_30, rX12_tells_31, rX12_tells_33, rX12_tells_34, rX12_tells_35, rX12_tells_36, Md_K280 m, Md_R281 m, Md_K281 m, Md_R282 m, Md_K282 m, Md_R283 m, Md_K283 m, Md_R284 m, Md_K284 m, Md_R285 m, Md_K285 m, Md_R286 m, Md_K286 m, Md_R287 m, Md_K287 m, Md_R288 m, Md_K288 m, Md_R289 m, Md_K289 m, Md_R290 m, Md_K290 m, Md_R291 m, Md_K291 m, Md_R292 m, Md_K292 m, Md_R293 m, Md_K293 m, Md_R294 m, Md_K294 m, Md_R295 m, Md_K295 m, Md_R296 m, Md_K296 m, Md_R297 m, Md_K297 m, Md_R298 m, Md_K298 m, Md_R299 m, Md_K299 m, w32_la (l := q) 100 (100 + q) (by omega) (by omega), Int.toNat_natCast, Int.natCast_nonneg, true_and, and_true, and_self, if_true, if_false, or_true, true_or, or_false, false_or, ne_eq, not_true_eq_false, not_false_eq_true, Nat.reduceLeDiff, Nat.reduceEqDiff, Nat.reduceLT, Nat.reduceAdd, Nat.reduceMul, Nat.reduceSub, Int.reduceLT, Int.reduceLE, Int.reduceEq, Int.reduceToNat, Int.reduceAdd, Int.reduceSub, Int.reduceMul, Int.reduceNeg, Int.cast_ofNat_Int, false_and, and_false]
        refine S_comes (x.rp w) w.2.1 hc (Or.inr (by omega)) hw ?_
        intro h' f' st
        simp only [psh_some, rX12_tells_39]
        exact k h' (f'.mono (fun a k q => stP2_u q))
      · rw [if_neg h3, if_pos (by trivial)]
        exact no (fun q => h3 q.2)
    · rw [if_neg h1, if_pos (by trivial)]
      exact no (fun q => h1 q.1)
theorem B_tellsBy {d : Nat} {σ : AS} (w : WF σ) {n s i : Int} (hs : i32 s) : ∃ v, CSpec (d + 7) mX11_tellsBy [some (.inr (.inr 200)), some (.inl n), some (.inl s), some (.inl i), none] σ (.inl v) σ ∧ RSpec (d + 7) mX12_tellsBy [some (.inr (.inr 294)), some (.inl n), some (.inl s), some (.inl i)] σ (.inl v) σ := by
  obtain ⟨mm, ww, hw⟩ := Way_ex w.1 w.2.1 s.toNat (100 + n.toNat)
  refine ⟨if (0 ≤ n ∧ n ≤ 99) ∧ (0 ≤ s ∧ s < ((2 ^ (sA σ 2).toNat : Nat) : Int)) ∧ 0 ≤ i then (if i < mm then (ww i.toNat : Int) else -1) else -3, ?_, ?_⟩
  · intro h Q x _ k
    have m := x.1.1
    have no : ¬ ((0 ≤ n ∧ n ≤ 99) ∧ (0 ≤ s ∧ s < ((2 ^ (sA σ 2).toNat : Nat) : Int)) ∧ 0 ≤ i) → Q (some (.inl (-3))) h := fun hn => by
      rw [if_neg hn] at k; exact k h x (Cfr.refl h)
    simp only [rX11_tellsBy_0, rX11_tellsBy_1, rX11_tellsBy_4, rX11_tellsBy_5, rX11_tellsBy_7, rX11_tellsBy_10, rX11_tellsBy_11, rX11_tellsBy_12, rX11_tellsBy_15, rX11_tellsBy_18, rX11_tellsBy_19, rX11_tellsBy_22, rX11_tellsBy_24, Cs_K200 m, Cs_R200_0 m, Cs_R200_1 m, Cs_R200_2 m, Cs_R200_3 m, Cs_R200_4 m, Cs_R200_5 m, Cs_R200_6 m, Cs_K201 m, Cs_R201_0 m, Cs_R201_1 m, Cs_K202 m, Cs_K203 m, Cs_K211 m, Cs_R211_0 m, Cs_R211_1 m, Cs_K212 m, Cs_K213 m, Cs_K214 m, Cs_R214_0 m, Cs_R214_1 m, Cs_K215 m, Cs_K216 m, Cs_K217 m, Cs_R217_0 m, Cs_R217_1 m, Cs_K218 m, Cs_K219 m, Cs_K220 m, Cs_R220_0 m, Cs_K221 m, Cs_K262 m, Cs_K271 m, Cs_R271_0 m, Cs_R271_1 m, Cs_K272 m, Cs_K276 m, Cs_R272_0 m, Cs_R276_0 m, Cs_K273 m, Cs_R273_0 m, Cs_R273_1 m, Cs_K274 m, Cs_K275 m, Cs_K277 m, Cs_R277_0 m, Cs_R277_1 m, Cs_K278 m, Cs_K279 m, Cs_R262_0 m, Cs_K263 m, Cs_R263_0 m, Cs_K264 m, Cs_R262_1 m, Cs_K265 m, Cs_R265_0 m, Cs_K266 m, Cs_R262_2 m, Cs_K267 m, Cs_R267_0 m, Cs_K268 m, Cs_R262_3 m, Cs_K269 m, Cs_R269_0 m, Cs_K270 m, S_cSet (x.cp w) hs, psh_some, Int.toNat_natCast, Int.natCast_nonneg, true_and, and_true, and_self, if_true, if_false, or_true, true_or, or_false, false_or, ne_eq, not_true_eq_false, not_false_eq_true, Nat.reduceLeDiff, Nat.reduceEqDiff, Nat.reduceLT, Nat.reduceAdd, Nat.reduceMul, Nat.reduceSub, Int.reduceLT, Int.reduceLE, Int.reduceEq, Int.reduceToNat, Int.reduceAdd, Int.reduceSub, Int.reduceMul, Int.reduceNeg, Int.cast_ofNat_Int, false_and, and_false]
    by_cases h1 : n < 0
    · rw [if_pos h1]; exact no (by omega)
    rw [if_neg h1]
    by_cases h2 : 99 < n
    · rw [if_pos h2]; exact no (by omega)
    rw [if_neg h2]
    by_cases h3 : 0 ≤ s ∧ s < ((2 ^ (sA σ 2).toNat : Nat) : Int)
    · rw [if_pos h3, if_neg (by decide)]
      by_cases h4 : i < 0
      · rw [if_pos h4]; exact no (by omega)
      rw [if_neg h4]
      rw [if_pos ⟨by omega, h3, by omega⟩] at k
      obtain ⟨q, rfl⟩ := Int.eq_ofNat_of_zero_le (show 0 ≤ n by omega)
      obtain ⟨c, rfl, hc⟩ := rSet_n h3
      obtain ⟨r, rfl⟩ := Int.eq_ofNat_of_zero_le (show 0 ≤ i by omega)
      simp only [Int.toNat_natCast] at hw k
      simp only [rX11_tellsBy_25, rX11_tellsBy_26, rX11_tellsBy_27, Cs_K200 m, Cs_R200_0 m, Cs_R200_1 m, Cs_R200_2 m, Cs_R200_3 m, Cs_R200_4 m, Cs_R200_5 m, Cs_R200_6 m, Cs_K201 m, Cs_R201_0 m, Cs_R201_1 m, Cs_K202 m, Cs_K203 m, Cs_K211 m, Cs_R211_0 m, Cs_R211_1 m, Cs_K212 m, Cs_K213 m, Cs_K214 m, Cs_R214_0 m, Cs_R214_1 m, Cs_K215 m, Cs_K216 m, Cs_K217 m, Cs_R217_0 m, Cs_R217_1 m, Cs_K218 m, Cs_K219 m, Cs_K220 m, Cs_R220_0 m, Cs_K221 m, Cs_K262 m, Cs_K271 m, Cs_R271_0 m, Cs_R271_1 m, Cs_K272 m, Cs_K276 m, Cs_R272_0 m, Cs_R276_0 m, Cs_K273 m, Cs_R273_0 m, Cs_R273_1 m, Cs_K274 m, Cs_K275 m, Cs_K277 m, Cs_R277_0 m, Cs_R277_1 m, Cs_K278 m, Cs_K279 m, Cs_R262_0 m, Cs_K263 m, Cs_R263_0 m, Cs_K264 m, Cs_R262_1 m, Cs_K265 m, Cs_R265_0 m, Cs_K266 m, Cs_R262_2 m, Cs_K267 m, Cs_R267_0 m, Cs_K268 m, Cs_R262_3 m, Cs_K269 m, Cs_R269_0 m, Cs_K270 m, Int.toNat_natCast, Int.natCast_nonneg, true_and, and_true, and_self, if_true, if_false, or_true, true_or, or_false, false_or, ne_eq, not_true_eq_false, not_false_eq_true, Nat.reduceLeDiff, Nat.reduceEqDiff, Nat.reduceLT, Nat.reduceAdd, Nat.reduceMul, Nat.reduceSub, Int.reduceLT, Int.reduceLE, Int.reduceEq, Int.reduceToNat, Int.reduceAdd, Int.reduceSub, Int.reduceMul, Int.reduceNeg, Int.cast_ofNat_Int, false_and, and_false]
      refine S_explored x w hc ?_
      intro h' se x' c' pn ps sx srx
      simp only [psh_some, rX11_tellsBy_30, rX11_tellsBy_32, rX11_tellsBy_34, rX11_tellsBy_36, rX11_tellsBy_37, sx.2.2.1.1, Int.toNat_natCast, Int.natCast_nonneg, true_and, and_true, and_self, if_true, if_false, or_true, true_or, or_false, false_or, ne_eq, not_true_eq_false, not_false_eq_true, Nat.reduceLeDiff, Nat.reduceEqDiff, Nat.reduceLT, Nat.reduceAdd, Nat.reduceMul, Nat.reduceSub, Int.reduceLT, Int.reduceLE, Int.reduceEq, Int.reduceToNat, Int.reduceAdd, Int.reduceSub, Int.reduceMul, Int.reduceNeg, Int.cast_ofNat_Int, false_and, and_false]
      refine S_placeOfBoard (d := d + 4) w.1 w.2.1 sx.2.2.1 srx ?_
      intro v hv
      simp only [psh_some, rX11_tellsBy_40, rX11_tellsBy_41, sx.2.2.1.1, Int.toNat_natCast, Int.natCast_nonneg, true_and, and_true, and_self, if_true, if_false, or_true, true_or, or_false, false_or, ne_eq, not_true_eq_false, not_false_eq_true, Nat.reduceLeDiff, Nat.reduceEqDiff, Nat.reduceLT, Nat.reduceAdd, Nat.reduceMul, Nat.reduceSub, Int.reduceLT, Int.reduceLE, Int.reduceEq, Int.reduceToNat, Int.reduceAdd, Int.reduceSub, Int.reduceMul, Int.reduceNeg, Int.cast_ofNat_Int, false_and, and_false]
      refine S_goerTo w.1 w.2.1 sx.2.2.1 srx hv hw ?_
      simp only [psh_some, rX11_tellsBy_44]
      exact k h' x' c'
    · rw [if_neg h3, if_pos (by trivial)]
      exact no (fun q => h3 q.2.1)
  · refine RSpec5.of (RSpec5.u ?_) (fun h Q hk => by simp only [rX12_tellsBy_0, rX12_tellsBy_1, rX12_tellsBy_2, hk, Int.toNat_natCast, Int.natCast_nonneg, true_and, and_true, and_self, if_true, if_false, or_true, true_or, or_false, false_or, ne_eq, not_true_eq_false, not_false_eq_true, Nat.reduceLeDiff, Nat.reduceEqDiff, Nat.reduceLT, Nat.reduceAdd, Nat.reduceMul, Nat.reduceSub, Int.reduceLT, Int.reduceLE, Int.reduceEq, Int.reduceToNat, Int.reduceAdd, Int.reduceSub, Int.reduceMul, Int.reduceNeg, Int.cast_ofNat_Int, false_and, and_false])
    intro h Q x _ k
    have m := x.1
    have no : ¬ ((0 ≤ n ∧ n ≤ 99) ∧ (0 ≤ s ∧ s < ((2 ^ (sA σ 2).toNat : Nat) : Int)) ∧ 0 ≤ i) → Q (some (.inl (-3))) h := fun hn => by
      rw [if_neg hn] at k; exact k h (Fp.refl _ h)
    simp only [rX12_tellsBy_5, rX12_tellsBy_6, rX12_tellsBy_7, rX12_tellsBy_8, rX12_tellsBy_11, rX12_tellsBy_14, rX12_tellsBy_17, rX12_tellsBy_18, rX12_tellsBy_19, rX12_tellsBy_22, rX12_tellsBy_25, rX12_tellsBy_26, rX12_tellsBy_29, rX12_tellsBy_31, rX12_tellsBy_44, Md_K280 m, Md_R281 m, Md_K281 m, Md_R282 m, Md_K282 m, Md_R283 m, Md_K283 m, Md_R284 m, Md_K284 m, Md_R285 m, Md_K285 m, Md_R286 m, Md_K286 m, Md_R287 m, Md_K287 m, Md_R288 m, Md_K288 m, Md_R289 m, Md_K289 m, Md_R290 m, Md_K290 m, Md_R291 m, Md_K291 m, Md_R292 m, Md_K292 m, Md_R293 m, Md_K293 m, Md_R294 m, Md_K294 m, Md_R295 m, Md_K295 m, Md_R296 m, Md_K296 m, Md_R297 m, Md_K297 m, Md_R298 m, Md_K298 m, Md_R299 m, Md_K299 m, S_within, S_rSet (x.rp w), psh_some, Int.toNat_natCast, Int.natCast_nonneg, true_and, and_true, and_self, if_true, if_false, or_true, true_or, or_false, false_or, ne_eq, not_true_eq_false, not_false_eq_true, Nat.reduceLeDiff, Nat.reduceEqDiff, Nat.reduceLT, Nat.reduceAdd, Nat.reduceMul, Nat.reduceSub, Int.reduceLT, Int.reduceLE, Int.reduceEq, Int.reduceToNat, Int.reduceAdd, Int.reduceSub, Int.reduceMul, Int.reduceNeg, Int.cast_ofNat_Int, false_and, and_false]
    by_cases h1 : 0 ≤ n ∧ n ≤ 99
    · rw [if_pos h1, if_neg (by decide)]
      by_cases h3 : 0 ≤ s ∧ s < ((2 ^ (sA σ 2).toNat : Nat) : Int)
      · rw [if_pos h3, if_neg (by decide)]
        by_cases h4 : i < 0
        · rw [if_pos h4]; exact no (by omega)
        rw [if_neg h4]
        rw [if_pos ⟨h1, h3, by omega⟩] at k
        obtain ⟨q, rfl⟩ := Int.eq_ofNat_of_zero_le h1.1
        obtain ⟨c, rfl, hc⟩ := rSet_n h3
        obtain ⟨r, rfl⟩ := Int.eq_ofNat_of_zero_le (show 0 ≤ i by omega)
        simp only [Int.toNat_natCast] at hw k
        simp only [rX12_tellsBy_34, rX12_tellsBy_35, rX12_tellsBy_37, rX12_tellsBy_38, rX12_tellsBy_39, rX12_tellsBy_40, rX12_tellsBy_41, Md_K280 m, Md_R281 m, Md_K281 m, Md_R282 m, Md_K282 m, Md_R283 m, Md_K283 m, Md_R284 m, Md_K284 m, Md_R285 m, Md_K285 m, Md_R286 m, Md_K286 m, Md_R287 m, Md_K287 m, Md_R288 m, Md_K288 m, Md_R289 m, Md_K289 m, Md_R290 m, Md_K290 m, Md_R291 m, Md_K291 m, Md_R292 m, Md_K292 m, Md_R293 m, Md_K293 m, Md_R294 m, Md_K294 m, Md_R295 m, Md_K295 m, Md_R296 m, Md_K296 m, Md_R297 m, Md_K297 m, Md_R298 m, Md_K298 m, Md_R299 m, Md_K299 m, w32_la (l := q) 100 (100 + q) (by omega) (by omega), Int.toNat_natCast, Int.natCast_nonneg, true_and, and_true, and_self, if_true, if_false, or_true, true_or, or_false, false_or, ne_eq, not_true_eq_false, not_false_eq_true, Nat.reduceLeDiff, Nat.reduceEqDiff, Nat.reduceLT, Nat.reduceAdd, Nat.reduceMul, Nat.reduceSub, Int.reduceLT, Int.reduceLE, Int.reduceEq, Int.reduceToNat, Int.reduceAdd, Int.reduceSub, Int.reduceMul, Int.reduceNeg, Int.cast_ofNat_Int, false_and, and_false]
        refine S_goerAt (x.rp w) w.2.1 hc (Or.inr (by omega)) hw ?_
        intro h' f'
        simp only [psh_some, rX12_tellsBy_44]
        exact k h' (f'.mono (fun a k q => stP2_u q))
      · rw [if_neg h3, if_pos (by trivial)]
        exact no (fun q => h3 q.2.1)
    · rw [if_neg h1, if_pos (by trivial)]
      exact no (fun q => h1 q.1)
