/-! what calls over posted numbers are refused for -/
theorem lt_one {q i : Nat} (h : q < i + 1) (hn : q ≠ i) : q < i := by omega
theorem S_cPosted {d : Nat} {Q : Option PV → Hp → Prop} {h : Hp} {σ : AS} (m : CsOk h) (tr : TrayIs h σ) {t : Int} (k : Q (some (.inl (poV σ t))) h) : WP (d + 1) mX11_postedRefused 0 [some (.inr (.inr 200)), some (.inl t), none, none] [] h Q := by
  unfold poV at k
  simp only [rX11_postedRefused_0, rX11_postedRefused_1, rX11_postedRefused_2, rX11_postedRefused_5, rX11_postedRefused_8, rX11_postedRefused_10, Cs_K200 m, Int.toNat_natCast, Int.natCast_nonneg, true_and, and_true, and_self, if_true, if_false, or_true, true_or, or_false, false_or, ne_eq, not_true_eq_false, not_false_eq_true, Nat.reduceLeDiff, Nat.reduceEqDiff, Nat.reduceLT, Nat.reduceAdd, Nat.reduceMul, Nat.reduceSub, Int.reduceLT, Int.reduceLE, Int.reduceEq, Int.reduceToNat, Int.reduceAdd, Int.reduceSub, Int.reduceMul, Int.reduceNeg, Int.cast_ofNat_Int, false_and, and_false, S_cTray m, psh_some]
  by_cases h1 : 0 ≤ t ∧ t < 4
  · simp only [if_pos h1] at k
    rw [if_pos h1, if_neg (by decide)]
    obtain ⟨j, rfl⟩ := Int.eq_ofNat_of_zero_le h1.1
    have j4 : j < 4 := by omega
    have j4' : (j : Int) < 4 := by omega
    obtain ⟨r1, r2, r3, r4⟩ := Cs_tray m j4
    obtain ⟨y1, y2⟩ := tr j j4
    simp only [Int.toNat_natCast] at k
    simp only [rX11_postedRefused_11, rX11_postedRefused_12, rX11_postedRefused_15, rX11_postedRefused_16, rX11_postedRefused_17, rX11_postedRefused_18, rX11_postedRefused_19, rX11_postedRefused_22, Cs_K200 m, Cs_R200_0 m, Cs_R200_1 m, Cs_R200_2 m, Cs_R200_3 m, Cs_R200_4 m, Cs_R200_5 m, Cs_R200_6 m, Cs_K201 m, Cs_R201_0 m, Cs_R201_1 m, Cs_K202 m, Cs_K203 m, Cs_K211 m, Cs_R211_0 m, Cs_R211_1 m, Cs_K212 m, Cs_K213 m, Cs_K214 m, Cs_R214_0 m, Cs_R214_1 m, Cs_K215 m, Cs_K216 m, Cs_K217 m, Cs_R217_0 m, Cs_R217_1 m, Cs_K218 m, Cs_K219 m, Cs_K220 m, Cs_R220_0 m, Cs_K221 m, Cs_K262 m, Cs_K271 m, Cs_R271_0 m, Cs_R271_1 m, Cs_K272 m, Cs_K276 m, Cs_R272_0 m, Cs_R276_0 m, Cs_K273 m, Cs_R273_0 m, Cs_R273_1 m, Cs_K274 m, Cs_K275 m, Cs_K277 m, Cs_R277_0 m, Cs_R277_1 m, Cs_K278 m, Cs_K279 m, Cs_R262_0 m, Cs_K263 m, Cs_R263_0 m, Cs_K264 m, Cs_R262_1 m, Cs_K265 m, Cs_R265_0 m, Cs_K266 m, Cs_R262_2 m, Cs_K267 m, Cs_R267_0 m, Cs_K268 m, Cs_R262_3 m, Cs_K269 m, Cs_R269_0 m, Cs_K270 m, Int.toNat_natCast, Int.natCast_nonneg, true_and, and_true, and_self, if_true, if_false, or_true, true_or, or_false, false_or, ne_eq, not_true_eq_false, not_false_eq_true, Nat.reduceLeDiff, Nat.reduceEqDiff, Nat.reduceLT, Nat.reduceAdd, Nat.reduceMul, Nat.reduceSub, Int.reduceLT, Int.reduceLE, Int.reduceEq, Int.reduceToNat, Int.reduceAdd, Int.reduceSub, Int.reduceMul, Int.reduceNeg, Int.cast_ofNat_Int, false_and, and_false, j4', r1, r2, y1]
    by_cases h2 : sSo σ j = -1
    · simp only [if_pos h2] at k
      rw [if_pos h2, if_neg (by decide)]
      simp only [rX11_postedRefused_25, rX11_postedRefused_27]
      exact k
    · simp only [if_neg h2] at k
      rw [if_neg h2, if_pos (by trivial)]
      obtain ⟨z1, z2, z3⟩ := y2 h2
      simp only [rX11_postedRefused_28, rX11_postedRefused_29, rX11_postedRefused_32, rX11_postedRefused_33, r2, z2, Int.toNat_natCast, Int.natCast_nonneg, true_and, and_true, and_self, if_true, if_false, or_true, true_or, or_false, false_or, ne_eq, not_true_eq_false, not_false_eq_true, Nat.reduceLeDiff, Nat.reduceEqDiff, Nat.reduceLT, Nat.reduceAdd, Nat.reduceMul, Nat.reduceSub, Int.reduceLT, Int.reduceLE, Int.reduceEq, Int.reduceToNat, Int.reduceAdd, Int.reduceSub, Int.reduceMul, Int.reduceNeg, Int.cast_ofNat_Int, false_and, and_false]
      by_cases h3 : sM σ j < 1
      · rw [if_neg (by omega)] at k
        rw [if_pos h3]
        simp only [rX11_postedRefused_45, rX11_postedRefused_47]
        exact k
      · rw [if_neg h3]
        simp only [rX11_postedRefused_36, rX11_postedRefused_37, rX11_postedRefused_40, rX11_postedRefused_42, r2, z2, Int.toNat_natCast, Int.natCast_nonneg, true_and, and_true, and_self, if_true, if_false, or_true, true_or, or_false, false_or, ne_eq, not_true_eq_false, not_false_eq_true, Nat.reduceLeDiff, Nat.reduceEqDiff, Nat.reduceLT, Nat.reduceAdd, Nat.reduceMul, Nat.reduceSub, Int.reduceLT, Int.reduceLE, Int.reduceEq, Int.reduceToNat, Int.reduceAdd, Int.reduceSub, Int.reduceMul, Int.reduceNeg, Int.cast_ofNat_Int, false_and, and_false]
        by_cases h4 : 12 < sM σ j
        · rw [if_neg (by omega)] at k
          rw [if_pos h4]
          simp only [rX11_postedRefused_45, rX11_postedRefused_47]
          exact k
        · rw [if_pos (by omega)] at k
          rw [if_neg h4]
          obtain ⟨l, el⟩ := Int.eq_ofNat_of_zero_le (show 0 ≤ sM σ j by omega)
          have l12 : l ≤ 12 := by omega
          rw [el] at z2 z3
          simp only [el, Int.toNat_natCast] at k z3
          simp only [rX11_postedRefused_48, rX11_postedRefused_49]
          clear h3 h4
          refine wp_for (fun i g => WP (d + 1) mX11_postedRefused 50 [some (.inr (.inr 200)), some (.inl (j : Int)), some (.inr (.inr (263 + 2 * j))), some (.inl (i : Int))] [] g Q) (fun i g => g = h ∧ ∀ q, q < i → -1 ≤ sB σ (40 * j + q) ∧ sB σ (40 * j + q) ≤ 99) l ?_ ?_ 0 h (by omega) ⟨rfl, fun q hq => by omega⟩
          · rintro i g hi ⟨rfl, ok⟩ kk
            have il : (i : Int) < (l : Int) := by omega
            have i40 : (i : Int) < 40 := by omega
            have i1 := w32_s (i := i) (by omega)
            have b := z3 i hi
            rw [rX11_postedRefused_50]
            simp only [rX11_postedRefused_51, rX11_postedRefused_52, rX11_postedRefused_55, rX11_postedRefused_58, rX11_postedRefused_59, rX11_postedRefused_62, rX11_postedRefused_63, rX11_postedRefused_64, rX11_postedRefused_67, rX11_postedRefused_68, r2, r3, r4, z2, il, i40, b, lcm_neg, Int.toNat_natCast, Int.natCast_nonneg, true_and, and_true, and_self, if_true, if_false, or_true, true_or, or_false, false_or, ne_eq, not_true_eq_false, not_false_eq_true, Nat.reduceLeDiff, Nat.reduceEqDiff, Nat.reduceLT, Nat.reduceAdd, Nat.reduceMul, Nat.reduceSub, Int.reduceLT, Int.reduceLE, Int.reduceEq, Int.reduceToNat, Int.reduceAdd, Int.reduceSub, Int.reduceMul, Int.reduceNeg, Int.cast_ofNat_Int, false_and, and_false]
            by_cases h4 : sB σ (40 * j + i) < -1
            · rw [if_pos h4]
              simp only [rX11_postedRefused_84, rX11_postedRefused_86]
              simp only [poB_F (B := sB σ) (t := j) hi (fun q => absurd q.1 (Int.not_le.2 h4)), Bool.false_eq_true, if_false] at k
              exact k
            · rw [if_neg h4]
              simp only [rX11_postedRefused_71, rX11_postedRefused_72, rX11_postedRefused_75, rX11_postedRefused_76, rX11_postedRefused_77, rX11_postedRefused_80, rX11_postedRefused_81, r2, r3, r4, i40, b, lcm_pos, Int.toNat_natCast, Int.natCast_nonneg, true_and, and_true, and_self, if_true, if_false, or_true, true_or, or_false, false_or, ne_eq, not_true_eq_false, not_false_eq_true, Nat.reduceLeDiff, Nat.reduceEqDiff, Nat.reduceLT, Nat.reduceAdd, Nat.reduceMul, Nat.reduceSub, Int.reduceLT, Int.reduceLE, Int.reduceEq, Int.reduceToNat, Int.reduceAdd, Int.reduceSub, Int.reduceMul, Int.reduceNeg, Int.cast_ofNat_Int, false_and, and_false]
              by_cases h5 : 99 < sB σ (40 * j + i)
              · rw [if_pos h5]
                simp only [rX11_postedRefused_84, rX11_postedRefused_86]
                simp only [poB_F (B := sB σ) (t := j) hi (fun q => absurd q.2 (Int.not_le.2 h5)), Bool.false_eq_true, if_false] at k
                exact k
              · rw [if_neg h5]
                simp only [rX11_postedRefused_87, rX11_postedRefused_90, i1]
                refine kk _ ⟨rfl, fun q hq => ?_⟩
                by_cases hqi : q = i
                · rw [hqi]; exact ⟨Int.not_lt.1 h4, Int.not_lt.1 h5⟩
                · exact ok q (lt_one hq hqi)
          · rintro g ⟨rfl, ok⟩
            rw [rX11_postedRefused_50]
            simp only [rX11_postedRefused_51, rX11_postedRefused_52, rX11_postedRefused_55, rX11_postedRefused_93, rX11_postedRefused_94, r2, z2, Int.lt_irrefl, Int.toNat_natCast, Int.natCast_nonneg, true_and, and_true, and_self, if_true, if_false, or_true, true_or, or_false, false_or, ne_eq, not_true_eq_false, not_false_eq_true, Nat.reduceLeDiff, Nat.reduceEqDiff, Nat.reduceLT, Nat.reduceAdd, Nat.reduceMul, Nat.reduceSub, Int.reduceLT, Int.reduceLE, Int.reduceEq, Int.reduceToNat, Int.reduceAdd, Int.reduceSub, Int.reduceMul, Int.reduceNeg, Int.cast_ofNat_Int, false_and, and_false]
            simp only [poB_T ok, if_true] at k
            exact k
  · simp only [if_neg h1] at k
    rw [if_neg h1, if_pos (by trivial)]
    exact k
def alV (σ : AS) (t g : Int) : Int := if 0 ≤ g ∧ g < sA σ 2 then poV σ t else -2
theorem S_cAlone {d : Nat} {Q : Option PV → Hp → Prop} {h : Hp} {σ : AS} (x : CRep h σ) (w : WF σ) {t g : Int} (k : Q (some (.inl (alV σ t g))) h) : WP (d + 2) mX11_aloneRefused 0 [some (.inr (.inr 200)), some (.inl t), some (.inl g)] [] h Q := by
  have m := x.1.1
  have c := x.cp w
  unfold alV at k
  simp only [rX11_aloneRefused_0, rX11_aloneRefused_1, rX11_aloneRefused_2, rX11_aloneRefused_5, Cs_K200 m, Int.toNat_natCast, Int.natCast_nonneg, true_and, and_true, and_self, if_true, if_false, or_true, true_or, or_false, false_or, ne_eq, not_true_eq_false, not_false_eq_true, Nat.reduceLeDiff, Nat.reduceEqDiff, Nat.reduceLT, Nat.reduceAdd, Nat.reduceMul, Nat.reduceSub, Int.reduceLT, Int.reduceLE, Int.reduceEq, Int.reduceToNat, Int.reduceAdd, Int.reduceSub, Int.reduceMul, Int.reduceNeg, Int.cast_ofNat_Int, false_and, and_false, S_cTray m, psh_some]
  by_cases h1 : 0 ≤ t ∧ t < 4
  · rw [if_pos h1, if_neg (by decide)]
    simp only [rX11_aloneRefused_8, rX11_aloneRefused_9, rX11_aloneRefused_10, rX11_aloneRefused_13, Cs_K200 m, Int.toNat_natCast, Int.natCast_nonneg, true_and, and_true, and_self, if_true, if_false, or_true, true_or, or_false, false_or, ne_eq, not_true_eq_false, not_false_eq_true, Nat.reduceLeDiff, Nat.reduceEqDiff, Nat.reduceLT, Nat.reduceAdd, Nat.reduceMul, Nat.reduceSub, Int.reduceLT, Int.reduceLE, Int.reduceEq, Int.reduceToNat, Int.reduceAdd, Int.reduceSub, Int.reduceMul, Int.reduceNeg, Int.cast_ofNat_Int, false_and, and_false, S_cGoer c, psh_some]
    by_cases h2 : 0 ≤ g ∧ g < sA σ 2
    · rw [if_pos h2, if_neg (by decide)]
      rw [if_pos h2] at k
      simp only [rX11_aloneRefused_19, rX11_aloneRefused_20, rX11_aloneRefused_21, Cs_K200 m, Int.toNat_natCast, Int.natCast_nonneg, true_and, and_true, and_self, if_true, if_false, or_true, true_or, or_false, false_or, ne_eq, not_true_eq_false, not_false_eq_true, Nat.reduceLeDiff, Nat.reduceEqDiff, Nat.reduceLT, Nat.reduceAdd, Nat.reduceMul, Nat.reduceSub, Int.reduceLT, Int.reduceLE, Int.reduceEq, Int.reduceToNat, Int.reduceAdd, Int.reduceSub, Int.reduceMul, Int.reduceNeg, Int.cast_ofNat_Int, false_and, and_false]
      refine S_cPosted m x.1.2.2.2.2.2.1 ?_
      simp only [psh_some, rX11_aloneRefused_24]
      exact k
    · rw [if_neg h2, if_pos (by trivial)]
      rw [if_neg h2] at k
      simp only [rX11_aloneRefused_16, rX11_aloneRefused_18]
      exact k
  · rw [if_neg h1, if_pos (by trivial)]
    simp only [rX11_aloneRefused_16, rX11_aloneRefused_18]
    have e : poV σ t = -2 := by unfold poV; rw [if_neg h1]
    rw [e] at k
    split at k <;> exact k
theorem S_noAlone {d : Nat} {Q : Option PV → Hp → Prop} {h : Hp} {σ : AS} (x : RRep h σ) (w : WF σ) {t g : Int} (k : Q (some (.inl (alV σ t g))) h) : WP (d + 3) mX12_noAlone 0 [some (.inr (.inr 294)), some (.inl t), some (.inl g)] [] h Q := by
  have m := x.1
  unfold alV at k
  simp only [rX12_noAlone_0, rX12_noAlone_1, rX12_noAlone_2, rX12_noAlone_3, rX12_noAlone_6, rX12_noAlone_9, Md_K280 m, Md_R281 m, Md_K281 m, Md_R282 m, Md_K282 m, Md_R283 m, Md_K283 m, Md_R284 m, Md_K284 m, Md_R285 m, Md_K285 m, Md_R286 m, Md_K286 m, Md_R287 m, Md_K287 m, Md_R288 m, Md_K288 m, Md_R289 m, Md_K289 m, Md_R290 m, Md_K290 m, Md_R291 m, Md_K291 m, Md_R292 m, Md_K292 m, Md_R293 m, Md_K293 m, Md_R294 m, Md_K294 m, Md_R295 m, Md_K295 m, Md_R296 m, Md_K296 m, Md_R297 m, Md_K297 m, Md_R298 m, Md_K298 m, Md_R299 m, Md_K299 m, Int.toNat_natCast, Int.natCast_nonneg, true_and, and_true, and_self, if_true, if_false, or_true, true_or, or_false, false_or, ne_eq, not_true_eq_false, not_false_eq_true, Nat.reduceLeDiff, Nat.reduceEqDiff, Nat.reduceLT, Nat.reduceAdd, Nat.reduceMul, Nat.reduceSub, Int.reduceLT, Int.reduceLE, Int.reduceEq, Int.reduceToNat, Int.reduceAdd, Int.reduceSub, Int.reduceMul, Int.reduceNeg, Int.cast_ofNat_Int, false_and, and_false, S_within, psh_some]
  by_cases h1 : 0 ≤ t ∧ t ≤ 3
  · rw [if_pos h1, if_neg (by decide)]
    simp only [rX12_noAlone_12, rX12_noAlone_13, rX12_noAlone_14, rX12_noAlone_15, rX12_noAlone_18, Md_K280 m, Md_R281 m, Md_K281 m, Md_R282 m, Md_K282 m, Md_R283 m, Md_K283 m, Md_R284 m, Md_K284 m, Md_R285 m, Md_K285 m, Md_R286 m, Md_K286 m, Md_R287 m, Md_K287 m, Md_R288 m, Md_K288 m, Md_R289 m, Md_K289 m, Md_R290 m, Md_K290 m, Md_R291 m, Md_K291 m, Md_R292 m, Md_K292 m, Md_R293 m, Md_K293 m, Md_R294 m, Md_K294 m, Md_R295 m, Md_K295 m, Md_R296 m, Md_K296 m, Md_R297 m, Md_K297 m, Md_R298 m, Md_K298 m, Md_R299 m, Md_K299 m, Int.toNat_natCast, Int.natCast_nonneg, true_and, and_true, and_self, if_true, if_false, or_true, true_or, or_false, false_or, ne_eq, not_true_eq_false, not_false_eq_true, Nat.reduceLeDiff, Nat.reduceEqDiff, Nat.reduceLT, Nat.reduceAdd, Nat.reduceMul, Nat.reduceSub, Int.reduceLT, Int.reduceLE, Int.reduceEq, Int.reduceToNat, Int.reduceAdd, Int.reduceSub, Int.reduceMul, Int.reduceNeg, Int.cast_ofNat_Int, false_and, and_false, S_rGoer (x.rp w), psh_some]
    by_cases h2 : 0 ≤ g ∧ g < sA σ 2
    · rw [if_pos h2, if_neg (by decide)]
      rw [if_pos h2] at k
      simp only [rX12_noAlone_26, rX12_noAlone_27, rX12_noAlone_28, Md_K280 m, Md_R281 m, Md_K281 m, Md_R282 m, Md_K282 m, Md_R283 m, Md_K283 m, Md_R284 m, Md_K284 m, Md_R285 m, Md_K285 m, Md_R286 m, Md_K286 m, Md_R287 m, Md_K287 m, Md_R288 m, Md_K288 m, Md_R289 m, Md_K289 m, Md_R290 m, Md_K290 m, Md_R291 m, Md_K291 m, Md_R292 m, Md_K292 m, Md_R293 m, Md_K293 m, Md_R294 m, Md_K294 m, Md_R295 m, Md_K295 m, Md_R296 m, Md_K296 m, Md_R297 m, Md_K297 m, Md_R298 m, Md_K298 m, Md_R299 m, Md_K299 m, Int.toNat_natCast, Int.natCast_nonneg, true_and, and_true, and_self, if_true, if_false, or_true, true_or, or_false, false_or, ne_eq, not_true_eq_false, not_false_eq_true, Nat.reduceLeDiff, Nat.reduceEqDiff, Nat.reduceLT, Nat.reduceAdd, Nat.reduceMul, Nat.reduceSub, Int.reduceLT, Int.reduceLE, Int.reduceEq, Int.reduceToNat, Int.reduceAdd, Int.reduceSub, Int.reduceMul, Int.reduceNeg, Int.cast_ofNat_Int, false_and, and_false]
      refine S_noPosted x ?_
      simp only [psh_some, rX12_noAlone_31]
      exact k
    · rw [if_neg h2, if_pos (by trivial)]
      rw [if_neg h2] at k
      simp only [rX12_noAlone_21, rX12_noAlone_23, rX12_noAlone_31]
      exact k
  · rw [if_neg h1, if_pos (by trivial)]
    simp only [rX12_noAlone_21, rX12_noAlone_23, rX12_noAlone_31]
    have e : poV σ t = -2 := by unfold poV; rw [if_neg (by omega)]
    rw [e] at k
    split at k <;> exact k
/-- whether a number that was posted can be b -/
def sees (z b : Int) : Bool := decide (z = -1 ∨ z = b)
theorem S_isSeen {d : Nat} {Q : Option PV → Hp → Prop} {h : Hp} (m : MdOk h) {j i s : Nat} {z : Int} (hj : j < 4) (hi : i < 40) (e : hJ h 313 (40 * j + i) = z) : WP d mX12_isSeen 0 [some (.inr (.inr 294)), some (.inl (j : Int)), some (.inl (i : Int)), some (.inl (s : Int))] [] h Q = Q (some (.inl (if sees z ((s % 100 : Nat) : Int) = true then 1 else 0))) h := by
  have l1 : w32 (40 * (j : Int)) = ((40 * j : Nat) : Int) := by rw [w32_i (by omega) (by omega)]; omega
  have l3 : w32 (((40 * j : Nat) : Int) + (i : Int)) = ((40 * j + i : Nat) : Int) := w32_ll (by omega)
  have l5 : ((40 * j + i : Nat) : Int) < 160 := by omega
  unfold sees
  simp only [rX12_isSeen_0, rX12_isSeen_1, rX12_isSeen_4, rX12_isSeen_6, rX12_isSeen_7, rX12_isSeen_8, rX12_isSeen_9, rX12_isSeen_10, rX12_isSeen_11, rX12_isSeen_14, rX12_isSeen_15, rX12_isSeen_18, rX12_isSeen_19, rX12_isSeen_22, rX12_isSeen_24, rX12_isSeen_25, rX12_isSeen_26, rX12_isSeen_27, rX12_isSeen_28, rX12_isSeen_29, rX12_isSeen_30, rX12_isSeen_32, rX12_isSeen_33, rX12_isSeen_34, rX12_isSeen_35, rX12_isSeen_38, rX12_isSeen_39, rX12_isSeen_42, rX12_isSeen_43, Md_K280 m, Md_R281 m, Md_K281 m, Md_R282 m, Md_K282 m, Md_R283 m, Md_K283 m, Md_R284 m, Md_K284 m, Md_R285 m, Md_K285 m, Md_R286 m, Md_K286 m, Md_R287 m, Md_K287 m, Md_R288 m, Md_K288 m, Md_R289 m, Md_K289 m, Md_R290 m, Md_K290 m, Md_R291 m, Md_K291 m, Md_R292 m, Md_K292 m, Md_R293 m, Md_K293 m, Md_R294 m, Md_K294 m, Md_R295 m, Md_K295 m, Md_R296 m, Md_K296 m, Md_R297 m, Md_K297 m, Md_R298 m, Md_K298 m, Md_R299 m, Md_K299 m, l1, l3, l5, e, mod100, lcm_zero, Int.toNat_natCast, Int.natCast_nonneg, true_and, and_true, and_self, if_true, if_false, or_true, true_or, or_false, false_or, ne_eq, not_true_eq_false, not_false_eq_true, Nat.reduceLeDiff, Nat.reduceEqDiff, Nat.reduceLT, Nat.reduceAdd, Nat.reduceMul, Nat.reduceSub, Int.reduceLT, Int.reduceLE, Int.reduceEq, Int.reduceToNat, Int.reduceAdd, Int.reduceSub, Int.reduceMul, Int.reduceNeg, Int.cast_ofNat_Int, false_and, and_false]
  by_cases h1 : z = -1
  · simp only [h1, Int.toNat_natCast, Int.natCast_nonneg, true_and, and_true, and_self, if_true, if_false, or_true, true_or, or_false, false_or, ne_eq, not_true_eq_false, not_false_eq_true, Nat.reduceLeDiff, Nat.reduceEqDiff, Nat.reduceLT, Nat.reduceAdd, Nat.reduceMul, Nat.reduceSub, Int.reduceLT, Int.reduceLE, Int.reduceEq, Int.reduceToNat, Int.reduceAdd, Int.reduceSub, Int.reduceMul, Int.reduceNeg, Int.cast_ofNat_Int, false_and, and_false, decide_true]
  · by_cases h2 : z = ((s % 100 : Nat) : Int)
    · simp only [h1, h2, Int.toNat_natCast, Int.natCast_nonneg, true_and, and_true, and_self, if_true, if_false, or_true, true_or, or_false, false_or, ne_eq, not_true_eq_false, not_false_eq_true, Nat.reduceLeDiff, Nat.reduceEqDiff, Nat.reduceLT, Nat.reduceAdd, Nat.reduceMul, Nat.reduceSub, Int.reduceLT, Int.reduceLE, Int.reduceEq, Int.reduceToNat, Int.reduceAdd, Int.reduceSub, Int.reduceMul, Int.reduceNeg, Int.cast_ofNat_Int, false_and, and_false, decide_true, ite_self]
    · simp only [h1, h2, Int.toNat_natCast, Int.natCast_nonneg, true_and, and_true, and_self, if_true, if_false, or_true, true_or, or_false, false_or, ne_eq, not_true_eq_false, not_false_eq_true, Nat.reduceLeDiff, Nat.reduceEqDiff, Nat.reduceLT, Nat.reduceAdd, Nat.reduceMul, Nat.reduceSub, Int.reduceLT, Int.reduceLE, Int.reduceEq, Int.reduceToNat, Int.reduceAdd, Int.reduceSub, Int.reduceMul, Int.reduceNeg, Int.cast_ofNat_Int, false_and, and_false, decide_false, Bool.false_eq_true]
