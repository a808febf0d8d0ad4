/-! which rows can have been posted -/
def poB (B : Nat → Int) (t n : Nat) : Bool := (List.range n).all (fun i => decide (-1 ≤ B (40 * t + i) ∧ B (40 * t + i) ≤ 99))
theorem poB_T {B : Nat → Int} {t n : Nat} (h : ∀ j, j < n → -1 ≤ B (40 * t + j) ∧ B (40 * t + j) ≤ 99) : poB B t n = true := by
  unfold poB
  rw [List.all_eq_true]
  intro j hj
  exact decide_eq_true (h j (List.mem_range.1 hj))
theorem poB_F {B : Nat → Int} {t n j : Nat} (hj : j < n) (h : ¬ (-1 ≤ B (40 * t + j) ∧ B (40 * t + j) ≤ 99)) : poB B t n = false := by
  cases e : poB B t n with
  | false => rfl
  | true =>
    unfold poB at e
    rw [List.all_eq_true] at e
    exact absurd (of_decide_eq_true (e j (List.mem_range.2 hj))) h
def poV (σ : AS) (t : Int) : Int := if 0 ≤ t ∧ t < 4 then (if sSo σ t.toNat = -1 then -6 else if 1 ≤ sM σ t.toNat ∧ sM σ t.toNat ≤ 12 then (if poB (sB σ) t.toNat (sM σ t.toNat).toNat = true then 0 else -3) else -4) else -2
theorem S_noPosted {d : Nat} {Q : Option PV → Hp → Prop} {h : Hp} {σ : AS} (x : RRep h σ) {t : Int} (k : Q (some (.inl (poV σ t))) h) : WP (d + 2) mX12_noPosted 0 [some (.inr (.inr 294)), some (.inl t), none, none] [] h Q := by
  have m := x.1
  unfold poV at k
  simp only [rX12_noPosted_0, rX12_noPosted_1, rX12_noPosted_2, rX12_noPosted_5, rX12_noPosted_6, rX12_noPosted_7, rX12_noPosted_10, rX12_noPosted_11, Md_K280 m, Md_R281 m, Md_K281 m, Md_R282 m, Md_K282 m, Md_R283 m, Md_K283 m, Md_R284 m, Md_K284 m, Md_R285 m, Md_K285 m, Md_R286 m, Md_K286 m, Md_R287 m, Md_K287 m, Md_R288 m, Md_K288 m, Md_R289 m, Md_K289 m, Md_R290 m, Md_K290 m, Md_R291 m, Md_K291 m, Md_R292 m, Md_K292 m, Md_R293 m, Md_K293 m, Md_R294 m, Md_K294 m, Md_R295 m, Md_K295 m, Md_R296 m, Md_K296 m, Md_R297 m, Md_K297 m, Md_R298 m, Md_K298 m, Md_R299 m, Md_K299 m, Int.toNat_natCast, Int.natCast_nonneg, true_and, and_true, and_self, if_true, if_false, or_true, true_or, or_false, false_or, ne_eq, not_true_eq_false, not_false_eq_true, Nat.reduceLeDiff, Nat.reduceEqDiff, Nat.reduceLT, Nat.reduceAdd, Nat.reduceMul, Nat.reduceSub, Int.reduceLT, Int.reduceLE, Int.reduceEq, Int.reduceToNat, Int.reduceAdd, Int.reduceSub, Int.reduceMul, Int.reduceNeg, Int.cast_ofNat_Int, false_and, and_false, S_noTray x, psh_some]
  unfold noT
  by_cases h1 : 0 ≤ t ∧ t < 4
  · simp only [if_pos h1] at k ⊢
    obtain ⟨j, rfl⟩ := Int.eq_ofNat_of_zero_le h1.1
    have j4 : j < 4 := by omega
    have j5 : (j : Int) < 4 := by omega
    obtain ⟨e1, e2⟩ := x.2.2.2.2.2.2.2.1 j j4
    simp only [Int.toNat_natCast] at k ⊢
    by_cases h2 : sSo σ j = -1
    · simp only [if_pos h2] at k
      simp only [if_pos h2, Int.toNat_natCast, Int.natCast_nonneg, true_and, and_true, and_self, if_true, if_false, or_true, true_or, or_false, false_or, ne_eq, not_true_eq_false, not_false_eq_true, Nat.reduceLeDiff, Nat.reduceEqDiff, Nat.reduceLT, Nat.reduceAdd, Nat.reduceMul, Nat.reduceSub, Int.reduceLT, Int.reduceLE, Int.reduceEq, Int.reduceToNat, Int.reduceAdd, Int.reduceSub, Int.reduceMul, Int.reduceNeg, Int.cast_ofNat_Int, false_and, and_false]
      exact k
    · simp only [if_neg h2] at k
      simp only [if_neg h2, Int.toNat_natCast, Int.natCast_nonneg, true_and, and_true, and_self, if_true, if_false, or_true, true_or, or_false, false_or, ne_eq, not_true_eq_false, not_false_eq_true, Nat.reduceLeDiff, Nat.reduceEqDiff, Nat.reduceLT, Nat.reduceAdd, Nat.reduceMul, Nat.reduceSub, Int.reduceLT, Int.reduceLE, Int.reduceEq, Int.reduceToNat, Int.reduceAdd, Int.reduceSub, Int.reduceMul, Int.reduceNeg, Int.cast_ofNat_Int, false_and, and_false]
      simp only [rX12_noPosted_12, rX12_noPosted_13, rX12_noPosted_16, rX12_noPosted_17, rX12_noPosted_18, rX12_noPosted_19, rX12_noPosted_20, rX12_noPosted_23, rX12_noPosted_26, rX12_noPosted_29, rX12_noPosted_31, rX12_noPosted_32, rX12_noPosted_33, Md_K280 m, Md_R281 m, Md_K281 m, Md_R282 m, Md_K282 m, Md_R283 m, Md_K283 m, Md_R284 m, Md_K284 m, Md_R285 m, Md_K285 m, Md_R286 m, Md_K286 m, Md_R287 m, Md_K287 m, Md_R288 m, Md_K288 m, Md_R289 m, Md_K289 m, Md_R290 m, Md_K290 m, Md_R291 m, Md_K291 m, Md_R292 m, Md_K292 m, Md_R293 m, Md_K293 m, Md_R294 m, Md_K294 m, Md_R295 m, Md_K295 m, Md_R296 m, Md_K296 m, Md_R297 m, Md_K297 m, Md_R298 m, Md_K298 m, Md_R299 m, Md_K299 m, Int.toNat_natCast, Int.natCast_nonneg, true_and, and_true, and_self, if_true, if_false, or_true, true_or, or_false, false_or, ne_eq, not_true_eq_false, not_false_eq_true, Nat.reduceLeDiff, Nat.reduceEqDiff, Nat.reduceLT, Nat.reduceAdd, Nat.reduceMul, Nat.reduceSub, Int.reduceLT, Int.reduceLE, Int.reduceEq, Int.reduceToNat, Int.reduceAdd, Int.reduceSub, Int.reduceMul, Int.reduceNeg, Int.cast_ofNat_Int, false_and, and_false, j5, e2, S_within, psh_some]
      by_cases h3 : 1 ≤ sM σ j ∧ sM σ j ≤ 12
      · simp only [if_pos h3] at k
        rw [if_pos h3, if_neg (by decide)]
        obtain ⟨l, el⟩ := Int.eq_ofNat_of_zero_le (show 0 ≤ sM σ j by omega)
        have l12 : l ≤ 12 := by omega
        rw [el] at e2
        simp only [el, Int.toNat_natCast] at k
        clear h3
        refine wp_for (fun i g => WP (d + 1 + 1) mX12_noPosted 34 [some (.inr (.inr 294)), some (.inl (j : Int)), some (.inl 0), some (.inl (i : Int))] [] g Q) (fun i g => g = h ∧ ∀ q, q < i → -1 ≤ sB σ (40 * j + q) ∧ sB σ (40 * j + q) ≤ 99) l ?_ ?_ 0 h (by omega) ⟨rfl, fun q hq => by omega⟩
        · rintro i g hi ⟨rfl, ok⟩ kk
          have l1 : w32 (40 * (j : Int)) = ((40 * j : Nat) : Int) := by rw [w32_i (by omega) (by omega)]; omega
          have l3 : w32 (((40 * j : Nat) : Int) + (i : Int)) = ((40 * j + i : Nat) : Int) := w32_ll (by omega)
          have l5 : ((40 * j + i : Nat) : Int) < 160 := by omega
          have il : (i : Int) < (l : Int) := by omega
          have i1 := w32_s (i := i) (by omega)
          have b := x.2.2.2.2.2.2.2.2 (40 * j + i) (by omega)
          rw [rX12_noPosted_34]
          simp only [rX12_noPosted_35, rX12_noPosted_36, rX12_noPosted_39, rX12_noPosted_40, rX12_noPosted_41, rX12_noPosted_44, rX12_noPosted_45, rX12_noPosted_48, rX12_noPosted_50, rX12_noPosted_51, rX12_noPosted_52, rX12_noPosted_53, rX12_noPosted_54, rX12_noPosted_55, rX12_noPosted_58, rX12_noPosted_61, rX12_noPosted_64, rX12_noPosted_67, rX12_noPosted_69, rX12_noPosted_70, rX12_noPosted_73, Md_K280 m, Md_R281 m, Md_K281 m, Md_R282 m, Md_K282 m, Md_R283 m, Md_K283 m, Md_R284 m, Md_K284 m, Md_R285 m, Md_K285 m, Md_R286 m, Md_K286 m, Md_R287 m, Md_K287 m, Md_R288 m, Md_K288 m, Md_R289 m, Md_K289 m, Md_R290 m, Md_K290 m, Md_R291 m, Md_K291 m, Md_R292 m, Md_K292 m, Md_R293 m, Md_K293 m, Md_R294 m, Md_K294 m, Md_R295 m, Md_K295 m, Md_R296 m, Md_K296 m, Md_R297 m, Md_K297 m, Md_R298 m, Md_K298 m, Md_R299 m, Md_K299 m, Int.toNat_natCast, Int.natCast_nonneg, true_and, and_true, and_self, if_true, if_false, or_true, true_or, or_false, false_or, ne_eq, not_true_eq_false, not_false_eq_true, Nat.reduceLeDiff, Nat.reduceEqDiff, Nat.reduceLT, Nat.reduceAdd, Nat.reduceMul, Nat.reduceSub, Int.reduceLT, Int.reduceLE, Int.reduceEq, Int.reduceToNat, Int.reduceAdd, Int.reduceSub, Int.reduceMul, Int.reduceNeg, Int.cast_ofNat_Int, false_and, and_false, j5, e2, il, l1, l3, l5, i1, b, S_within, psh_some]
          by_cases h4 : -1 ≤ sB σ (40 * j + i) ∧ sB σ (40 * j + i) ≤ 99
          · rw [if_pos h4, if_neg (by decide)]
            refine kk _ ⟨rfl, fun q hq => ?_⟩
            by_cases hqi : q = i
            · rw [hqi]; exact h4
            · exact ok q (by omega)
          · rw [if_neg h4, if_pos (by trivial)]
            simp only [poB_F hi h4, Bool.false_eq_true, if_false] at k
            exact k
        · rintro g ⟨rfl, ok⟩
          rw [rX12_noPosted_34]
          simp only [rX12_noPosted_35, rX12_noPosted_36, rX12_noPosted_39, rX12_noPosted_40, rX12_noPosted_41, rX12_noPosted_76, rX12_noPosted_77, Md_K280 m, Md_R281 m, Md_K281 m, Md_R282 m, Md_K282 m, Md_R283 m, Md_K283 m, Md_R284 m, Md_K284 m, Md_R285 m, Md_K285 m, Md_R286 m, Md_K286 m, Md_R287 m, Md_K287 m, Md_R288 m, Md_K288 m, Md_R289 m, Md_K289 m, Md_R290 m, Md_K290 m, Md_R291 m, Md_K291 m, Md_R292 m, Md_K292 m, Md_R293 m, Md_K293 m, Md_R294 m, Md_K294 m, Md_R295 m, Md_K295 m, Md_R296 m, Md_K296 m, Md_R297 m, Md_K297 m, Md_R298 m, Md_K298 m, Md_R299 m, Md_K299 m, Int.toNat_natCast, Int.natCast_nonneg, true_and, and_true, and_self, if_true, if_false, or_true, true_or, or_false, false_or, ne_eq, not_true_eq_false, not_false_eq_true, Nat.reduceLeDiff, Nat.reduceEqDiff, Nat.reduceLT, Nat.reduceAdd, Nat.reduceMul, Nat.reduceSub, Int.reduceLT, Int.reduceLE, Int.reduceEq, Int.reduceToNat, Int.reduceAdd, Int.reduceSub, Int.reduceMul, Int.reduceNeg, Int.cast_ofNat_Int, false_and, and_false, j5, e2, Int.lt_irrefl]
          simp only [poB_T ok, if_true] at k
          exact k
      · simp only [if_neg h3] at k
        rw [if_neg h3, if_pos (by trivial)]
        exact k
  · simp only [if_neg h1] at k ⊢
    simp only [Int.toNat_natCast, Int.natCast_nonneg, true_and, and_true, and_self, if_true, if_false, or_true, true_or, or_false, false_or, ne_eq, not_true_eq_false, not_false_eq_true, Nat.reduceLeDiff, Nat.reduceEqDiff, Nat.reduceLT, Nat.reduceAdd, Nat.reduceMul, Nat.reduceSub, Int.reduceLT, Int.reduceLE, Int.reduceEq, Int.reduceToNat, Int.reduceAdd, Int.reduceSub, Int.reduceMul, Int.reduceNeg, Int.cast_ofNat_Int, false_and, and_false]
    exact k
