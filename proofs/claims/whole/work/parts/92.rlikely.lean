/-! the reference's chances -/
def lyP (a k : Nat) : Prop := rsP a k ∨ mP a k
theorem lyP_u {a k : Nat} (q : lyP a k) : uP a k := q.elim rsP_u mP_u
theorem chD_b {h : Hp} {σ : AS} (w : WF σ) (x : RQ h (sA σ) (fA σ) (2 ^ GA σ - 1) (LA σ)) {n : Nat} (hn : n ≤ 6) : ∀ p, p < (LA σ).length → chD σ n ((LA σ).getD p 0) < 9223372036854775808 := fun p hp => Nat.lt_of_le_of_lt (spN_le x.2.2.2.1 (x.mem (GA_e w)) hp) (Nat.lt_trans (pow54 w hn) (by decide))
theorem i_6 {i b N : Nat} (h : i + (b + 1) = N) (hN : N ≤ 6) : (i : Int) < (N : Int) ∧ i ≤ 6 ∧ w32 ((i : Int) + 1) = ((i + 1 : Nat) : Int) ∧ i + 1 + b = N ∧ i + 1 ≤ 6 := ⟨by omega, by omega, w32_s (by omega), by omega, by omega⟩
theorem pow_w {σ : AS} (w : WF σ) {i : Nat} (hi : i + 1 ≤ 6) : w64 (((smW (wO σ) (GA σ) ^ i : Nat) : Int) * (smW (wO σ) (GA σ) : Int)) = ((smW (wO σ) (GA σ) ^ (i + 1) : Nat) : Int) := by
  rw [← Int.natCast_mul, ← Nat.pow_succ, w64_nat (Nat.lt_trans (pow54 w hi) (by decide))]
set_option maxHeartbeats 1000000 in
theorem S_laysLikely {d : Nat} {Q : Option PV → Hp → Prop} {h : Hp} {σ : AS} (x : RRep h σ) (w : WF σ) {N : Nat} (N6 : N ≤ 6)
    (k : ∀ h', Fp lyP h h' → RQ h' (sA σ) (fA σ) (2 ^ GA σ - 1) (LA σ) → MV h' 307 (LA σ) (chD σ (nO σ N)) → Q (some (.inr (.inl (cBe σ N : Int)))) h') :
    WP (d + 4) mX12_laysLikely 0 [some (.inr (.inr 294)), some (.inl (N : Int)), none, none, none] [] h Q := by
  have m := x.1
  have G6 := G_6 w
  have es : (smW (wO σ) (GA σ) : Int) = sumG (sA σ) (sA σ 2).toNat := (wO_s w (GA σ) G6).1
  simp only [rX12_laysLikely_0, rX12_laysLikely_1, rX12_laysLikely_2, rX12_laysLikely_5, Md_K280 m, Md_R281 m, Md_K281 m, Md_R282 m, Md_K282 m, Md_R283 m, Md_K283 m, Md_R284 m, Md_K284 m, Md_R285 m, Md_K285 m, Md_R286 m, Md_K286 m, Md_R287 m, Md_K287 m, Md_R288 m, Md_K288 m, Md_R289 m, Md_K289 m, Md_R290 m, Md_K290 m, Md_R291 m, Md_K291 m, Md_R292 m, Md_K292 m, Md_R293 m, Md_K293 m, Md_R294 m, Md_K294 m, Md_R295 m, Md_K295 m, Md_R296 m, Md_K296 m, Md_R297 m, Md_K297 m, Md_R298 m, Md_K298 m, Md_R299 m, Md_K299 m, S_rAll (x.rp w), psh_some, Int.toNat_natCast, Int.natCast_nonneg, true_and, and_true, and_self, if_true, if_false, or_true, true_or, or_false, false_or, ne_eq, not_true_eq_false, not_false_eq_true, Nat.reduceLeDiff, Nat.reduceEqDiff, Nat.reduceLT, Nat.reduceAdd, Nat.reduceMul, Nat.reduceSub, Int.reduceLT, Int.reduceLE, Int.reduceEq, Int.reduceToNat, Int.reduceAdd, Int.reduceSub, Int.reduceMul, Int.reduceNeg, Int.cast_ofNat_Int, false_and, and_false]
  refine S_laysStands (x.rp w) w.2.1 (set64 w.1 (all_l2 _)) ?_
  intro h1' f1 x1
  have q1' : RQ h1' (sA σ) (fA σ) (2 ^ GA σ - 1) (LA σ) := x1.rq w.1 w.2.1 (all_l2 _)
  have m1 := q1'.1
  have l0 : (LA σ).getD 0 0 = stt (stA (sA σ)) := (Lst_0 (sA σ) (stA (sA σ)) _).1
  simp only [psh_none, rX12_laysLikely_8, rX12_laysLikely_9, Md_K280 m1, Md_R281 m1, Md_K281 m1, Md_R282 m1, Md_K282 m1, Md_R283 m1, Md_K283 m1, Md_R284 m1, Md_K284 m1, Md_R285 m1, Md_K285 m1, Md_R286 m1, Md_K286 m1, Md_R287 m1, Md_K287 m1, Md_R288 m1, Md_K288 m1, Md_R289 m1, Md_K289 m1, Md_R290 m1, Md_K290 m1, Md_R291 m1, Md_K291 m1, Md_R292 m1, Md_K292 m1, Md_R293 m1, Md_K293 m1, Md_R294 m1, Md_K294 m1, Md_R295 m1, Md_K295 m1, Md_R296 m1, Md_K296 m1, Md_R297 m1, Md_K297 m1, Md_R298 m1, Md_K298 m1, Md_R299 m1, Md_K299 m1, Int.toNat_natCast, Int.natCast_nonneg, true_and, and_true, and_self, if_true, if_false, or_true, true_or, or_false, false_or, ne_eq, not_true_eq_false, not_false_eq_true, Nat.reduceLeDiff, Nat.reduceEqDiff, Nat.reduceLT, Nat.reduceAdd, Nat.reduceMul, Nat.reduceSub, Int.reduceLT, Int.reduceLE, Int.reduceEq, Int.reduceToNat, Int.reduceAdd, Int.reduceSub, Int.reduceMul, Int.reduceNeg, Int.cast_ofNat_Int, false_and, and_false]
  refine S_beginsMany (d := d + 1) ⟨m1, q1'.2.1, w.1⟩ w.2.1 q1'.2.2.2.1 l0 ?_
  intro h2' f2 mv2 mz2
  simp only [psh_none, rX12_laysLikely_12, rX12_laysLikely_13, rX12_laysLikely_14, rX12_laysLikely_15]
  have wo : ∀ g, g < GA σ → sA σ (27 + g) = (wO σ g : Int) := fun g hg => (toN (w.1.2.2.2.2.2.2.2 g (Nat.lt_of_lt_of_le hg G6)).1).symm
  have ly : ∀ {e : Hp}, Fp mP h1' e → Fp lyP h e := fun fe => (f1.mono (fun a k q => Or.inl q)).trans (fe.mono (fun a k q => Or.inr q))
  by_cases hz : smW (wO σ) (GA σ) = 0
  · have n0 : nO σ N = 0 := by unfold nO; rw [if_pos hz]
    have b1 : cBe σ N = 1 := by unfold cBe; rw [n0, Nat.pow_zero]
    have qe := q1'.fr f2 (fun a k q => mP_no q)
    have me := qe.1
    rw [n0, b1] at k
    have fin := k h2' (ly f2) qe mv2
    have s0 : ¬ ((0 : Int) < (smW (wO σ) (GA σ) : Int)) := by rw [hz]; exact Int.lt_irrefl _
    rw [rX12_laysLikely_17]
    by_cases hN : (0 : Int) < (N : Int)
    · simp only [rX12_laysLikely_19, rX12_laysLikely_20, rX12_laysLikely_23, rX12_laysLikely_24, Md_K280 me, Md_R281 me, Md_K281 me, Md_R282 me, Md_K282 me, Md_R283 me, Md_K283 me, Md_R284 me, Md_K284 me, Md_R285 me, Md_K285 me, Md_R286 me, Md_K286 me, Md_R287 me, Md_K287 me, Md_R288 me, Md_K288 me, Md_R289 me, Md_K289 me, Md_R290 me, Md_K290 me, Md_R291 me, Md_K291 me, Md_R292 me, Md_K292 me, Md_R293 me, Md_K293 me, Md_R294 me, Md_K294 me, Md_R295 me, Md_K295 me, Md_R296 me, Md_K296 me, Md_R297 me, Md_K297 me, Md_R298 me, Md_K298 me, Md_R299 me, Md_K299 me, hN, Int.toNat_natCast, Int.natCast_nonneg, true_and, and_true, and_self, if_true, if_false, or_true, true_or, or_false, false_or, ne_eq, not_true_eq_false, not_false_eq_true, Nat.reduceLeDiff, Nat.reduceEqDiff, Nat.reduceLT, Nat.reduceAdd, Nat.reduceMul, Nat.reduceSub, Int.reduceLT, Int.reduceLE, Int.reduceEq, Int.reduceToNat, Int.reduceAdd, Int.reduceSub, Int.reduceMul, Int.reduceNeg, Int.cast_ofNat_Int, false_and, and_false]
      refine S_rOdds (d := d + 3) ⟨me, qe.2.1, w.1⟩ ?_
      rw [← es]
      simp only [psh_some, rX12_laysLikely_27, rX12_laysLikely_49, rX12_laysLikely_50, s0, if_false]
      exact fin
    · simp only [rX12_laysLikely_19, rX12_laysLikely_20, rX12_laysLikely_49, rX12_laysLikely_50, hN, if_false]
      exact fin
  · have n0 : nO σ N = N := by unfold nO; rw [if_neg hz]
    have sp : (0 : Int) < (smW (wO σ) (GA σ) : Int) := Int.ofNat_lt.2 (Nat.pos_of_ne_zero hz)
    have b1 : cBe σ N = smW (wO σ) (GA σ) ^ N := by unfold cBe; rw [n0]
    rw [n0, b1] at k
    have main : ∀ b i (e : Hp), i + b = N → Fp mP h1' e → MV e 307 (LA σ) (chD σ i) → MZ e 308 (LA σ) → WP (d + 4) mX12_laysLikely 17 [some (.inr (.inr 294)), some (.inl (N : Int)), some (.inr (.inl ((smW (wO σ) (GA σ) ^ i : Nat) : Int))), none, some (.inl (i : Int))] [] e Q := by
      intro b
      induction b with
      | zero =>
        intro i e hi fe mv mz
        have ei : i = N := hi
        subst ei
        have qe := q1'.fr fe (fun a k q => mP_no q)
        rw [rX12_laysLikely_17]
        simp only [rX12_laysLikely_19, rX12_laysLikely_20, rX12_laysLikely_49, rX12_laysLikely_50, Int.lt_irrefl, if_false]
        exact k e (ly fe) qe mv
      | succ b ih =>
        intro i e hi fe mv mz
        obtain ⟨iN, i6, i1, hn, i7⟩ := i_6 hi N6
        have qe := q1'.fr fe (fun a k q => mP_no q)
        have me := qe.1
        rw [rX12_laysLikely_17]
        simp only [rX12_laysLikely_19, rX12_laysLikely_20, rX12_laysLikely_23, rX12_laysLikely_24, Md_K280 me, Md_R281 me, Md_K281 me, Md_R282 me, Md_K282 me, Md_R283 me, Md_K283 me, Md_R284 me, Md_K284 me, Md_R285 me, Md_K285 me, Md_R286 me, Md_K286 me, Md_R287 me, Md_K287 me, Md_R288 me, Md_K288 me, Md_R289 me, Md_K289 me, Md_R290 me, Md_K290 me, Md_R291 me, Md_K291 me, Md_R292 me, Md_K292 me, Md_R293 me, Md_K293 me, Md_R294 me, Md_K294 me, Md_R295 me, Md_K295 me, Md_R296 me, Md_K296 me, Md_R297 me, Md_K297 me, Md_R298 me, Md_K298 me, Md_R299 me, Md_K299 me, iN, Int.toNat_natCast, Int.natCast_nonneg, true_and, and_true, and_self, if_true, if_false, or_true, true_or, or_false, false_or, ne_eq, not_true_eq_false, not_false_eq_true, Nat.reduceLeDiff, Nat.reduceEqDiff, Nat.reduceLT, Nat.reduceAdd, Nat.reduceMul, Nat.reduceSub, Int.reduceLT, Int.reduceLE, Int.reduceEq, Int.reduceToNat, Int.reduceAdd, Int.reduceSub, Int.reduceMul, Int.reduceNeg, Int.cast_ofNat_Int, false_and, and_false]
        refine S_rOdds (d := d + 3) ⟨me, qe.2.1, w.1⟩ ?_
        rw [← es]
        simp only [psh_some, rX12_laysLikely_27, rX12_laysLikely_30, rX12_laysLikely_31, rX12_laysLikely_32, Md_K280 me, Md_R281 me, Md_K281 me, Md_R282 me, Md_K282 me, Md_R283 me, Md_K283 me, Md_R284 me, Md_K284 me, Md_R285 me, Md_K285 me, Md_R286 me, Md_K286 me, Md_R287 me, Md_K287 me, Md_R288 me, Md_K288 me, Md_R289 me, Md_K289 me, Md_R290 me, Md_K290 me, Md_R291 me, Md_K291 me, Md_R292 me, Md_K292 me, Md_R293 me, Md_K293 me, Md_R294 me, Md_K294 me, Md_R295 me, Md_K295 me, Md_R296 me, Md_K296 me, Md_R297 me, Md_K297 me, Md_R298 me, Md_K298 me, Md_R299 me, Md_K299 me, sp, Int.toNat_natCast, Int.natCast_nonneg, true_and, and_true, and_self, if_true, if_false, or_true, true_or, or_false, false_or, ne_eq, not_true_eq_false, not_false_eq_true, Nat.reduceLeDiff, Nat.reduceEqDiff, Nat.reduceLT, Nat.reduceAdd, Nat.reduceMul, Nat.reduceSub, Int.reduceLT, Int.reduceLE, Int.reduceEq, Int.reduceToNat, Int.reduceAdd, Int.reduceSub, Int.reduceMul, Int.reduceNeg, Int.cast_ofNat_Int, false_and, and_false]
        refine S_goesMany (d := d + 3) (W := wO σ) qe (GA_e w) (Or.inr ⟨rfl, wo⟩) mv mz (chD_b w qe i6) ?_
        intro e2 f2 mv2 mz2
        have fe2 := fe.trans f2
        have qe2 := q1'.fr fe2 (fun a k q => mP_no q)
        have me2 := qe2.1
        simp only [psh_none, rX12_laysLikely_35, rX12_laysLikely_36, rX12_laysLikely_37, Md_K280 me2, Md_R281 me2, Md_K281 me2, Md_R282 me2, Md_K282 me2, Md_R283 me2, Md_K283 me2, Md_R284 me2, Md_K284 me2, Md_R285 me2, Md_K285 me2, Md_R286 me2, Md_K286 me2, Md_R287 me2, Md_K287 me2, Md_R288 me2, Md_K288 me2, Md_R289 me2, Md_K289 me2, Md_R290 me2, Md_K290 me2, Md_R291 me2, Md_K291 me2, Md_R292 me2, Md_K292 me2, Md_R293 me2, Md_K293 me2, Md_R294 me2, Md_K294 me2, Md_R295 me2, Md_K295 me2, Md_R296 me2, Md_K296 me2, Md_R297 me2, Md_K297 me2, Md_R298 me2, Md_K298 me2, Md_R299 me2, Md_K299 me2, Int.toNat_natCast, Int.natCast_nonneg, true_and, and_true, and_self, if_true, if_false, or_true, true_or, or_false, false_or, ne_eq, not_true_eq_false, not_false_eq_true, Nat.reduceLeDiff, Nat.reduceEqDiff, Nat.reduceLT, Nat.reduceAdd, Nat.reduceMul, Nat.reduceSub, Int.reduceLT, Int.reduceLE, Int.reduceEq, Int.reduceToNat, Int.reduceAdd, Int.reduceSub, Int.reduceMul, Int.reduceNeg, Int.cast_ofNat_Int, false_and, and_false]
        refine S_rOdds (d := d + 3) ⟨me2, qe2.2.1, w.1⟩ ?_
        rw [← es]
        simp only [psh_some, rX12_laysLikely_40, rX12_laysLikely_41, rX12_laysLikely_42, rX12_laysLikely_43, rX12_laysLikely_46, i1, pow_w w i7]
        refine ih (i + 1) e2 hn fe2 ?_ mz2
        have hs : chD σ (i + 1) = spL (fA σ) (wO σ) (fun _ => true) (LA σ) (GA σ) (chD σ i) (LA σ).length := by
          show spL (fA σ) (wO σ) (okZ (-1)) (LA σ) (GA σ) (chD σ i) (LA σ).length = _
          rw [okZ_1]
        rw [hs]; exact mv2
    exact main N 0 h2' (Nat.zero_add _) f2 mv2 mz2
set_option maxHeartbeats 1000000 in
theorem R_chance {d : Nat} {σ : AS} {t n wh : Int} : RSpec (d + 75) mX12_chance [some (.inr (.inr 294)), some (.inl t), some (.inl n), some (.inl wh), none, none, none, none] σ (.inr (.inl (chV σ t n wh))) σ := by
  refine RSpec5.of (RSpec5.u ?_) (fun h Q hk => by simp only [rX12_chance_0, rX12_chance_1, rX12_chance_2, hk, Int.toNat_natCast, Int.natCast_nonneg, true_and, and_true, and_self, if_true, if_false, or_true, true_or, or_false, false_or, ne_eq, not_true_eq_false, not_false_eq_true, Nat.reduceLeDiff, Nat.reduceEqDiff, Nat.reduceLT, Nat.reduceAdd, Nat.reduceMul, Nat.reduceSub, Int.reduceLT, Int.reduceLE, Int.reduceEq, Int.reduceToNat, Int.reduceAdd, Int.reduceSub, Int.reduceMul, Int.reduceNeg, Int.cast_ofNat_Int, false_and, and_false])
  intro h Q x w k
  have m := x.1
  have bad : ¬ ((0 ≤ t ∧ t < sA σ 1) ∧ 0 ≤ wh ∧ wh ≤ 1) → WP (d + 75) mX12_chance 24 [some (.inr (.inr 294)), some (.inl t), some (.inl n), some (.inl wh), none, none, none, none] [] h Q := by
    intro hn
    unfold chV at k
    rw [if_neg hn] at k
    simp only [rX12_chance_24, rX12_chance_27]
    exact k h (Fp.refl _ h)
  simp only [rX12_chance_5, rX12_chance_6, rX12_chance_7, rX12_chance_8, rX12_chance_11, Md_K280 m, Md_R281 m, Md_K281 m, Md_R282 m, Md_K282 m, Md_R283 m, Md_K283 m, Md_R284 m, Md_K284 m, Md_R285 m, Md_K285 m, Md_R286 m, Md_K286 m, Md_R287 m, Md_K287 m, Md_R288 m, Md_K288 m, Md_R289 m, Md_K289 m, Md_R290 m, Md_K290 m, Md_R291 m, Md_K291 m, Md_R292 m, Md_K292 m, Md_R293 m, Md_K293 m, Md_R294 m, Md_K294 m, Md_R295 m, Md_K295 m, Md_R296 m, Md_K296 m, Md_R297 m, Md_K297 m, Md_R298 m, Md_K298 m, Md_R299 m, Md_K299 m, Int.toNat_natCast, Int.natCast_nonneg, true_and, and_true, and_self, if_true, if_false, or_true, true_or, or_false, false_or, ne_eq, not_true_eq_false, not_false_eq_true, Nat.reduceLeDiff, Nat.reduceEqDiff, Nat.reduceLT, Nat.reduceAdd, Nat.reduceMul, Nat.reduceSub, Int.reduceLT, Int.reduceLE, Int.reduceEq, Int.reduceToNat, Int.reduceAdd, Int.reduceSub, Int.reduceMul, Int.reduceNeg, Int.cast_ofNat_Int, false_and, and_false, S_rThing (x.rp w), psh_some]
  by_cases h1 : 0 ≤ t ∧ t < sA σ 1
  · rw [if_pos h1, if_neg (by decide)]
    simp only [rX12_chance_14, rX12_chance_15, rX12_chance_16, rX12_chance_17, rX12_chance_18, rX12_chance_21, S_within, psh_some]
    by_cases h2 : 0 ≤ wh ∧ wh ≤ 1
    · rw [if_pos h2, if_neg (by decide)]
      clear bad
      unfold chV at k
      rw [if_pos ⟨h1, h2⟩] at k
      simp only [rX12_chance_28, rX12_chance_29, rX12_chance_30, rX12_chance_31, rX12_chance_34, rX12_chance_37, rX12_chance_40, rX12_chance_43, S_within, psh_some]
      by_cases h3 : 0 ≤ n ∧ n ≤ 6
      · rw [if_pos h3] at k
        rw [if_pos h3, if_neg (by decide)]
        obtain ⟨tt, rfl⟩ := Int.eq_ofNat_of_zero_le h1.1
        have t6 := t_6 h1.2 w.1.2.1
        obtain ⟨N, rfl⟩ := Int.eq_ofNat_of_zero_le h3.1
        have N6 : N ≤ 6 := Int.ofNat_le.1 h3.2
        simp only [Int.toNat_natCast] at k
        simp only [rX12_chance_44, rX12_chance_45, rX12_chance_46, Md_K280 m, Md_R281 m, Md_K281 m, Md_R282 m, Md_K282 m, Md_R283 m, Md_K283 m, Md_R284 m, Md_K284 m, Md_R285 m, Md_K285 m, Md_R286 m, Md_K286 m, Md_R287 m, Md_K287 m, Md_R288 m, Md_K288 m, Md_R289 m, Md_K289 m, Md_R290 m, Md_K290 m, Md_R291 m, Md_K291 m, Md_R292 m, Md_K292 m, Md_R293 m, Md_K293 m, Md_R294 m, Md_K294 m, Md_R295 m, Md_K295 m, Md_R296 m, Md_K296 m, Md_R297 m, Md_K297 m, Md_R298 m, Md_K298 m, Md_R299 m, Md_K299 m, Int.toNat_natCast, Int.natCast_nonneg, true_and, and_true, and_self, if_true, if_false, or_true, true_or, or_false, false_or, ne_eq, not_true_eq_false, not_false_eq_true, Nat.reduceLeDiff, Nat.reduceEqDiff, Nat.reduceLT, Nat.reduceAdd, Nat.reduceMul, Nat.reduceSub, Int.reduceLT, Int.reduceLE, Int.reduceEq, Int.reduceToNat, Int.reduceAdd, Int.reduceSub, Int.reduceMul, Int.reduceNeg, Int.cast_ofNat_Int, false_and, and_false]
        refine S_laysLikely (d := d + 70) x w N6 ?_
        intro h1' f1 q1 mv1
        have m1 := q1.1
        have ok := q1.2.2.2.1
        have hf := q1.mem (GA_e w)
        have le := cAb_le ok hf tt N
        have lt : cBe σ N < 2 ^ 35 := pow54 w (nO_le N6)
        have la : w64 (smT (LA σ) (chD σ (nO σ N)) tt (LA σ).length : Int) = (cAb σ tt N : Int) := w64_nat (Nat.lt_of_le_of_lt le (Nat.lt_trans lt (by decide)))
        have k0 := k h1' (f1.mono (fun a k q => lyP_u q))
        have gp : 0 < Nat.gcd (cAb σ tt N) (cBe σ N) := Nat.gcd_pos_of_pos_right _ pos_n
        have gz : ¬ ((Nat.gcd (cAb σ tt N) (cBe σ N) : Int) = 0) := fun c => absurd (Int.ofNat_eq_zero.1 c) (Nat.ne_of_gt gp)
        have d1 := div_w (b := Nat.gcd (cAb σ tt N) (cBe σ N)) le lt
        have d2 := div_w (b := Nat.gcd (cAb σ tt N) (cBe σ N)) (Nat.le_refl (cBe σ N)) lt
        have sc := fun (Q : Option PV → Hp → Prop) => S_common (h := h1') 35 (d + 4) (cAb σ tt N) (cBe σ N) Q lt
        simp only [psh_some, rX12_chance_49, rX12_chance_51, rX12_chance_52, rX12_chance_53, Md_K280 m1, Md_R281 m1, Md_K281 m1, Md_R282 m1, Md_K282 m1, Md_R283 m1, Md_K283 m1, Md_R284 m1, Md_K284 m1, Md_R285 m1, Md_K285 m1, Md_R286 m1, Md_K286 m1, Md_R287 m1, Md_K287 m1, Md_R288 m1, Md_K288 m1, Md_R289 m1, Md_K289 m1, Md_R290 m1, Md_K290 m1, Md_R291 m1, Md_K291 m1, Md_R292 m1, Md_K292 m1, Md_R293 m1, Md_K293 m1, Md_R294 m1, Md_K294 m1, Md_R295 m1, Md_K295 m1, Md_R296 m1, Md_K296 m1, Md_R297 m1, Md_K297 m1, Md_R298 m1, Md_K298 m1, Md_R299 m1, Md_K299 m1, Int.toNat_natCast, Int.natCast_nonneg, true_and, and_true, and_self, if_true, if_false, or_true, true_or, or_false, false_or, ne_eq, not_true_eq_false, not_false_eq_true, Nat.reduceLeDiff, Nat.reduceEqDiff, Nat.reduceLT, Nat.reduceAdd, Nat.reduceMul, Nat.reduceSub, Int.reduceLT, Int.reduceLE, Int.reduceEq, Int.reduceToNat, Int.reduceAdd, Int.reduceSub, Int.reduceMul, Int.reduceNeg, Int.cast_ofNat_Int, false_and, and_false]
        refine S_manyThere (d := d + 72) q1 mv1 t6 ?_
        rw [la]
        simp only [psh_some, rX12_chance_56, rX12_chance_58]
        rw [rX12_chance_59]
        by_cases hw : wh = 0
        · simp only [if_pos hw] at k0
          rw [if_pos hw]
          simp only [rX12_chance_62, rX12_chance_64, rX12_chance_67, rX12_chance_69, rX12_chance_71, rX12_chance_73]
          refine (sc _).mpr ?_
          simp only [psh_some, rX12_chance_76, rX12_chance_77, tdiv_nn, d1, gz, ne_eq, not_false_eq_true, true_and]
          exact k0
        · simp only [if_neg hw] at k0
          rw [if_neg hw]
          simp only [rX12_chance_67, rX12_chance_69, rX12_chance_71, rX12_chance_73]
          refine (sc _).mpr ?_
          simp only [psh_some, rX12_chance_76, rX12_chance_77, tdiv_nn, d2, gz, ne_eq, not_false_eq_true, true_and]
          exact k0
      · rw [if_neg h3] at k
        rw [if_neg h3, if_pos (by trivial)]
        exact k h (Fp.refl _ h)
    · rw [if_neg h2, if_pos (by trivial)]
      exact bad (fun c => h2 c.2)
  · rw [if_neg h1, if_pos (by trivial)]
    exact bad (fun c => h1 c.1)
set_option maxHeartbeats 1000000 in
theorem R_likeliest {d : Nat} {σ : AS} {n : Int} : RSpec (d + 5) mX12_likeliest [some (.inr (.inr 294)), some (.inl n), none, none] σ (.inl (lkV σ n)) σ := by
  refine RSpec5.of (RSpec5.u ?_) (fun h Q hk => by simp only [rX12_likeliest_0, rX12_likeliest_1, rX12_likeliest_2, hk, Int.toNat_natCast, Int.natCast_nonneg, true_and, and_true, and_self, if_true, if_false, or_true, true_or, or_false, false_or, ne_eq, not_true_eq_false, not_false_eq_true, Nat.reduceLeDiff, Nat.reduceEqDiff, Nat.reduceLT, Nat.reduceAdd, Nat.reduceMul, Nat.reduceSub, Int.reduceLT, Int.reduceLE, Int.reduceEq, Int.reduceToNat, Int.reduceAdd, Int.reduceSub, Int.reduceMul, Int.reduceNeg, Int.cast_ofNat_Int, false_and, and_false])
  intro h Q x w k
  have m := x.1
  unfold lkV at k
  simp only [rX12_likeliest_5, rX12_likeliest_6, rX12_likeliest_7, rX12_likeliest_8, rX12_likeliest_11, rX12_likeliest_14, rX12_likeliest_17, rX12_likeliest_19, S_within, psh_some]
  by_cases h3 : 0 ≤ n ∧ n ≤ 6
  · rw [if_pos h3] at k
    rw [if_pos h3, if_neg (by decide)]
    obtain ⟨N, rfl⟩ := Int.eq_ofNat_of_zero_le h3.1
    have N6 : N ≤ 6 := Int.ofNat_le.1 h3.2
    simp only [Int.toNat_natCast] at k
    simp only [rX12_likeliest_20, rX12_likeliest_21, rX12_likeliest_22, Md_K280 m, Md_R281 m, Md_K281 m, Md_R282 m, Md_K282 m, Md_R283 m, Md_K283 m, Md_R284 m, Md_K284 m, Md_R285 m, Md_K285 m, Md_R286 m, Md_K286 m, Md_R287 m, Md_K287 m, Md_R288 m, Md_K288 m, Md_R289 m, Md_K289 m, Md_R290 m, Md_K290 m, Md_R291 m, Md_K291 m, Md_R292 m, Md_K292 m, Md_R293 m, Md_K293 m, Md_R294 m, Md_K294 m, Md_R295 m, Md_K295 m, Md_R296 m, Md_K296 m, Md_R297 m, Md_K297 m, Md_R298 m, Md_K298 m, Md_R299 m, Md_K299 m, Int.toNat_natCast, Int.natCast_nonneg, true_and, and_true, and_self, if_true, if_false, or_true, true_or, or_false, false_or, ne_eq, not_true_eq_false, not_false_eq_true, Nat.reduceLeDiff, Nat.reduceEqDiff, Nat.reduceLT, Nat.reduceAdd, Nat.reduceMul, Nat.reduceSub, Int.reduceLT, Int.reduceLE, Int.reduceEq, Int.reduceToNat, Int.reduceAdd, Int.reduceSub, Int.reduceMul, Int.reduceNeg, Int.cast_ofNat_Int, false_and, and_false]
    refine S_laysLikely x w N6 ?_
    intro h1' f1 q1 mv1
    have m1 := q1.1
    have a1 := q1.2.1
    have ok := q1.2.2.2.1
    have hf := q1.mem (GA_e w)
    have lt : cBe σ N < 2 ^ 35 := pow54 w (nO_le N6)
    have la : ∀ t, w64 (smT (LA σ) (chD σ (nO σ N)) t (LA σ).length : Int) = (cAb σ t N : Int) := fun t => w64_nat (Nat.lt_of_le_of_lt (cAb_le ok hf t N) (Nat.lt_trans lt (by decide)))
    have k0 := k h1' (f1.mono (fun a k q => lyP_u q))
    have T6 := w.1.2.1
    have T0 := w.1.1
    have so := w.2.1
    have s3 := so.2.2.1
    have s4 := so.2.2.2.1
    rw [stA1] at s3 s4
    have st' : hI h1' 295 34 = (((sA σ 34).toNat : Nat) : Int) := by rw [a1 34 (by decide), toN s3]
    have aT := a1 1 (by decide)
    have th64 := (t_2 s4).2
    simp only [psh_some, rX12_likeliest_25, rX12_likeliest_26, rX12_likeliest_27, rX12_likeliest_28, rX12_likeliest_29]
    have main : ∀ b t, t + b = (sA σ 1).toNat → WP (d + 5) mX12_likeliest 30 [some (.inr (.inr 294)), some (.inl (N : Int)), some (.inl (lkB (fun t => cAb σ t N) (sA σ 34).toNat t)), some (.inl (t : Int))] [] h1' Q := by
      intro b
      induction b with
      | zero =>
        intro t ht
        obtain ⟨et, et'⟩ := tz_n ht T0
        rw [rX12_likeliest_30]
        simp only [rX12_likeliest_31, rX12_likeliest_32, rX12_likeliest_35, rX12_likeliest_36, rX12_likeliest_37, rX12_likeliest_82, rX12_likeliest_83, Md_K280 m1, Md_R281 m1, Md_K281 m1, Md_R282 m1, Md_K282 m1, Md_R283 m1, Md_K283 m1, Md_R284 m1, Md_K284 m1, Md_R285 m1, Md_K285 m1, Md_R286 m1, Md_K286 m1, Md_R287 m1, Md_K287 m1, Md_R288 m1, Md_K288 m1, Md_R289 m1, Md_K289 m1, Md_R290 m1, Md_K290 m1, Md_R291 m1, Md_K291 m1, Md_R292 m1, Md_K292 m1, Md_R293 m1, Md_K293 m1, Md_R294 m1, Md_K294 m1, Md_R295 m1, Md_K295 m1, Md_R296 m1, Md_K296 m1, Md_R297 m1, Md_K297 m1, Md_R298 m1, Md_K298 m1, Md_R299 m1, Md_K299 m1, aT, et, Int.lt_irrefl, Int.toNat_natCast, Int.natCast_nonneg, true_and, and_true, and_self, if_true, if_false, or_true, true_or, or_false, false_or, ne_eq, not_true_eq_false, not_false_eq_true, Nat.reduceLeDiff, Nat.reduceEqDiff, Nat.reduceLT, Nat.reduceAdd, Nat.reduceMul, Nat.reduceSub, Int.reduceLT, Int.reduceLE, Int.reduceEq, Int.reduceToNat, Int.reduceAdd, Int.reduceSub, Int.reduceMul, Int.reduceNeg, Int.cast_ofNat_Int, false_and, and_false]
        rw [et']
        exact k0
      | succ b ih =>
        intro t ht
        obtain ⟨tT, hn⟩ := ts_n ht
        have t6 := t_6 tT T6
        obtain ⟨ta31, t1⟩ := t31 t6
        have go := ih (t + 1) hn
        have hs : lkB (fun t => cAb σ t N) (sA σ 34).toNat (t + 1) = if (sA σ 34).toNat.testBit t = true then lkB (fun t => cAb σ t N) (sA σ 34).toNat t else if lkB (fun t => cAb σ t N) (sA σ 34).toNat t = -1 ∨ cAb σ (lkB (fun t => cAb σ t N) (sA σ 34).toNat t).toNat N < cAb σ t N then (t : Int) else lkB (fun t => cAb σ t N) (sA σ 34).toNat t := rfl
        rw [rX12_likeliest_30]
        simp only [rX12_likeliest_31, rX12_likeliest_32, rX12_likeliest_35, rX12_likeliest_36, rX12_likeliest_37, rX12_likeliest_40, rX12_likeliest_41, rX12_likeliest_44, rX12_likeliest_46, rX12_likeliest_47, rX12_likeliest_48, rX12_likeliest_49, rX12_likeliest_52, Md_K280 m1, Md_R281 m1, Md_K281 m1, Md_R282 m1, Md_K282 m1, Md_R283 m1, Md_K283 m1, Md_R284 m1, Md_K284 m1, Md_R285 m1, Md_K285 m1, Md_R286 m1, Md_K286 m1, Md_R287 m1, Md_K287 m1, Md_R288 m1, Md_K288 m1, Md_R289 m1, Md_K289 m1, Md_R290 m1, Md_K290 m1, Md_R291 m1, Md_K291 m1, Md_R292 m1, Md_K292 m1, Md_R293 m1, Md_K293 m1, Md_R294 m1, Md_K294 m1, Md_R295 m1, Md_K295 m1, Md_R296 m1, Md_K296 m1, Md_R297 m1, Md_K297 m1, Md_R298 m1, Md_K298 m1, Md_R299 m1, Md_K299 m1, aT, tT, st', S_isIn th64 t6, psh_some, Int.toNat_natCast, Int.natCast_nonneg, true_and, and_true, and_self, if_true, if_false, or_true, true_or, or_false, false_or, ne_eq, not_true_eq_false, not_false_eq_true, Nat.reduceLeDiff, Nat.reduceEqDiff, Nat.reduceLT, Nat.reduceAdd, Nat.reduceMul, Nat.reduceSub, Int.reduceLT, Int.reduceLE, Int.reduceEq, Int.reduceToNat, Int.reduceAdd, Int.reduceSub, Int.reduceMul, Int.reduceNeg, Int.cast_ofNat_Int, false_and, and_false]
        by_cases hb : (sA σ 34).toNat.testBit t = true
        · rw [if_pos hb] at hs
          rw [hs] at go
          simp only [if_pos hb]
          rw [if_neg (by decide)]
          simp only [rX12_likeliest_76, rX12_likeliest_79, t1]
          exact go
        · rw [if_neg hb] at hs
          simp only [if_neg hb]
          rw [if_pos (by trivial)]
          simp only [rX12_likeliest_55, rX12_likeliest_56, rX12_likeliest_57]
          by_cases h5 : lkB (fun t => cAb σ t N) (sA σ 34).toNat t = -1
          · rw [if_pos (Or.inl h5)] at hs
            rw [hs] at go
            rw [if_pos h5]
            simp only [rX12_likeliest_74, rX12_likeliest_75, rX12_likeliest_76, rX12_likeliest_79, t1]
            exact go
          · rw [if_neg h5]
            simp only [rX12_likeliest_60, rX12_likeliest_61, rX12_likeliest_62, Md_K280 m1, Md_R281 m1, Md_K281 m1, Md_R282 m1, Md_K282 m1, Md_R283 m1, Md_K283 m1, Md_R284 m1, Md_K284 m1, Md_R285 m1, Md_K285 m1, Md_R286 m1, Md_K286 m1, Md_R287 m1, Md_K287 m1, Md_R288 m1, Md_K288 m1, Md_R289 m1, Md_K289 m1, Md_R290 m1, Md_K290 m1, Md_R291 m1, Md_K291 m1, Md_R292 m1, Md_K292 m1, Md_R293 m1, Md_K293 m1, Md_R294 m1, Md_K294 m1, Md_R295 m1, Md_K295 m1, Md_R296 m1, Md_K296 m1, Md_R297 m1, Md_K297 m1, Md_R298 m1, Md_K298 m1, Md_R299 m1, Md_K299 m1, Int.toNat_natCast, Int.natCast_nonneg, true_and, and_true, and_self, if_true, if_false, or_true, true_or, or_false, false_or, ne_eq, not_true_eq_false, not_false_eq_true, Nat.reduceLeDiff, Nat.reduceEqDiff, Nat.reduceLT, Nat.reduceAdd, Nat.reduceMul, Nat.reduceSub, Int.reduceLT, Int.reduceLE, Int.reduceEq, Int.reduceToNat, Int.reduceAdd, Int.reduceSub, Int.reduceMul, Int.reduceNeg, Int.cast_ofNat_Int, false_and, and_false]
            refine S_manyThere (d := d + 2) q1 mv1 t6 ?_
            rw [la]
            obtain ⟨q, eq, ql⟩ := (lkB_in (S := fun t => cAb σ t N) (th := (sA σ 34).toNat) t).resolve_left h5
            rw [eq] at hs ⊢
            rw [Int.toNat_natCast] at hs
            simp only [psh_some, rX12_likeliest_65, rX12_likeliest_66, rX12_likeliest_67, Md_K280 m1, Md_R281 m1, Md_K281 m1, Md_R282 m1, Md_K282 m1, Md_R283 m1, Md_K283 m1, Md_R284 m1, Md_K284 m1, Md_R285 m1, Md_K285 m1, Md_R286 m1, Md_K286 m1, Md_R287 m1, Md_K287 m1, Md_R288 m1, Md_K288 m1, Md_R289 m1, Md_K289 m1, Md_R290 m1, Md_K290 m1, Md_R291 m1, Md_K291 m1, Md_R292 m1, Md_K292 m1, Md_R293 m1, Md_K293 m1, Md_R294 m1, Md_K294 m1, Md_R295 m1, Md_K295 m1, Md_R296 m1, Md_K296 m1, Md_R297 m1, Md_K297 m1, Md_R298 m1, Md_K298 m1, Md_R299 m1, Md_K299 m1, Int.toNat_natCast, Int.natCast_nonneg, true_and, and_true, and_self, if_true, if_false, or_true, true_or, or_false, false_or, ne_eq, not_true_eq_false, not_false_eq_true, Nat.reduceLeDiff, Nat.reduceEqDiff, Nat.reduceLT, Nat.reduceAdd, Nat.reduceMul, Nat.reduceSub, Int.reduceLT, Int.reduceLE, Int.reduceEq, Int.reduceToNat, Int.reduceAdd, Int.reduceSub, Int.reduceMul, Int.reduceNeg, Int.cast_ofNat_Int, false_and, and_false]
            refine S_manyThere (d := d + 2) q1 mv1 (Nat.lt_trans ql t6) ?_
            rw [la]
            simp only [psh_some, rX12_likeliest_70, rX12_likeliest_71, lcm_pos]
            by_cases h6 : cAb σ q N < cAb σ t N
            · rw [if_pos (Or.inr h6)] at hs
              rw [hs] at go
              rw [if_pos (Int.ofNat_lt.2 h6)]
              simp only [rX12_likeliest_74, rX12_likeliest_75, rX12_likeliest_76, rX12_likeliest_79, t1]
              exact go
            · rw [if_neg (fun c => c.elim neg1 h6)] at hs
              rw [hs] at go
              rw [if_neg (fun c => h6 (Int.ofNat_lt.1 c))]
              simp only [rX12_likeliest_76, rX12_likeliest_79, t1]
              exact go
    exact main (sA σ 1).toNat 0 (Nat.zero_add _)
  · rw [if_neg h3] at k
    rw [if_neg h3, if_pos (by trivial)]
    exact k h (Fp.refl _ h)
