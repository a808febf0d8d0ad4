/-! the class reads laws: what stands in them -/
theorem L_choice {X : TX} {law n deep d : Nat} {S T : PS → PS} (hS : ∀ d', d ≤ d' → CMt X law d' mX6_readSum [some (.inr (.inr 201)), some (.inl (deep : Int)), none, none] S) (hT : ∀ d', d + 4 ≤ d' → CMt X law d' mX6_readTruth [some (.inr (.inr 201)), some (.inl (deep : Int)), none] T) {h : Hp} {Q : Option PV → Hp → Prop} {r : PS} {b p : Nat} (x : CRel X law h b (p + 2) r) (k : ∀ h', CRel X law h' b (p + 1) (em 3009 (eat X 15 (S (eat X 14 (S (eat X 13 (T r))))))) → Fp PL h h' → Q none h') : WP (d + 17) mX6_readChoice 0 [some (.inr (.inr 201)), some (.inl (deep : Int))] [] h Q := by
  have K := x.1.2.1
  simp only [rX6_readChoice_0, rX6_readChoice_1, rX6_readChoice_2, K, Int.toNat_natCast, Int.natCast_nonneg, true_and, and_true, and_self, if_true, if_false, or_true, true_or, or_false, false_or, ne_eq, not_true_eq_false, not_false_eq_true, Nat.reduceLeDiff, Nat.reduceEqDiff, Nat.reduceLT, Nat.reduceAdd, Nat.reduceMul, Nat.reduceSub, Int.reduceLT, Int.reduceLE, Int.reduceEq, Int.reduceToNat, Int.reduceAdd, Int.reduceSub, Int.reduceMul, Int.reduceNeg, Int.cast_ofNat_Int, false_and, and_false]
  refine hT (d + 16) (by omega) h _ r b (p + 1) x (fun h1 x1 f1 => ?_)
  have K1 := x1.1.2.1
  simp only [psh_none, rX6_readChoice_5, rX6_readChoice_6, rX6_readChoice_8, K1, Int.toNat_natCast, Int.natCast_nonneg, true_and, and_true, and_self, if_true, if_false, or_true, true_or, or_false, false_or, ne_eq, not_true_eq_false, not_false_eq_true, Nat.reduceLeDiff, Nat.reduceEqDiff, Nat.reduceLT, Nat.reduceAdd, Nat.reduceMul, Nat.reduceSub, Int.reduceLT, Int.reduceLE, Int.reduceEq, Int.reduceToNat, Int.reduceAdd, Int.reduceSub, Int.reduceMul, Int.reduceNeg, Int.cast_ofNat_Int, false_and, and_false]
  refine L_takeWord (d := d + 9) x1 (i := 13) (j := 20) (by decide) (by decide) rfl (fun h2 x2 f2 => ?_)
  have K2 := x2.1.2.1
  simp only [psh_none, rX6_readChoice_11, rX6_readChoice_12, rX6_readChoice_13, K2, Int.toNat_natCast, Int.natCast_nonneg, true_and, and_true, and_self, if_true, if_false, or_true, true_or, or_false, false_or, ne_eq, not_true_eq_false, not_false_eq_true, Nat.reduceLeDiff, Nat.reduceEqDiff, Nat.reduceLT, Nat.reduceAdd, Nat.reduceMul, Nat.reduceSub, Int.reduceLT, Int.reduceLE, Int.reduceEq, Int.reduceToNat, Int.reduceAdd, Int.reduceSub, Int.reduceMul, Int.reduceNeg, Int.cast_ofNat_Int, false_and, and_false]
  refine hS (d + 16) (by omega) h2 _ _ b (p + 1) x2 (fun h3 x3 f3 => ?_)
  have K3 := x3.1.2.1
  simp only [psh_none, rX6_readChoice_16, rX6_readChoice_17, rX6_readChoice_19, K3, Int.toNat_natCast, Int.natCast_nonneg, true_and, and_true, and_self, if_true, if_false, or_true, true_or, or_false, false_or, ne_eq, not_true_eq_false, not_false_eq_true, Nat.reduceLeDiff, Nat.reduceEqDiff, Nat.reduceLT, Nat.reduceAdd, Nat.reduceMul, Nat.reduceSub, Int.reduceLT, Int.reduceLE, Int.reduceEq, Int.reduceToNat, Int.reduceAdd, Int.reduceSub, Int.reduceMul, Int.reduceNeg, Int.cast_ofNat_Int, false_and, and_false]
  refine L_takeWord (d := d + 9) x3 (i := 14) (j := 21) (by decide) (by decide) rfl (fun h4 x4 f4 => ?_)
  have K4 := x4.1.2.1
  simp only [psh_none, rX6_readChoice_22, rX6_readChoice_23, rX6_readChoice_24, K4, Int.toNat_natCast, Int.natCast_nonneg, true_and, and_true, and_self, if_true, if_false, or_true, true_or, or_false, false_or, ne_eq, not_true_eq_false, not_false_eq_true, Nat.reduceLeDiff, Nat.reduceEqDiff, Nat.reduceLT, Nat.reduceAdd, Nat.reduceMul, Nat.reduceSub, Int.reduceLT, Int.reduceLE, Int.reduceEq, Int.reduceToNat, Int.reduceAdd, Int.reduceSub, Int.reduceMul, Int.reduceNeg, Int.cast_ofNat_Int, false_and, and_false]
  refine hS (d + 16) (by omega) h4 _ _ b (p + 1) x4 (fun h5 x5 f5 => ?_)
  have K5 := x5.1.2.1
  simp only [psh_none, rX6_readChoice_27, rX6_readChoice_28, rX6_readChoice_30, K5, Int.toNat_natCast, Int.natCast_nonneg, true_and, and_true, and_self, if_true, if_false, or_true, true_or, or_false, false_or, ne_eq, not_true_eq_false, not_false_eq_true, Nat.reduceLeDiff, Nat.reduceEqDiff, Nat.reduceLT, Nat.reduceAdd, Nat.reduceMul, Nat.reduceSub, Int.reduceLT, Int.reduceLE, Int.reduceEq, Int.reduceToNat, Int.reduceAdd, Int.reduceSub, Int.reduceMul, Int.reduceNeg, Int.cast_ofNat_Int, false_and, and_false]
  refine L_takeWord (d := d + 9) x5 (i := 15) (j := 22) (by decide) (by decide) rfl (fun h6 x6 f6 => ?_)
  have K6 := x6.1.2.1
  simp only [psh_none, rX6_readChoice_33, rX6_readChoice_34, rX6_readChoice_36, rX6_readChoice_37, K6, Int.toNat_natCast, Int.natCast_nonneg, true_and, and_true, and_self, if_true, if_false, or_true, true_or, or_false, false_or, ne_eq, not_true_eq_false, not_false_eq_true, Nat.reduceLeDiff, Nat.reduceEqDiff, Nat.reduceLT, Nat.reduceAdd, Nat.reduceMul, Nat.reduceSub, Int.reduceLT, Int.reduceLE, Int.reduceEq, Int.reduceToNat, Int.reduceAdd, Int.reduceSub, Int.reduceMul, Int.reduceNeg, Int.cast_ofNat_Int, false_and, and_false]
  refine L_emit (c := 3009) x6 (by decide) (fun h7 x7 f7 => ?_)
  simp only [psh_none, rX6_readChoice_40]
  exact k h7 x7 (f1.trans (f2.trans (f3.trans (f4.trans (f5.trans (f6.trans f7))))))
theorem L_atom {X : TX} {law n deep d : Nat} {S T : PS → PS} (hl : law < 2) (hd : deep + n = 6) (hS : n ≠ 0 → ∀ d', d ≤ d' → CMt X law d' mX6_readSum [some (.inr (.inr 201)), some (.inl ((deep + 1 : Nat) : Int)), none, none] S) (hT : n ≠ 0 → ∀ d', d + 4 ≤ d' → CMt X law d' mX6_readTruth [some (.inr (.inr 201)), some (.inl ((deep + 1 : Nat) : Int)), none] T) : CMt X law (d + 18) mX6_readAtom [some (.inr (.inr 201)), some (.inl (deep : Int)), none] (pAtom X law n S T) := by
  intro h Q r b p x k
  have K := x.1.2.1
  have kw := fun (Q : Option PV → Hp → Prop) => L_known (d := d + 11) (Q := Q) hl x
  obtain ⟨n1, n2⟩ := x.2.2.1.num
  have s40 : ∀ (Q : Option PV → Hp → Prop), WP (d + 17) mX6_isSign 0 [some (.inr (.inr 201)), some (.inl 40)] [] h Q = Q (some (.inl (zb (tkr X r = 35)))) h := fun Q => C_isSign (d := d + 17) (Q := Q) x.1 x.2.2.1 (z := 40) (by decide)
  have wif : ∀ (Q : Option PV → Hp → Prop), WP (d + 12 + 5) mX6_isWord 0 [some (.inr (.inr 201)), some (.inr (.inr 17)), none] [] h Q = Q (some (.inl (zb (tkr X r = 12)))) h := fun Q => C_isWord (d := d + 12) (Q := Q) x.1 x.2.2.1 (i := 12) (j := 16) (by decide) (by decide) rfl
  unfold pAtom at k
  by_cases a : tkr X r = 24
  · rw [if_pos a] at k
    have e7 := n1.mpr a
    have e8 := n2 a
    have nr : 0 ≤ nms X (ts r) ∧ nms X (ts r) ≤ 999 := by
      cases r with
      | inl y => exact tNm_ok X y.1
      | inr e => exact ⟨Int.le_refl 0, show (0 : Int) ≤ 999 by decide⟩
    simp only [rX6_readAtom_0, rX6_readAtom_1, rX6_readAtom_4, rX6_readAtom_5, rX6_readAtom_6, rX6_readAtom_9, rX6_readAtom_10, rX6_readAtom_13, rX6_readAtom_14, rX6_readAtom_15, rX6_readAtom_16, rX6_readAtom_19, K, kw, psh_some, e7, e8, Int.toNat_natCast, Int.natCast_nonneg, true_and, and_true, and_self, if_true, if_false, or_true, true_or, or_false, false_or, ne_eq, not_true_eq_false, not_false_eq_true, Nat.reduceLeDiff, Nat.reduceEqDiff, Nat.reduceLT, Nat.reduceAdd, Nat.reduceMul, Nat.reduceSub, Int.reduceLT, Int.reduceLE, Int.reduceEq, Int.reduceToNat, Int.reduceAdd, Int.reduceSub, Int.reduceMul, Int.reduceNeg, Int.cast_ofNat_Int, false_and, and_false]
    refine L_emit (c := nms X (ts r)) x (enl_n nr.1 nr.2) (fun h1 x1 f1 => ?_)
    have K1 := x1.1.2.1
    simp only [psh_none, rX6_readAtom_22, rX6_readAtom_23, K1, Int.toNat_natCast, Int.natCast_nonneg, true_and, and_true, and_self, if_true, if_false, or_true, true_or, or_false, false_or, ne_eq, not_true_eq_false, not_false_eq_true, Nat.reduceLeDiff, Nat.reduceEqDiff, Nat.reduceLT, Nat.reduceAdd, Nat.reduceMul, Nat.reduceSub, Int.reduceLT, Int.reduceLE, Int.reduceEq, Int.reduceToNat, Int.reduceAdd, Int.reduceSub, Int.reduceMul, Int.reduceNeg, Int.cast_ofNat_Int, false_and, and_false]
    have a' : tkr X (em (nms X (ts r)) r) = 24 := by unfold tkr; rw [ts_em]; exact a
    refine L_adv (d := d + 11) x1 (by rw [a']; decide) (by rw [a']; decide) (by rw [a']; decide) (fun h2 x2 f2 => ?_)
    simp only [psh_none, rX6_readAtom_26, rX6_readAtom_112]
    exact k h2 (x2.weak (Nat.le_succ b) (Nat.le_refl _)) (f1.trans f2)
  rw [if_neg a] at k
  have e7 : (hI h 201 7 = 2) = False := eq_false (fun z => a (n1.mp z))
  by_cases c : wof law (tkr X r) ≠ -1
  · rw [if_pos c] at k
    have wr := wof_r c
    have w5 : wof law (tkr X r) ≤ 5 := by omega
    simp only [rX6_readAtom_0, rX6_readAtom_1, rX6_readAtom_4, rX6_readAtom_5, rX6_readAtom_6, rX6_readAtom_9, rX6_readAtom_10, rX6_readAtom_29, rX6_readAtom_30, rX6_readAtom_31, rX6_readAtom_34, rX6_readAtom_35, rX6_readAtom_36, rX6_readAtom_37, K, kw, psh_some, e7, eq_false c, Int.toNat_natCast, Int.natCast_nonneg, true_and, and_true, and_self, if_true, if_false, or_true, true_or, or_false, false_or, ne_eq, not_true_eq_false, not_false_eq_true, Nat.reduceLeDiff, Nat.reduceEqDiff, Nat.reduceLT, Nat.reduceAdd, Nat.reduceMul, Nat.reduceSub, Int.reduceLT, Int.reduceLE, Int.reduceEq, Int.reduceToNat, Int.reduceAdd, Int.reduceSub, Int.reduceMul, Int.reduceNeg, Int.cast_ofNat_Int, false_and, and_false]
    refine L_emit (c := 1000 + wof law (tkr X r)) x (enl_v wr.1 w5) (fun h1 x1 f1 => ?_)
    have K1 := x1.1.2.1
    simp only [psh_none, rX6_readAtom_40, rX6_readAtom_41, K1, Int.toNat_natCast, Int.natCast_nonneg, true_and, and_true, and_self, if_true, if_false, or_true, true_or, or_false, false_or, ne_eq, not_true_eq_false, not_false_eq_true, Nat.reduceLeDiff, Nat.reduceEqDiff, Nat.reduceLT, Nat.reduceAdd, Nat.reduceMul, Nat.reduceSub, Int.reduceLT, Int.reduceLE, Int.reduceEq, Int.reduceToNat, Int.reduceAdd, Int.reduceSub, Int.reduceMul, Int.reduceNeg, Int.cast_ofNat_Int, false_and, and_false]
    have a' : tkr X (em (1000 + wof law (tkr X r)) r) = tkr X r := by unfold tkr; rw [ts_em]
    have z0 : 0 ≤ tkr X r ∧ tkr X r ≠ 25 ∧ tkr X r ≠ 26 := by
      refine ⟨?_, fun z => c (by rw [z]; rfl), fun z => c (by rw [z]; rfl)⟩
      cases r with
      | inl y => exact (tk_rng X y.1).1
      | inr e => exact absurd rfl c
    refine L_adv (d := d + 11) x1 (by rw [a']; exact z0.1) (by rw [a']; exact z0.2.1) (by rw [a']; exact z0.2.2) (fun h2 x2 f2 => ?_)
    simp only [psh_none, rX6_readAtom_44, rX6_readAtom_112]
    exact k h2 (x2.weak (Nat.le_succ b) (Nat.le_refl _)) (f1.trans f2)
  rw [if_neg c] at k
  have ce : wof law (tkr X r) = -1 := Decidable.of_not_not c
  by_cases e : tkr X r = 35
  · rw [if_pos e] at k
    by_cases hn : n = 0
    · rw [if_pos hn] at k
      simp only [rX6_readAtom_0, rX6_readAtom_1, rX6_readAtom_4, rX6_readAtom_5, rX6_readAtom_6, rX6_readAtom_9, rX6_readAtom_10, rX6_readAtom_29, rX6_readAtom_30, rX6_readAtom_31, rX6_readAtom_34, rX6_readAtom_35, rX6_readAtom_36, rX6_readAtom_37, rX6_readAtom_40, rX6_readAtom_41, rX6_readAtom_44, rX6_readAtom_47, rX6_readAtom_48, rX6_readAtom_50, rX6_readAtom_53, rX6_readAtom_56, rX6_readAtom_57, rX6_readAtom_58, K, kw, ce, s40, zb_t e, psh_some, e7, Int.toNat_natCast, Int.natCast_nonneg, true_and, and_true, and_self, if_true, if_false, or_true, true_or, or_false, false_or, ne_eq, not_true_eq_false, not_false_eq_true, Nat.reduceLeDiff, Nat.reduceEqDiff, Nat.reduceLT, Nat.reduceAdd, Nat.reduceMul, Nat.reduceSub, Int.reduceLT, Int.reduceLE, Int.reduceEq, Int.reduceToNat, Int.reduceAdd, Int.reduceSub, Int.reduceMul, Int.reduceNeg, Int.cast_ofNat_Int, false_and, and_false]
      refine L_opens0 (d := d + 10) hd hn x (fun h1 x1 f1 => ?_)
      simp only [psh_some, rX6_readAtom_61, rX6_readAtom_112, Int.toNat_natCast, Int.natCast_nonneg, true_and, and_true, and_self, if_true, if_false, or_true, true_or, or_false, false_or, ne_eq, not_true_eq_false, not_false_eq_true, Nat.reduceLeDiff, Nat.reduceEqDiff, Nat.reduceLT, Nat.reduceAdd, Nat.reduceMul, Nat.reduceSub, Int.reduceLT, Int.reduceLE, Int.reduceEq, Int.reduceToNat, Int.reduceAdd, Int.reduceSub, Int.reduceMul, Int.reduceNeg, Int.cast_ofNat_Int, false_and, and_false]
      exact k h1 x1 f1
    · rw [if_neg hn] at k
      simp only [rX6_readAtom_0, rX6_readAtom_1, rX6_readAtom_4, rX6_readAtom_5, rX6_readAtom_6, rX6_readAtom_9, rX6_readAtom_10, rX6_readAtom_29, rX6_readAtom_30, rX6_readAtom_31, rX6_readAtom_34, rX6_readAtom_35, rX6_readAtom_36, rX6_readAtom_37, rX6_readAtom_40, rX6_readAtom_41, rX6_readAtom_44, rX6_readAtom_47, rX6_readAtom_48, rX6_readAtom_50, rX6_readAtom_53, rX6_readAtom_56, rX6_readAtom_57, rX6_readAtom_58, K, kw, ce, s40, zb_t e, psh_some, e7, Int.toNat_natCast, Int.natCast_nonneg, true_and, and_true, and_self, if_true, if_false, or_true, true_or, or_false, false_or, ne_eq, not_true_eq_false, not_false_eq_true, Nat.reduceLeDiff, Nat.reduceEqDiff, Nat.reduceLT, Nat.reduceAdd, Nat.reduceMul, Nat.reduceSub, Int.reduceLT, Int.reduceLE, Int.reduceEq, Int.reduceToNat, Int.reduceAdd, Int.reduceSub, Int.reduceMul, Int.reduceNeg, Int.cast_ofNat_Int, false_and, and_false]
      refine L_opens1 (d := d + 10) hd hn x (by rw [e]; decide) (by rw [e]; decide) (by rw [e]; decide) (fun h1 x1 f1 => ?_)
      have K1 := x1.1.2.1
      simp only [psh_some, rX6_readAtom_61, rX6_readAtom_64, rX6_readAtom_65, rX6_readAtom_66, rX6_readAtom_67, rX6_readAtom_68, K1, (op_2 hd hn).2, Int.toNat_natCast, Int.natCast_nonneg, true_and, and_true, and_self, if_true, if_false, or_true, true_or, or_false, false_or, ne_eq, not_true_eq_false, not_false_eq_true, Nat.reduceLeDiff, Nat.reduceEqDiff, Nat.reduceLT, Nat.reduceAdd, Nat.reduceMul, Nat.reduceSub, Int.reduceLT, Int.reduceLE, Int.reduceEq, Int.reduceToNat, Int.reduceAdd, Int.reduceSub, Int.reduceMul, Int.reduceNeg, Int.cast_ofNat_Int, false_and, and_false]
      refine hS hn (d + 17) (by omega) h1 _ _ (b + 1) (p + 1) x1 (fun h2 x2 f2 => ?_)
      have K2 := x2.1.2.1
      simp only [psh_none, rX6_readAtom_71, rX6_readAtom_72, rX6_readAtom_74, K2, Int.toNat_natCast, Int.natCast_nonneg, true_and, and_true, and_self, if_true, if_false, or_true, true_or, or_false, false_or, ne_eq, not_true_eq_false, not_false_eq_true, Nat.reduceLeDiff, Nat.reduceEqDiff, Nat.reduceLT, Nat.reduceAdd, Nat.reduceMul, Nat.reduceSub, Int.reduceLT, Int.reduceLE, Int.reduceEq, Int.reduceToNat, Int.reduceAdd, Int.reduceSub, Int.reduceMul, Int.reduceNeg, Int.cast_ofNat_Int, false_and, and_false]
      refine L_takeSign (d := d + 10) (z := 41) x2 (by decide) (fun h3 x3 f3 => ?_)
      simp only [psh_none, rX6_readAtom_77, rX6_readAtom_112]
      exact k h3 (x3.weak (Nat.le_succ b) (Nat.le_succ _)) (f1.trans (f2.trans f3))
  rw [if_neg e] at k
  by_cases g : tkr X r = 12
  · rw [if_pos g] at k
    by_cases hn : n = 0
    · rw [if_pos hn] at k
      simp only [rX6_readAtom_0, rX6_readAtom_1, rX6_readAtom_4, rX6_readAtom_5, rX6_readAtom_6, rX6_readAtom_9, rX6_readAtom_10, rX6_readAtom_29, rX6_readAtom_30, rX6_readAtom_31, rX6_readAtom_34, rX6_readAtom_35, rX6_readAtom_36, rX6_readAtom_37, rX6_readAtom_40, rX6_readAtom_41, rX6_readAtom_44, rX6_readAtom_47, rX6_readAtom_48, rX6_readAtom_50, rX6_readAtom_53, rX6_readAtom_80, rX6_readAtom_81, rX6_readAtom_83, rX6_readAtom_86, rX6_readAtom_89, rX6_readAtom_90, rX6_readAtom_91, K, kw, ce, s40, wif, zb_f e, zb_t g, psh_some, e7, Int.toNat_natCast, Int.natCast_nonneg, true_and, and_true, and_self, if_true, if_false, or_true, true_or, or_false, false_or, ne_eq, not_true_eq_false, not_false_eq_true, Nat.reduceLeDiff, Nat.reduceEqDiff, Nat.reduceLT, Nat.reduceAdd, Nat.reduceMul, Nat.reduceSub, Int.reduceLT, Int.reduceLE, Int.reduceEq, Int.reduceToNat, Int.reduceAdd, Int.reduceSub, Int.reduceMul, Int.reduceNeg, Int.cast_ofNat_Int, false_and, and_false]
      refine L_opens0 (d := d + 10) hd hn x (fun h1 x1 f1 => ?_)
      simp only [psh_some, rX6_readAtom_94, rX6_readAtom_112, Int.toNat_natCast, Int.natCast_nonneg, true_and, and_true, and_self, if_true, if_false, or_true, true_or, or_false, false_or, ne_eq, not_true_eq_false, not_false_eq_true, Nat.reduceLeDiff, Nat.reduceEqDiff, Nat.reduceLT, Nat.reduceAdd, Nat.reduceMul, Nat.reduceSub, Int.reduceLT, Int.reduceLE, Int.reduceEq, Int.reduceToNat, Int.reduceAdd, Int.reduceSub, Int.reduceMul, Int.reduceNeg, Int.cast_ofNat_Int, false_and, and_false]
      exact k h1 x1 f1
    · rw [if_neg hn] at k
      simp only [rX6_readAtom_0, rX6_readAtom_1, rX6_readAtom_4, rX6_readAtom_5, rX6_readAtom_6, rX6_readAtom_9, rX6_readAtom_10, rX6_readAtom_29, rX6_readAtom_30, rX6_readAtom_31, rX6_readAtom_34, rX6_readAtom_35, rX6_readAtom_36, rX6_readAtom_37, rX6_readAtom_40, rX6_readAtom_41, rX6_readAtom_44, rX6_readAtom_47, rX6_readAtom_48, rX6_readAtom_50, rX6_readAtom_53, rX6_readAtom_80, rX6_readAtom_81, rX6_readAtom_83, rX6_readAtom_86, rX6_readAtom_89, rX6_readAtom_90, rX6_readAtom_91, K, kw, ce, s40, wif, zb_f e, zb_t g, psh_some, e7, Int.toNat_natCast, Int.natCast_nonneg, true_and, and_true, and_self, if_true, if_false, or_true, true_or, or_false, false_or, ne_eq, not_true_eq_false, not_false_eq_true, Nat.reduceLeDiff, Nat.reduceEqDiff, Nat.reduceLT, Nat.reduceAdd, Nat.reduceMul, Nat.reduceSub, Int.reduceLT, Int.reduceLE, Int.reduceEq, Int.reduceToNat, Int.reduceAdd, Int.reduceSub, Int.reduceMul, Int.reduceNeg, Int.cast_ofNat_Int, false_and, and_false]
      refine L_opens1 (d := d + 10) hd hn x (by rw [g]; decide) (by rw [g]; decide) (by rw [g]; decide) (fun h1 x1 f1 => ?_)
      have K1 := x1.1.2.1
      simp only [psh_some, rX6_readAtom_94, rX6_readAtom_97, rX6_readAtom_98, rX6_readAtom_99, rX6_readAtom_100, rX6_readAtom_101, K1, (op_2 hd hn).2, Int.toNat_natCast, Int.natCast_nonneg, true_and, and_true, and_self, if_true, if_false, or_true, true_or, or_false, false_or, ne_eq, not_true_eq_false, not_false_eq_true, Nat.reduceLeDiff, Nat.reduceEqDiff, Nat.reduceLT, Nat.reduceAdd, Nat.reduceMul, Nat.reduceSub, Int.reduceLT, Int.reduceLE, Int.reduceEq, Int.reduceToNat, Int.reduceAdd, Int.reduceSub, Int.reduceMul, Int.reduceNeg, Int.cast_ofNat_Int, false_and, and_false]
      refine L_choice (n := n) (hS hn) (hT hn) (p := p) (b := b + 1) x1 (fun h2 x2 f2 => ?_)
      simp only [psh_none, rX6_readAtom_104, rX6_readAtom_112]
      exact k h2 (x2.weak (Nat.le_succ b) (Nat.le_refl _)) (f1.trans f2)
  rw [if_neg g] at k
  simp only [rX6_readAtom_0, rX6_readAtom_1, rX6_readAtom_4, rX6_readAtom_5, rX6_readAtom_6, rX6_readAtom_9, rX6_readAtom_10, rX6_readAtom_29, rX6_readAtom_30, rX6_readAtom_31, rX6_readAtom_34, rX6_readAtom_35, rX6_readAtom_36, rX6_readAtom_37, rX6_readAtom_40, rX6_readAtom_41, rX6_readAtom_44, rX6_readAtom_47, rX6_readAtom_48, rX6_readAtom_50, rX6_readAtom_53, rX6_readAtom_80, rX6_readAtom_81, rX6_readAtom_83, rX6_readAtom_86, rX6_readAtom_107, rX6_readAtom_108, rX6_readAtom_109, K, kw, ce, s40, wif, zb_f e, zb_f g, psh_some, e7, Int.toNat_natCast, Int.natCast_nonneg, true_and, and_true, and_self, if_true, if_false, or_true, true_or, or_false, false_or, ne_eq, not_true_eq_false, not_false_eq_true, Nat.reduceLeDiff, Nat.reduceEqDiff, Nat.reduceLT, Nat.reduceAdd, Nat.reduceMul, Nat.reduceSub, Int.reduceLT, Int.reduceLE, Int.reduceEq, Int.reduceToNat, Int.reduceAdd, Int.reduceSub, Int.reduceMul, Int.reduceNeg, Int.cast_ofNat_Int, false_and, and_false]
  refine L_fail x (by decide) (fun h1 x1 f1 => ?_)
  simp only [psh_none, rX6_readAtom_112]
  exact k h1 x1 f1
theorem i_9 {i : Nat} (h : i < 900) : ((i : Int) < 900) = True ∧ i ≤ 1000 := ⟨eq_true (by omega), by omega⟩
theorem i_10 {i : Nat} (h : ¬ i < 900) : ((i : Int) < 900) = False := eq_false (by omega)
theorem L_termx {X : TX} {law deep d i : Nat} {h : Hp} {Q : Option PV → Hp → Prop} {r : PS} {b p : Nat} (x : CRel X law h b p r) (c : ¬ tkr X r = 34) (k : Q none h) : WP (d + 19) mX6_readTerm 7 [some (.inr (.inr 201)), some (.inl (deep : Int)), some (.inl (i : Int))] [] h Q := by
  have K := x.1.2.1
  have tst : ∀ (Q : Option PV → Hp → Prop), WP (d + 18) mX6_isSign 0 [some (.inr (.inr 201)), some (.inl 42)] [] h Q = Q (some (.inl (zb (tkr X r = 34)))) h := fun Q => C_isSign (d := d + 18) (Q := Q) x.1 x.2.2.1 (z := 42) (by decide)
  rw [rX6_readTerm_7]
  by_cases hi : i < 900
  · simp only [rX6_readTerm_8, rX6_readTerm_11, rX6_readTerm_14, rX6_readTerm_15, rX6_readTerm_17, rX6_readTerm_20, rX6_readTerm_44, K, (i_9 hi).1, tst, zb_f c, psh_some, Int.toNat_natCast, Int.natCast_nonneg, true_and, and_true, and_self, if_true, if_false, or_true, true_or, or_false, false_or, ne_eq, not_true_eq_false, not_false_eq_true, Nat.reduceLeDiff, Nat.reduceEqDiff, Nat.reduceLT, Nat.reduceAdd, Nat.reduceMul, Nat.reduceSub, Int.reduceLT, Int.reduceLE, Int.reduceEq, Int.reduceToNat, Int.reduceAdd, Int.reduceSub, Int.reduceMul, Int.reduceNeg, Int.cast_ofNat_Int, false_and, and_false]
    exact k
  · simp only [rX6_readTerm_8, rX6_readTerm_11, rX6_readTerm_14, rX6_readTerm_15, rX6_readTerm_17, rX6_readTerm_20, rX6_readTerm_44, i_10 hi, Int.toNat_natCast, Int.natCast_nonneg, true_and, and_true, and_self, if_true, if_false, or_true, true_or, or_false, false_or, ne_eq, not_true_eq_false, not_false_eq_true, Nat.reduceLeDiff, Nat.reduceEqDiff, Nat.reduceLT, Nat.reduceAdd, Nat.reduceMul, Nat.reduceSub, Int.reduceLT, Int.reduceLE, Int.reduceEq, Int.reduceToNat, Int.reduceAdd, Int.reduceSub, Int.reduceMul, Int.reduceNeg, Int.cast_ofNat_Int, false_and, and_false]
    exact k
theorem L_terml {X : TX} {law deep d : Nat} {A : PS → PS} (hA : CMt X law (d + 18) mX6_readAtom [some (.inr (.inr 201)), some (.inl (deep : Int)), none] A) : ∀ (m i : Nat) (h : Hp) (Q : Option PV → Hp → Prop) (r : PS) (b p : Nat), i ≤ b → X.2 ≤ b + m → CRel X law h b (p + 1) r → (∀ h', CRel X law h' b (p + 1) (lp X gT A m r) → Fp PL h h' → Q none h') → WP (d + 19) mX6_readTerm 7 [some (.inr (.inr 201)), some (.inl (deep : Int)), some (.inl (i : Int))] [] h Q := by
  intro m
  induction m with
  | zero =>
    intro i h Q r b p hi hm x k
    refine L_termx x (fun e => ?_) (k h x (Fp.refl _ h))
    have := x.lt (by rw [e]; decide) (by rw [e]; decide)
    omega
  | succ m ih =>
    intro i h Q r b p hi hm x k
    by_cases c : tkr X r = 34
    · have bl := x.lt (by rw [c]; decide) (by rw [c]; decide)
      have h9 := x.1.2.2.2.2.2.2.2.1
      have hi9 : i < 900 := by omega
      obtain ⟨l9, l1⟩ := i_9 hi9
      have K := x.1.2.1
      have tst : ∀ (Q : Option PV → Hp → Prop), WP (d + 18) mX6_isSign 0 [some (.inr (.inr 201)), some (.inl 42)] [] h Q = Q (some (.inl (zb (tkr X r = 34)))) h := fun Q => C_isSign (d := d + 18) (Q := Q) x.1 x.2.2.1 (z := 42) (by decide)
      rw [rX6_readTerm_7]
      simp only [rX6_readTerm_8, rX6_readTerm_11, rX6_readTerm_14, rX6_readTerm_15, rX6_readTerm_17, rX6_readTerm_20, rX6_readTerm_23, rX6_readTerm_24, K, l9, tst, zb_t c, psh_some, Int.toNat_natCast, Int.natCast_nonneg, true_and, and_true, and_self, if_true, if_false, or_true, true_or, or_false, false_or, ne_eq, not_true_eq_false, not_false_eq_true, Nat.reduceLeDiff, Nat.reduceEqDiff, Nat.reduceLT, Nat.reduceAdd, Nat.reduceMul, Nat.reduceSub, Int.reduceLT, Int.reduceLE, Int.reduceEq, Int.reduceToNat, Int.reduceAdd, Int.reduceSub, Int.reduceMul, Int.reduceNeg, Int.cast_ofNat_Int, false_and, and_false]
      refine L_adv (d := d + 12) x (by rw [c]; decide) (by rw [c]; decide) (by rw [c]; decide) (fun h1 x1 f1 => ?_)
      have K1 := x1.1.2.1
      simp only [psh_none, rX6_readTerm_27, rX6_readTerm_28, rX6_readTerm_29, K1, Int.toNat_natCast, Int.natCast_nonneg, true_and, and_true, and_self, if_true, if_false, or_true, true_or, or_false, false_or, ne_eq, not_true_eq_false, not_false_eq_true, Nat.reduceLeDiff, Nat.reduceEqDiff, Nat.reduceLT, Nat.reduceAdd, Nat.reduceMul, Nat.reduceSub, Int.reduceLT, Int.reduceLE, Int.reduceEq, Int.reduceToNat, Int.reduceAdd, Int.reduceSub, Int.reduceMul, Int.reduceNeg, Int.cast_ofNat_Int, false_and, and_false]
      refine hA h1 _ _ (b + 1) (p + 1) x1 (fun h2 x2 f2 => ?_)
      have K2 := x2.1.2.1
      simp only [psh_none, rX6_readTerm_32, rX6_readTerm_33, rX6_readTerm_34, rX6_readTerm_35, K2, Int.toNat_natCast, Int.natCast_nonneg, true_and, and_true, and_self, if_true, if_false, or_true, true_or, or_false, false_or, ne_eq, not_true_eq_false, not_false_eq_true, Nat.reduceLeDiff, Nat.reduceEqDiff, Nat.reduceLT, Nat.reduceAdd, Nat.reduceMul, Nat.reduceSub, Int.reduceLT, Int.reduceLE, Int.reduceEq, Int.reduceToNat, Int.reduceAdd, Int.reduceSub, Int.reduceMul, Int.reduceNeg, Int.cast_ofNat_Int, false_and, and_false]
      refine L_emit (c := 3002) x2 (by decide) (fun h3 x3 f3 => ?_)
      simp only [psh_none, rX6_readTerm_38, rX6_readTerm_41, i_p1 l1, Int.toNat_natCast, Int.natCast_nonneg, true_and, and_true, and_self, if_true, if_false, or_true, true_or, or_false, false_or, ne_eq, not_true_eq_false, not_false_eq_true, Nat.reduceLeDiff, Nat.reduceEqDiff, Nat.reduceLT, Nat.reduceAdd, Nat.reduceMul, Nat.reduceSub, Int.reduceLT, Int.reduceLE, Int.reduceEq, Int.reduceToNat, Int.reduceAdd, Int.reduceSub, Int.reduceMul, Int.reduceNeg, Int.cast_ofNat_Int, false_and, and_false]
      refine ih (i + 1) h3 Q _ (b + 1) p (by omega) (by omega) x3 (fun h4 x4 f4 => ?_)
      refine k h4 ?_ (f1.trans (f2.trans (f3.trans f4)))
      have e : lp X gT A (m + 1) r = lp X gT A m (em 3002 (A (nx X r))) := by
        show (if gT (tkr X r) ≠ 0 then _ else _) = _
        rw [c]; rfl
      rw [e]
      exact x4.weak (Nat.le_succ b) (Nat.le_refl _)
    · have e : lp X gT A (m + 1) r = r := by
        show (if gT (tkr X r) ≠ 0 then _ else _) = _
        rw [if_neg]
        unfold gT; rw [if_neg c]; decide
      rw [e] at k
      exact L_termx x c (k h x (Fp.refl _ h))
theorem L_term {X : TX} {law deep d : Nat} {A : PS → PS} (hA : CMt X law (d + 18) mX6_readAtom [some (.inr (.inr 201)), some (.inl (deep : Int)), none] A) : CMt X law (d + 19) mX6_readTerm [some (.inr (.inr 201)), some (.inl (deep : Int)), none] (fun r => lp X gT A 900 (A r)) := by
  intro h Q r b p x k
  have K := x.1.2.1
  have h9 := x.1.2.2.2.2.2.2.2.1
  simp only [rX6_readTerm_0, rX6_readTerm_1, rX6_readTerm_2, K, Int.toNat_natCast, Int.natCast_nonneg, true_and, and_true, and_self, if_true, if_false, or_true, true_or, or_false, false_or, ne_eq, not_true_eq_false, not_false_eq_true, Nat.reduceLeDiff, Nat.reduceEqDiff, Nat.reduceLT, Nat.reduceAdd, Nat.reduceMul, Nat.reduceSub, Int.reduceLT, Int.reduceLE, Int.reduceEq, Int.reduceToNat, Int.reduceAdd, Int.reduceSub, Int.reduceMul, Int.reduceNeg, Int.cast_ofNat_Int, false_and, and_false]
  refine hA h _ _ b p x (fun h1 x1 f1 => ?_)
  simp only [psh_none, rX6_readTerm_5, rX6_readTerm_6, Int.toNat_natCast, Int.natCast_nonneg, true_and, and_true, and_self, if_true, if_false, or_true, true_or, or_false, false_or, ne_eq, not_true_eq_false, not_false_eq_true, Nat.reduceLeDiff, Nat.reduceEqDiff, Nat.reduceLT, Nat.reduceAdd, Nat.reduceMul, Nat.reduceSub, Int.reduceLT, Int.reduceLE, Int.reduceEq, Int.reduceToNat, Int.reduceAdd, Int.reduceSub, Int.reduceMul, Int.reduceNeg, Int.cast_ofNat_Int, false_and, and_false]
  exact L_terml hA 900 0 h1 Q _ b p (Nat.zero_le _) (by omega) x1 (fun h2 x2 f2 => k h2 x2 (f1.trans f2))
theorem L_bothx {X : TX} {law deep d i : Nat} {h : Hp} {Q : Option PV → Hp → Prop} {r : PS} {b p : Nat} (x : CRel X law h b p r) (c : ¬ tkr X r = 20) (k : Q none h) : WP (d + 23) mX6_readBoth 7 [some (.inr (.inr 201)), some (.inl (deep : Int)), some (.inl (i : Int))] [] h Q := by
  have K := x.1.2.1
  have tst : ∀ (Q : Option PV → Hp → Prop), WP (d + 17 + 5) mX6_isWord 0 [some (.inr (.inr 201)), some (.inr (.inr 19)), none] [] h Q = Q (some (.inl (zb (tkr X r = 20)))) h := fun Q => C_isWord (d := d + 17) (Q := Q) x.1 x.2.2.1 (i := 20) (j := 18) (by decide) (by decide) rfl
  rw [rX6_readBoth_7]
  by_cases hi : i < 900
  · simp only [rX6_readBoth_8, rX6_readBoth_11, rX6_readBoth_14, rX6_readBoth_15, rX6_readBoth_17, rX6_readBoth_20, rX6_readBoth_45, K, (i_9 hi).1, tst, zb_f c, psh_some, Int.toNat_natCast, Int.natCast_nonneg, true_and, and_true, and_self, if_true, if_false, or_true, true_or, or_false, false_or, ne_eq, not_true_eq_false, not_false_eq_true, Nat.reduceLeDiff, Nat.reduceEqDiff, Nat.reduceLT, Nat.reduceAdd, Nat.reduceMul, Nat.reduceSub, Int.reduceLT, Int.reduceLE, Int.reduceEq, Int.reduceToNat, Int.reduceAdd, Int.reduceSub, Int.reduceMul, Int.reduceNeg, Int.cast_ofNat_Int, false_and, and_false]
    exact k
  · simp only [rX6_readBoth_8, rX6_readBoth_11, rX6_readBoth_14, rX6_readBoth_15, rX6_readBoth_17, rX6_readBoth_20, rX6_readBoth_45, i_10 hi, Int.toNat_natCast, Int.natCast_nonneg, true_and, and_true, and_self, if_true, if_false, or_true, true_or, or_false, false_or, ne_eq, not_true_eq_false, not_false_eq_true, Nat.reduceLeDiff, Nat.reduceEqDiff, Nat.reduceLT, Nat.reduceAdd, Nat.reduceMul, Nat.reduceSub, Int.reduceLT, Int.reduceLE, Int.reduceEq, Int.reduceToNat, Int.reduceAdd, Int.reduceSub, Int.reduceMul, Int.reduceNeg, Int.cast_ofNat_Int, false_and, and_false]
    exact k
theorem L_bothl {X : TX} {law deep d : Nat} {A : PS → PS} (hA : CMt X law (d + 22) mX6_readUnit [some (.inr (.inr 201)), some (.inl (deep : Int))] A) : ∀ (m i : Nat) (h : Hp) (Q : Option PV → Hp → Prop) (r : PS) (b p : Nat), i ≤ b → X.2 ≤ b + m → CRel X law h b (p + 1) r → (∀ h', CRel X law h' b (p + 1) (lp X gA A m r) → Fp PL h h' → Q none h') → WP (d + 23) mX6_readBoth 7 [some (.inr (.inr 201)), some (.inl (deep : Int)), some (.inl (i : Int))] [] h Q := by
  intro m
  induction m with
  | zero =>
    intro i h Q r b p hi hm x k
    refine L_bothx x (fun e => ?_) (k h x (Fp.refl _ h))
    have := x.lt (by rw [e]; decide) (by rw [e]; decide)
    omega
  | succ m ih =>
    intro i h Q r b p hi hm x k
    by_cases c : tkr X r = 20
    · have bl := x.lt (by rw [c]; decide) (by rw [c]; decide)
      have h9 := x.1.2.2.2.2.2.2.2.1
      have hi9 : i < 900 := by omega
      obtain ⟨l9, l1⟩ := i_9 hi9
      have K := x.1.2.1
      have tst : ∀ (Q : Option PV → Hp → Prop), WP (d + 17 + 5) mX6_isWord 0 [some (.inr (.inr 201)), some (.inr (.inr 19)), none] [] h Q = Q (some (.inl (zb (tkr X r = 20)))) h := fun Q => C_isWord (d := d + 17) (Q := Q) x.1 x.2.2.1 (i := 20) (j := 18) (by decide) (by decide) rfl
      rw [rX6_readBoth_7]
      simp only [rX6_readBoth_8, rX6_readBoth_11, rX6_readBoth_14, rX6_readBoth_15, rX6_readBoth_17, rX6_readBoth_20, rX6_readBoth_23, rX6_readBoth_24, K, l9, tst, zb_t c, psh_some, Int.toNat_natCast, Int.natCast_nonneg, true_and, and_true, and_self, if_true, if_false, or_true, true_or, or_false, false_or, ne_eq, not_true_eq_false, not_false_eq_true, Nat.reduceLeDiff, Nat.reduceEqDiff, Nat.reduceLT, Nat.reduceAdd, Nat.reduceMul, Nat.reduceSub, Int.reduceLT, Int.reduceLE, Int.reduceEq, Int.reduceToNat, Int.reduceAdd, Int.reduceSub, Int.reduceMul, Int.reduceNeg, Int.cast_ofNat_Int, false_and, and_false]
      refine L_adv (d := d + 16) x (by rw [c]; decide) (by rw [c]; decide) (by rw [c]; decide) (fun h1 x1 f1 => ?_)
      have K1 := x1.1.2.1
      simp only [psh_none, rX6_readBoth_27, rX6_readBoth_28, rX6_readBoth_29, K1, Int.toNat_natCast, Int.natCast_nonneg, true_and, and_true, and_self, if_true, if_false, or_true, true_or, or_false, false_or, ne_eq, not_true_eq_false, not_false_eq_true, Nat.reduceLeDiff, Nat.reduceEqDiff, Nat.reduceLT, Nat.reduceAdd, Nat.reduceMul, Nat.reduceSub, Int.reduceLT, Int.reduceLE, Int.reduceEq, Int.reduceToNat, Int.reduceAdd, Int.reduceSub, Int.reduceMul, Int.reduceNeg, Int.cast_ofNat_Int, false_and, and_false]
      refine hA h1 _ _ (b + 1) (p + 1) x1 (fun h2 x2 f2 => ?_)
      have K2 := x2.1.2.1
      simp only [psh_none, rX6_readBoth_32, rX6_readBoth_33, rX6_readBoth_35, rX6_readBoth_36, K2, Int.toNat_natCast, Int.natCast_nonneg, true_and, and_true, and_self, if_true, if_false, or_true, true_or, or_false, false_or, ne_eq, not_true_eq_false, not_false_eq_true, Nat.reduceLeDiff, Nat.reduceEqDiff, Nat.reduceLT, Nat.reduceAdd, Nat.reduceMul, Nat.reduceSub, Int.reduceLT, Int.reduceLE, Int.reduceEq, Int.reduceToNat, Int.reduceAdd, Int.reduceSub, Int.reduceMul, Int.reduceNeg, Int.cast_ofNat_Int, false_and, and_false]
      refine L_emit (c := 3007) x2 (by decide) (fun h3 x3 f3 => ?_)
      simp only [psh_none, rX6_readBoth_39, rX6_readBoth_42, i_p1 l1, Int.toNat_natCast, Int.natCast_nonneg, true_and, and_true, and_self, if_true, if_false, or_true, true_or, or_false, false_or, ne_eq, not_true_eq_false, not_false_eq_true, Nat.reduceLeDiff, Nat.reduceEqDiff, Nat.reduceLT, Nat.reduceAdd, Nat.reduceMul, Nat.reduceSub, Int.reduceLT, Int.reduceLE, Int.reduceEq, Int.reduceToNat, Int.reduceAdd, Int.reduceSub, Int.reduceMul, Int.reduceNeg, Int.cast_ofNat_Int, false_and, and_false]
      refine ih (i + 1) h3 Q _ (b + 1) p (by omega) (by omega) x3 (fun h4 x4 f4 => ?_)
      refine k h4 ?_ (f1.trans (f2.trans (f3.trans f4)))
      have e : lp X gA A (m + 1) r = lp X gA A m (em 3007 (A (nx X r))) := by
        show (if gA (tkr X r) ≠ 0 then _ else _) = _
        rw [c]; rfl
      rw [e]
      exact x4.weak (Nat.le_succ b) (Nat.le_refl _)
    · have e : lp X gA A (m + 1) r = r := by
        show (if gA (tkr X r) ≠ 0 then _ else _) = _
        rw [if_neg]
        unfold gA; rw [if_neg c]; decide
      rw [e] at k
      exact L_bothx x c (k h x (Fp.refl _ h))
theorem L_both {X : TX} {law deep d : Nat} {A : PS → PS} (hA : CMt X law (d + 22) mX6_readUnit [some (.inr (.inr 201)), some (.inl (deep : Int))] A) : CMt X law (d + 23) mX6_readBoth [some (.inr (.inr 201)), some (.inl (deep : Int)), none] (fun r => lp X gA A 900 (A r)) := by
  intro h Q r b p x k
  have K := x.1.2.1
  have h9 := x.1.2.2.2.2.2.2.2.1
  simp only [rX6_readBoth_0, rX6_readBoth_1, rX6_readBoth_2, K, Int.toNat_natCast, Int.natCast_nonneg, true_and, and_true, and_self, if_true, if_false, or_true, true_or, or_false, false_or, ne_eq, not_true_eq_false, not_false_eq_true, Nat.reduceLeDiff, Nat.reduceEqDiff, Nat.reduceLT, Nat.reduceAdd, Nat.reduceMul, Nat.reduceSub, Int.reduceLT, Int.reduceLE, Int.reduceEq, Int.reduceToNat, Int.reduceAdd, Int.reduceSub, Int.reduceMul, Int.reduceNeg, Int.cast_ofNat_Int, false_and, and_false]
  refine hA h _ _ b p x (fun h1 x1 f1 => ?_)
  simp only [psh_none, rX6_readBoth_5, rX6_readBoth_6, Int.toNat_natCast, Int.natCast_nonneg, true_and, and_true, and_self, if_true, if_false, or_true, true_or, or_false, false_or, ne_eq, not_true_eq_false, not_false_eq_true, Nat.reduceLeDiff, Nat.reduceEqDiff, Nat.reduceLT, Nat.reduceAdd, Nat.reduceMul, Nat.reduceSub, Int.reduceLT, Int.reduceLE, Int.reduceEq, Int.reduceToNat, Int.reduceAdd, Int.reduceSub, Int.reduceMul, Int.reduceNeg, Int.cast_ofNat_Int, false_and, and_false]
  exact L_bothl hA 900 0 h1 Q _ b p (Nat.zero_le _) (by omega) x1 (fun h2 x2 f2 => k h2 x2 (f1.trans f2))
theorem L_truthx {X : TX} {law deep d i : Nat} {h : Hp} {Q : Option PV → Hp → Prop} {r : PS} {b p : Nat} (x : CRel X law h b p r) (c : ¬ tkr X r = 21) (k : Q none h) : WP (d + 24) mX6_readTruth 7 [some (.inr (.inr 201)), some (.inl (deep : Int)), some (.inl (i : Int))] [] h Q := by
  have K := x.1.2.1
  have tst : ∀ (Q : Option PV → Hp → Prop), WP (d + 18 + 5) mX6_isWord 0 [some (.inr (.inr 201)), some (.inr (.inr 20)), none] [] h Q = Q (some (.inl (zb (tkr X r = 21)))) h := fun Q => C_isWord (d := d + 18) (Q := Q) x.1 x.2.2.1 (i := 21) (j := 19) (by decide) (by decide) rfl
  rw [rX6_readTruth_7]
  by_cases hi : i < 900
  · simp only [rX6_readTruth_8, rX6_readTruth_11, rX6_readTruth_14, rX6_readTruth_15, rX6_readTruth_17, rX6_readTruth_20, rX6_readTruth_45, K, (i_9 hi).1, tst, zb_f c, psh_some, Int.toNat_natCast, Int.natCast_nonneg, true_and, and_true, and_self, if_true, if_false, or_true, true_or, or_false, false_or, ne_eq, not_true_eq_false, not_false_eq_true, Nat.reduceLeDiff, Nat.reduceEqDiff, Nat.reduceLT, Nat.reduceAdd, Nat.reduceMul, Nat.reduceSub, Int.reduceLT, Int.reduceLE, Int.reduceEq, Int.reduceToNat, Int.reduceAdd, Int.reduceSub, Int.reduceMul, Int.reduceNeg, Int.cast_ofNat_Int, false_and, and_false]
    exact k
  · simp only [rX6_readTruth_8, rX6_readTruth_11, rX6_readTruth_14, rX6_readTruth_15, rX6_readTruth_17, rX6_readTruth_20, rX6_readTruth_45, i_10 hi, Int.toNat_natCast, Int.natCast_nonneg, true_and, and_true, and_self, if_true, if_false, or_true, true_or, or_false, false_or, ne_eq, not_true_eq_false, not_false_eq_true, Nat.reduceLeDiff, Nat.reduceEqDiff, Nat.reduceLT, Nat.reduceAdd, Nat.reduceMul, Nat.reduceSub, Int.reduceLT, Int.reduceLE, Int.reduceEq, Int.reduceToNat, Int.reduceAdd, Int.reduceSub, Int.reduceMul, Int.reduceNeg, Int.cast_ofNat_Int, false_and, and_false]
    exact k
theorem L_truthl {X : TX} {law deep d : Nat} {A : PS → PS} (hA : CMt X law (d + 23) mX6_readBoth [some (.inr (.inr 201)), some (.inl (deep : Int)), none] A) : ∀ (m i : Nat) (h : Hp) (Q : Option PV → Hp → Prop) (r : PS) (b p : Nat), i ≤ b → X.2 ≤ b + m → CRel X law h b (p + 1) r → (∀ h', CRel X law h' b (p + 1) (lp X gO A m r) → Fp PL h h' → Q none h') → WP (d + 24) mX6_readTruth 7 [some (.inr (.inr 201)), some (.inl (deep : Int)), some (.inl (i : Int))] [] h Q := by
  intro m
  induction m with
  | zero =>
    intro i h Q r b p hi hm x k
    refine L_truthx x (fun e => ?_) (k h x (Fp.refl _ h))
    have := x.lt (by rw [e]; decide) (by rw [e]; decide)
    omega
  | succ m ih =>
    intro i h Q r b p hi hm x k
    by_cases c : tkr X r = 21
    · have bl := x.lt (by rw [c]; decide) (by rw [c]; decide)
      have h9 := x.1.2.2.2.2.2.2.2.1
      have hi9 : i < 900 := by omega
      obtain ⟨l9, l1⟩ := i_9 hi9
      have K := x.1.2.1
      have tst : ∀ (Q : Option PV → Hp → Prop), WP (d + 18 + 5) mX6_isWord 0 [some (.inr (.inr 201)), some (.inr (.inr 20)), none] [] h Q = Q (some (.inl (zb (tkr X r = 21)))) h := fun Q => C_isWord (d := d + 18) (Q := Q) x.1 x.2.2.1 (i := 21) (j := 19) (by decide) (by decide) rfl
      rw [rX6_readTruth_7]
      simp only [rX6_readTruth_8, rX6_readTruth_11, rX6_readTruth_14, rX6_readTruth_15, rX6_readTruth_17, rX6_readTruth_20, rX6_readTruth_23, rX6_readTruth_24, K, l9, tst, zb_t c, psh_some, Int.toNat_natCast, Int.natCast_nonneg, true_and, and_true, and_self, if_true, if_false, or_true, true_or, or_false, false_or, ne_eq, not_true_eq_false, not_false_eq_true, Nat.reduceLeDiff, Nat.reduceEqDiff, Nat.reduceLT, Nat.reduceAdd, Nat.reduceMul, Nat.reduceSub, Int.reduceLT, Int.reduceLE, Int.reduceEq, Int.reduceToNat, Int.reduceAdd, Int.reduceSub, Int.reduceMul, Int.reduceNeg, Int.cast_ofNat_Int, false_and, and_false]
      refine L_adv (d := d + 17) x (by rw [c]; decide) (by rw [c]; decide) (by rw [c]; decide) (fun h1 x1 f1 => ?_)
      have K1 := x1.1.2.1
      simp only [psh_none, rX6_readTruth_27, rX6_readTruth_28, rX6_readTruth_29, K1, Int.toNat_natCast, Int.natCast_nonneg, true_and, and_true, and_self, if_true, if_false, or_true, true_or, or_false, false_or, ne_eq, not_true_eq_false, not_false_eq_true, Nat.reduceLeDiff, Nat.reduceEqDiff, Nat.reduceLT, Nat.reduceAdd, Nat.reduceMul, Nat.reduceSub, Int.reduceLT, Int.reduceLE, Int.reduceEq, Int.reduceToNat, Int.reduceAdd, Int.reduceSub, Int.reduceMul, Int.reduceNeg, Int.cast_ofNat_Int, false_and, and_false]
      refine hA h1 _ _ (b + 1) (p + 1) x1 (fun h2 x2 f2 => ?_)
      have K2 := x2.1.2.1
      simp only [psh_none, rX6_readTruth_32, rX6_readTruth_33, rX6_readTruth_35, rX6_readTruth_36, K2, Int.toNat_natCast, Int.natCast_nonneg, true_and, and_true, and_self, if_true, if_false, or_true, true_or, or_false, false_or, ne_eq, not_true_eq_false, not_false_eq_true, Nat.reduceLeDiff, Nat.reduceEqDiff, Nat.reduceLT, Nat.reduceAdd, Nat.reduceMul, Nat.reduceSub, Int.reduceLT, Int.reduceLE, Int.reduceEq, Int.reduceToNat, Int.reduceAdd, Int.reduceSub, Int.reduceMul, Int.reduceNeg, Int.cast_ofNat_Int, false_and, and_false]
      refine L_emit (c := 3008) x2 (by decide) (fun h3 x3 f3 => ?_)
      simp only [psh_none, rX6_readTruth_39, rX6_readTruth_42, i_p1 l1, Int.toNat_natCast, Int.natCast_nonneg, true_and, and_true, and_self, if_true, if_false, or_true, true_or, or_false, false_or, ne_eq, not_true_eq_false, not_false_eq_true, Nat.reduceLeDiff, Nat.reduceEqDiff, Nat.reduceLT, Nat.reduceAdd, Nat.reduceMul, Nat.reduceSub, Int.reduceLT, Int.reduceLE, Int.reduceEq, Int.reduceToNat, Int.reduceAdd, Int.reduceSub, Int.reduceMul, Int.reduceNeg, Int.cast_ofNat_Int, false_and, and_false]
      refine ih (i + 1) h3 Q _ (b + 1) p (by omega) (by omega) x3 (fun h4 x4 f4 => ?_)
      refine k h4 ?_ (f1.trans (f2.trans (f3.trans f4)))
      have e : lp X gO A (m + 1) r = lp X gO A m (em 3008 (A (nx X r))) := by
        show (if gO (tkr X r) ≠ 0 then _ else _) = _
        rw [c]; rfl
      rw [e]
      exact x4.weak (Nat.le_succ b) (Nat.le_refl _)
    · have e : lp X gO A (m + 1) r = r := by
        show (if gO (tkr X r) ≠ 0 then _ else _) = _
        rw [if_neg]
        unfold gO; rw [if_neg c]; decide
      rw [e] at k
      exact L_truthx x c (k h x (Fp.refl _ h))
theorem L_truth {X : TX} {law deep d : Nat} {A : PS → PS} (hA : CMt X law (d + 23) mX6_readBoth [some (.inr (.inr 201)), some (.inl (deep : Int)), none] A) : CMt X law (d + 24) mX6_readTruth [some (.inr (.inr 201)), some (.inl (deep : Int)), none] (fun r => lp X gO A 900 (A r)) := by
  intro h Q r b p x k
  have K := x.1.2.1
  have h9 := x.1.2.2.2.2.2.2.2.1
  simp only [rX6_readTruth_0, rX6_readTruth_1, rX6_readTruth_2, K, Int.toNat_natCast, Int.natCast_nonneg, true_and, and_true, and_self, if_true, if_false, or_true, true_or, or_false, false_or, ne_eq, not_true_eq_false, not_false_eq_true, Nat.reduceLeDiff, Nat.reduceEqDiff, Nat.reduceLT, Nat.reduceAdd, Nat.reduceMul, Nat.reduceSub, Int.reduceLT, Int.reduceLE, Int.reduceEq, Int.reduceToNat, Int.reduceAdd, Int.reduceSub, Int.reduceMul, Int.reduceNeg, Int.cast_ofNat_Int, false_and, and_false]
  refine hA h _ _ b p x (fun h1 x1 f1 => ?_)
  simp only [psh_none, rX6_readTruth_5, rX6_readTruth_6, Int.toNat_natCast, Int.natCast_nonneg, true_and, and_true, and_self, if_true, if_false, or_true, true_or, or_false, false_or, ne_eq, not_true_eq_false, not_false_eq_true, Nat.reduceLeDiff, Nat.reduceEqDiff, Nat.reduceLT, Nat.reduceAdd, Nat.reduceMul, Nat.reduceSub, Int.reduceLT, Int.reduceLE, Int.reduceEq, Int.reduceToNat, Int.reduceAdd, Int.reduceSub, Int.reduceMul, Int.reduceNeg, Int.cast_ofNat_Int, false_and, and_false]
  exact L_truthl hA 900 0 h1 Q _ b p (Nat.zero_le _) (by omega) x1 (fun h2 x2 f2 => k h2 x2 (f1.trans f2))
theorem L_sumx {X : TX} {law deep d i : Nat} {h : Hp} {Q : Option PV → Hp → Prop} {r : PS} {b p : Nat} {y : Option PV} (x : CRel X law h b p r) (c : ¬ tkr X r = 32) (c2 : ¬ tkr X r = 33) (k : Q none h) : WP (d + 20) mX6_readSum 7 [some (.inr (.inr 201)), some (.inl (deep : Int)), some (.inl (i : Int)), y] [] h Q := by
  have K := x.1.2.1
  have t1 : ∀ (Q : Option PV → Hp → Prop), WP (d + 19) mX6_isSign 0 [some (.inr (.inr 201)), some (.inl 43)] [] h Q = Q (some (.inl (zb (tkr X r = 32)))) h := fun Q => C_isSign (d := d + 19) (Q := Q) x.1 x.2.2.1 (z := 43) (by decide)
  have t2 : ∀ (Q : Option PV → Hp → Prop), WP (d + 19) mX6_isSign 0 [some (.inr (.inr 201)), some (.inl 45)] [] h Q = Q (some (.inl (zb (tkr X r = 33)))) h := fun Q => C_isSign (d := d + 19) (Q := Q) x.1 x.2.2.1 (z := 45) (by decide)
  rw [rX6_readSum_7]
  by_cases hi : i < 900
  · simp only [rX6_readSum_8, rX6_readSum_11, rX6_readSum_14, rX6_readSum_15, rX6_readSum_17, rX6_readSum_20, rX6_readSum_23, rX6_readSum_24, rX6_readSum_26, rX6_readSum_29, rX6_readSum_68, K, (i_9 hi).1, t1, t2, zb_f c, zb_f c2, psh_some, Int.toNat_natCast, Int.natCast_nonneg, true_and, and_true, and_self, if_true, if_false, or_true, true_or, or_false, false_or, ne_eq, not_true_eq_false, not_false_eq_true, Nat.reduceLeDiff, Nat.reduceEqDiff, Nat.reduceLT, Nat.reduceAdd, Nat.reduceMul, Nat.reduceSub, Int.reduceLT, Int.reduceLE, Int.reduceEq, Int.reduceToNat, Int.reduceAdd, Int.reduceSub, Int.reduceMul, Int.reduceNeg, Int.cast_ofNat_Int, false_and, and_false]
    exact k
  · simp only [rX6_readSum_8, rX6_readSum_11, rX6_readSum_68, i_10 hi, Int.toNat_natCast, Int.natCast_nonneg, true_and, and_true, and_self, if_true, if_false, or_true, true_or, or_false, false_or, ne_eq, not_true_eq_false, not_false_eq_true, Nat.reduceLeDiff, Nat.reduceEqDiff, Nat.reduceLT, Nat.reduceAdd, Nat.reduceMul, Nat.reduceSub, Int.reduceLT, Int.reduceLE, Int.reduceEq, Int.reduceToNat, Int.reduceAdd, Int.reduceSub, Int.reduceMul, Int.reduceNeg, Int.cast_ofNat_Int, false_and, and_false]
    exact k
theorem L_suml {X : TX} {law deep d : Nat} {A : PS → PS} (hA : CMt X law (d + 19) mX6_readTerm [some (.inr (.inr 201)), some (.inl (deep : Int)), none] A) : ∀ (m i : Nat) (h : Hp) (Q : Option PV → Hp → Prop) (r : PS) (b p : Nat) (y : Option PV), i ≤ b → X.2 ≤ b + m → CRel X law h b (p + 1) r → (∀ h', CRel X law h' b (p + 1) (lp X gS A m r) → Fp PL h h' → Q none h') → WP (d + 20) mX6_readSum 7 [some (.inr (.inr 201)), some (.inl (deep : Int)), some (.inl (i : Int)), y] [] h Q := by
  intro m
  induction m with
  | zero =>
    intro i h Q r b p y hi hm x k
    refine L_sumx x (fun e => ?_) (fun e => ?_) (k h x (Fp.refl _ h))
    · have := x.lt (by rw [e]; decide) (by rw [e]; decide)
      omega
    · have := x.lt (by rw [e]; decide) (by rw [e]; decide)
      omega
  | succ m ih =>
    intro i h Q r b p y hi hm x k
    by_cases c32 : tkr X r = 32
    · have bl := x.lt (by rw [c32]; decide) (by rw [c32]; decide)
      have h9 := x.1.2.2.2.2.2.2.2.1
      have hi9 : i < 900 := by omega
      obtain ⟨l9, l1⟩ := i_9 hi9
      have K := x.1.2.1
      have t1 : ∀ (Q : Option PV → Hp → Prop), WP (d + 19) mX6_isSign 0 [some (.inr (.inr 201)), some (.inl 43)] [] h Q = Q (some (.inl (zb (tkr X r = 32)))) h := fun Q => C_isSign (d := d + 19) (Q := Q) x.1 x.2.2.1 (z := 43) (by decide)
      have t2 : ∀ (Q : Option PV → Hp → Prop), WP (d + 19) mX6_isSign 0 [some (.inr (.inr 201)), some (.inl 45)] [] h Q = Q (some (.inl (zb (tkr X r = 33)))) h := fun Q => C_isSign (d := d + 19) (Q := Q) x.1 x.2.2.1 (z := 45) (by decide)
      rw [rX6_readSum_7]
      simp only [rX6_readSum_8, rX6_readSum_11, rX6_readSum_14, rX6_readSum_15, rX6_readSum_17, rX6_readSum_20, rX6_readSum_23, rX6_readSum_24, rX6_readSum_26, rX6_readSum_29, rX6_readSum_32, rX6_readSum_33, rX6_readSum_35, rX6_readSum_38, rX6_readSum_41, rX6_readSum_42, rX6_readSum_45, rX6_readSum_46, rX6_readSum_47, rX6_readSum_48, K, l9, t1, t2, zb_t c32, psh_some, Int.toNat_natCast, Int.natCast_nonneg, true_and, and_true, and_self, if_true, if_false, or_true, true_or, or_false, false_or, ne_eq, not_true_eq_false, not_false_eq_true, Nat.reduceLeDiff, Nat.reduceEqDiff, Nat.reduceLT, Nat.reduceAdd, Nat.reduceMul, Nat.reduceSub, Int.reduceLT, Int.reduceLE, Int.reduceEq, Int.reduceToNat, Int.reduceAdd, Int.reduceSub, Int.reduceMul, Int.reduceNeg, Int.cast_ofNat_Int, false_and, and_false]
      refine L_adv (d := d + 13) x (by rw [c32]; decide) (by rw [c32]; decide) (by rw [c32]; decide) (fun h1 x1 f1 => ?_)
      have K1 := x1.1.2.1
      simp only [psh_none, rX6_readSum_51, rX6_readSum_52, rX6_readSum_53, K1, Int.toNat_natCast, Int.natCast_nonneg, true_and, and_true, and_self, if_true, if_false, or_true, true_or, or_false, false_or, ne_eq, not_true_eq_false, not_false_eq_true, Nat.reduceLeDiff, Nat.reduceEqDiff, Nat.reduceLT, Nat.reduceAdd, Nat.reduceMul, Nat.reduceSub, Int.reduceLT, Int.reduceLE, Int.reduceEq, Int.reduceToNat, Int.reduceAdd, Int.reduceSub, Int.reduceMul, Int.reduceNeg, Int.cast_ofNat_Int, false_and, and_false]
      refine hA h1 _ _ (b + 1) (p + 1) x1 (fun h2 x2 f2 => ?_)
      have K2 := x2.1.2.1
      simp only [psh_none, rX6_readSum_56, rX6_readSum_57, rX6_readSum_58, rX6_readSum_59, K2, Int.toNat_natCast, Int.natCast_nonneg, true_and, and_true, and_self, if_true, if_false, or_true, true_or, or_false, false_or, ne_eq, not_true_eq_false, not_false_eq_true, Nat.reduceLeDiff, Nat.reduceEqDiff, Nat.reduceLT, Nat.reduceAdd, Nat.reduceMul, Nat.reduceSub, Int.reduceLT, Int.reduceLE, Int.reduceEq, Int.reduceToNat, Int.reduceAdd, Int.reduceSub, Int.reduceMul, Int.reduceNeg, Int.cast_ofNat_Int, false_and, and_false]
      refine L_emit (c := 3000) x2 (by decide) (fun h3 x3 f3 => ?_)
      simp only [psh_none, rX6_readSum_62, rX6_readSum_65, i_p1 l1, Int.toNat_natCast, Int.natCast_nonneg, true_and, and_true, and_self, if_true, if_false, or_true, true_or, or_false, false_or, ne_eq, not_true_eq_false, not_false_eq_true, Nat.reduceLeDiff, Nat.reduceEqDiff, Nat.reduceLT, Nat.reduceAdd, Nat.reduceMul, Nat.reduceSub, Int.reduceLT, Int.reduceLE, Int.reduceEq, Int.reduceToNat, Int.reduceAdd, Int.reduceSub, Int.reduceMul, Int.reduceNeg, Int.cast_ofNat_Int, false_and, and_false]
      refine ih (i + 1) h3 Q _ (b + 1) p _ (by omega) (by omega) x3 (fun h4 x4 f4 => ?_)
      refine k h4 ?_ (f1.trans (f2.trans (f3.trans f4)))
      have e : lp X gS A (m + 1) r = lp X gS A m (em 3000 (A (nx X r))) := by
        show (if gS (tkr X r) ≠ 0 then _ else _) = _
        rw [c32]; rfl
      rw [e]
      exact x4.weak (Nat.le_succ b) (Nat.le_refl _)
    by_cases c33 : tkr X r = 33
    · have bl := x.lt (by rw [c33]; decide) (by rw [c33]; decide)
      have h9 := x.1.2.2.2.2.2.2.2.1
      have hi9 : i < 900 := by omega
      obtain ⟨l9, l1⟩ := i_9 hi9
      have K := x.1.2.1
      have t1 : ∀ (Q : Option PV → Hp → Prop), WP (d + 19) mX6_isSign 0 [some (.inr (.inr 201)), some (.inl 43)] [] h Q = Q (some (.inl (zb (tkr X r = 32)))) h := fun Q => C_isSign (d := d + 19) (Q := Q) x.1 x.2.2.1 (z := 43) (by decide)
      have t2 : ∀ (Q : Option PV → Hp → Prop), WP (d + 19) mX6_isSign 0 [some (.inr (.inr 201)), some (.inl 45)] [] h Q = Q (some (.inl (zb (tkr X r = 33)))) h := fun Q => C_isSign (d := d + 19) (Q := Q) x.1 x.2.2.1 (z := 45) (by decide)
      rw [rX6_readSum_7]
      simp only [rX6_readSum_8, rX6_readSum_11, rX6_readSum_14, rX6_readSum_15, rX6_readSum_17, rX6_readSum_20, rX6_readSum_23, rX6_readSum_24, rX6_readSum_26, rX6_readSum_29, rX6_readSum_32, rX6_readSum_33, rX6_readSum_35, rX6_readSum_38, rX6_readSum_41, rX6_readSum_42, rX6_readSum_45, rX6_readSum_46, rX6_readSum_47, rX6_readSum_48, K, l9, t1, t2, zb_f c32, zb_t c33, psh_some, Int.toNat_natCast, Int.natCast_nonneg, true_and, and_true, and_self, if_true, if_false, or_true, true_or, or_false, false_or, ne_eq, not_true_eq_false, not_false_eq_true, Nat.reduceLeDiff, Nat.reduceEqDiff, Nat.reduceLT, Nat.reduceAdd, Nat.reduceMul, Nat.reduceSub, Int.reduceLT, Int.reduceLE, Int.reduceEq, Int.reduceToNat, Int.reduceAdd, Int.reduceSub, Int.reduceMul, Int.reduceNeg, Int.cast_ofNat_Int, false_and, and_false]
      refine L_adv (d := d + 13) x (by rw [c33]; decide) (by rw [c33]; decide) (by rw [c33]; decide) (fun h1 x1 f1 => ?_)
      have K1 := x1.1.2.1
      simp only [psh_none, rX6_readSum_51, rX6_readSum_52, rX6_readSum_53, K1, Int.toNat_natCast, Int.natCast_nonneg, true_and, and_true, and_self, if_true, if_false, or_true, true_or, or_false, false_or, ne_eq, not_true_eq_false, not_false_eq_true, Nat.reduceLeDiff, Nat.reduceEqDiff, Nat.reduceLT, Nat.reduceAdd, Nat.reduceMul, Nat.reduceSub, Int.reduceLT, Int.reduceLE, Int.reduceEq, Int.reduceToNat, Int.reduceAdd, Int.reduceSub, Int.reduceMul, Int.reduceNeg, Int.cast_ofNat_Int, false_and, and_false]
      refine hA h1 _ _ (b + 1) (p + 1) x1 (fun h2 x2 f2 => ?_)
      have K2 := x2.1.2.1
      simp only [psh_none, rX6_readSum_56, rX6_readSum_57, rX6_readSum_58, rX6_readSum_59, K2, Int.toNat_natCast, Int.natCast_nonneg, true_and, and_true, and_self, if_true, if_false, or_true, true_or, or_false, false_or, ne_eq, not_true_eq_false, not_false_eq_true, Nat.reduceLeDiff, Nat.reduceEqDiff, Nat.reduceLT, Nat.reduceAdd, Nat.reduceMul, Nat.reduceSub, Int.reduceLT, Int.reduceLE, Int.reduceEq, Int.reduceToNat, Int.reduceAdd, Int.reduceSub, Int.reduceMul, Int.reduceNeg, Int.cast_ofNat_Int, false_and, and_false]
      refine L_emit (c := 3001) x2 (by decide) (fun h3 x3 f3 => ?_)
      simp only [psh_none, rX6_readSum_62, rX6_readSum_65, i_p1 l1, Int.toNat_natCast, Int.natCast_nonneg, true_and, and_true, and_self, if_true, if_false, or_true, true_or, or_false, false_or, ne_eq, not_true_eq_false, not_false_eq_true, Nat.reduceLeDiff, Nat.reduceEqDiff, Nat.reduceLT, Nat.reduceAdd, Nat.reduceMul, Nat.reduceSub, Int.reduceLT, Int.reduceLE, Int.reduceEq, Int.reduceToNat, Int.reduceAdd, Int.reduceSub, Int.reduceMul, Int.reduceNeg, Int.cast_ofNat_Int, false_and, and_false]
      refine ih (i + 1) h3 Q _ (b + 1) p _ (by omega) (by omega) x3 (fun h4 x4 f4 => ?_)
      refine k h4 ?_ (f1.trans (f2.trans (f3.trans f4)))
      have e : lp X gS A (m + 1) r = lp X gS A m (em 3001 (A (nx X r))) := by
        show (if gS (tkr X r) ≠ 0 then _ else _) = _
        rw [c33]; rfl
      rw [e]
      exact x4.weak (Nat.le_succ b) (Nat.le_refl _)
    have e : lp X gS A (m + 1) r = r := by
      show (if gS (tkr X r) ≠ 0 then _ else _) = _
      rw [if_neg]
      unfold gS; rw [if_neg c32, if_neg c33]; decide
    rw [e] at k
    exact L_sumx x c32 c33 (k h x (Fp.refl _ h))
theorem L_sum {X : TX} {law deep d : Nat} {A : PS → PS} (hA : CMt X law (d + 19) mX6_readTerm [some (.inr (.inr 201)), some (.inl (deep : Int)), none] A) : CMt X law (d + 20) mX6_readSum [some (.inr (.inr 201)), some (.inl (deep : Int)), none, none] (fun r => lp X gS A 900 (A r)) := by
  intro h Q r b p x k
  have K := x.1.2.1
  have h9 := x.1.2.2.2.2.2.2.2.1
  simp only [rX6_readSum_0, rX6_readSum_1, rX6_readSum_2, K, Int.toNat_natCast, Int.natCast_nonneg, true_and, and_true, and_self, if_true, if_false, or_true, true_or, or_false, false_or, ne_eq, not_true_eq_false, not_false_eq_true, Nat.reduceLeDiff, Nat.reduceEqDiff, Nat.reduceLT, Nat.reduceAdd, Nat.reduceMul, Nat.reduceSub, Int.reduceLT, Int.reduceLE, Int.reduceEq, Int.reduceToNat, Int.reduceAdd, Int.reduceSub, Int.reduceMul, Int.reduceNeg, Int.cast_ofNat_Int, false_and, and_false]
  refine hA h _ _ b p x (fun h1 x1 f1 => ?_)
  simp only [psh_none, rX6_readSum_5, rX6_readSum_6, Int.toNat_natCast, Int.natCast_nonneg, true_and, and_true, and_self, if_true, if_false, or_true, true_or, or_false, false_or, ne_eq, not_true_eq_false, not_false_eq_true, Nat.reduceLeDiff, Nat.reduceEqDiff, Nat.reduceLT, Nat.reduceAdd, Nat.reduceMul, Nat.reduceSub, Int.reduceLT, Int.reduceLE, Int.reduceEq, Int.reduceToNat, Int.reduceAdd, Int.reduceSub, Int.reduceMul, Int.reduceNeg, Int.cast_ofNat_Int, false_and, and_false]
  exact L_suml hA 900 0 h1 Q _ b p _ (Nat.zero_le _) (by omega) x1 (fun h2 x2 f2 => k h2 x2 (f1.trans f2))
theorem L_cmp {X : TX} {law deep d : Nat} {S : PS → PS} (hS : CMt X law (d + 20) mX6_readSum [some (.inr (.inr 201)), some (.inl (deep : Int)), none, none] S) : CMt X law (d + 21) mX6_readComparison [some (.inr (.inr 201)), some (.inl (deep : Int)), none] (pCmp X S) := by
  intro h Q r b p x k
  have K := x.1.2.1
  simp only [rX6_readComparison_0, rX6_readComparison_1, rX6_readComparison_2, K, Int.toNat_natCast, Int.natCast_nonneg, true_and, and_true, and_self, if_true, if_false, or_true, true_or, or_false, false_or, ne_eq, not_true_eq_false, not_false_eq_true, Nat.reduceLeDiff, Nat.reduceEqDiff, Nat.reduceLT, Nat.reduceAdd, Nat.reduceMul, Nat.reduceSub, Int.reduceLT, Int.reduceLE, Int.reduceEq, Int.reduceToNat, Int.reduceAdd, Int.reduceSub, Int.reduceMul, Int.reduceNeg, Int.cast_ofNat_Int, false_and, and_false]
  refine hS h _ _ b p x (fun h1 x1 f1 => ?_)
  have K1 := x1.1.2.1
  unfold pCmp at k
  have t61 : ∀ (Q : Option PV → Hp → Prop), WP (d + 20) mX6_isSign 0 [some (.inr (.inr 201)), some (.inl 61)] [] h1 Q = Q (some (.inl (zb (tkr X (S r) = 39)))) h1 := fun Q => C_isSign (d := d + 20) (Q := Q) x1.1 x1.2.2.1 (z := 61) (by decide)
  have t60 : ∀ (Q : Option PV → Hp → Prop), WP (d + 20) mX6_isSign 0 [some (.inr (.inr 201)), some (.inl 60)] [] h1 Q = Q (some (.inl (zb (tkr X (S r) = 40)))) h1 := fun Q => C_isSign (d := d + 20) (Q := Q) x1.1 x1.2.2.1 (z := 60) (by decide)
  have t62 : ∀ (Q : Option PV → Hp → Prop), WP (d + 20) mX6_isSign 0 [some (.inr (.inr 201)), some (.inl 62)] [] h1 Q = Q (some (.inl (zb (tkr X (S r) = 41)))) h1 := fun Q => C_isSign (d := d + 20) (Q := Q) x1.1 x1.2.2.1 (z := 62) (by decide)
  by_cases c39 : tkr X (S r) = 39
  · rw [if_pos (by rw [c39]; decide), show gC (tkr X (S r)) = 3003 by rw [c39]; rfl] at k
    simp only [psh_none, rX6_readComparison_5, rX6_readComparison_6, rX6_readComparison_8, rX6_readComparison_11, rX6_readComparison_14, rX6_readComparison_15, rX6_readComparison_18, rX6_readComparison_19, rX6_readComparison_21, rX6_readComparison_24, rX6_readComparison_27, rX6_readComparison_29, rX6_readComparison_32, rX6_readComparison_33, rX6_readComparison_35, rX6_readComparison_38, rX6_readComparison_41, rX6_readComparison_43, rX6_readComparison_46, rX6_readComparison_47, rX6_readComparison_48, rX6_readComparison_49, rX6_readComparison_50, rX6_readComparison_59, rX6_readComparison_60, K1, t61, t60, t62, zb_t c39, psh_some, Int.toNat_natCast, Int.natCast_nonneg, true_and, and_true, and_self, if_true, if_false, or_true, true_or, or_false, false_or, ne_eq, not_true_eq_false, not_false_eq_true, Nat.reduceLeDiff, Nat.reduceEqDiff, Nat.reduceLT, Nat.reduceAdd, Nat.reduceMul, Nat.reduceSub, Int.reduceLT, Int.reduceLE, Int.reduceEq, Int.reduceToNat, Int.reduceAdd, Int.reduceSub, Int.reduceMul, Int.reduceNeg, Int.cast_ofNat_Int, false_and, and_false]
    refine L_adv (d := d + 14) x1 (by rw [c39]; decide) (by rw [c39]; decide) (by rw [c39]; decide) (fun h2 x2 f2 => ?_)
    have K2 := x2.1.2.1
    simp only [psh_none, rX6_readComparison_63, rX6_readComparison_64, rX6_readComparison_65, K2, Int.toNat_natCast, Int.natCast_nonneg, true_and, and_true, and_self, if_true, if_false, or_true, true_or, or_false, false_or, ne_eq, not_true_eq_false, not_false_eq_true, Nat.reduceLeDiff, Nat.reduceEqDiff, Nat.reduceLT, Nat.reduceAdd, Nat.reduceMul, Nat.reduceSub, Int.reduceLT, Int.reduceLE, Int.reduceEq, Int.reduceToNat, Int.reduceAdd, Int.reduceSub, Int.reduceMul, Int.reduceNeg, Int.cast_ofNat_Int, false_and, and_false]
    refine hS h2 _ _ (b + 1) (p + 1) x2 (fun h3 x3 f3 => ?_)
    have K3 := x3.1.2.1
    simp only [psh_none, rX6_readComparison_68, rX6_readComparison_69, rX6_readComparison_70, rX6_readComparison_71, K3, Int.toNat_natCast, Int.natCast_nonneg, true_and, and_true, and_self, if_true, if_false, or_true, true_or, or_false, false_or, ne_eq, not_true_eq_false, not_false_eq_true, Nat.reduceLeDiff, Nat.reduceEqDiff, Nat.reduceLT, Nat.reduceAdd, Nat.reduceMul, Nat.reduceSub, Int.reduceLT, Int.reduceLE, Int.reduceEq, Int.reduceToNat, Int.reduceAdd, Int.reduceSub, Int.reduceMul, Int.reduceNeg, Int.cast_ofNat_Int, false_and, and_false]
    refine L_emit (c := 3003) x3 (by decide) (fun h4 x4 f4 => ?_)
    simp only [psh_none, rX6_readComparison_74]
    exact k h4 (x4.weak (Nat.le_succ b) (Nat.le_refl _)) (f1.trans (f2.trans (f3.trans f4)))
  by_cases c40 : tkr X (S r) = 40
  · rw [if_pos (by rw [c40]; decide), show gC (tkr X (S r)) = 3004 by rw [c40]; rfl] at k
    simp only [psh_none, rX6_readComparison_5, rX6_readComparison_6, rX6_readComparison_8, rX6_readComparison_11, rX6_readComparison_14, rX6_readComparison_15, rX6_readComparison_18, rX6_readComparison_19, rX6_readComparison_21, rX6_readComparison_24, rX6_readComparison_27, rX6_readComparison_29, rX6_readComparison_32, rX6_readComparison_33, rX6_readComparison_35, rX6_readComparison_38, rX6_readComparison_41, rX6_readComparison_43, rX6_readComparison_46, rX6_readComparison_47, rX6_readComparison_48, rX6_readComparison_49, rX6_readComparison_50, rX6_readComparison_59, rX6_readComparison_60, K1, t61, t60, t62, zb_f c39, zb_t c40, psh_some, Int.toNat_natCast, Int.natCast_nonneg, true_and, and_true, and_self, if_true, if_false, or_true, true_or, or_false, false_or, ne_eq, not_true_eq_false, not_false_eq_true, Nat.reduceLeDiff, Nat.reduceEqDiff, Nat.reduceLT, Nat.reduceAdd, Nat.reduceMul, Nat.reduceSub, Int.reduceLT, Int.reduceLE, Int.reduceEq, Int.reduceToNat, Int.reduceAdd, Int.reduceSub, Int.reduceMul, Int.reduceNeg, Int.cast_ofNat_Int, false_and, and_false]
    refine L_adv (d := d + 14) x1 (by rw [c40]; decide) (by rw [c40]; decide) (by rw [c40]; decide) (fun h2 x2 f2 => ?_)
    have K2 := x2.1.2.1
    simp only [psh_none, rX6_readComparison_63, rX6_readComparison_64, rX6_readComparison_65, K2, Int.toNat_natCast, Int.natCast_nonneg, true_and, and_true, and_self, if_true, if_false, or_true, true_or, or_false, false_or, ne_eq, not_true_eq_false, not_false_eq_true, Nat.reduceLeDiff, Nat.reduceEqDiff, Nat.reduceLT, Nat.reduceAdd, Nat.reduceMul, Nat.reduceSub, Int.reduceLT, Int.reduceLE, Int.reduceEq, Int.reduceToNat, Int.reduceAdd, Int.reduceSub, Int.reduceMul, Int.reduceNeg, Int.cast_ofNat_Int, false_and, and_false]
    refine hS h2 _ _ (b + 1) (p + 1) x2 (fun h3 x3 f3 => ?_)
    have K3 := x3.1.2.1
    simp only [psh_none, rX6_readComparison_68, rX6_readComparison_69, rX6_readComparison_70, rX6_readComparison_71, K3, Int.toNat_natCast, Int.natCast_nonneg, true_and, and_true, and_self, if_true, if_false, or_true, true_or, or_false, false_or, ne_eq, not_true_eq_false, not_false_eq_true, Nat.reduceLeDiff, Nat.reduceEqDiff, Nat.reduceLT, Nat.reduceAdd, Nat.reduceMul, Nat.reduceSub, Int.reduceLT, Int.reduceLE, Int.reduceEq, Int.reduceToNat, Int.reduceAdd, Int.reduceSub, Int.reduceMul, Int.reduceNeg, Int.cast_ofNat_Int, false_and, and_false]
    refine L_emit (c := 3004) x3 (by decide) (fun h4 x4 f4 => ?_)
    simp only [psh_none, rX6_readComparison_74]
    exact k h4 (x4.weak (Nat.le_succ b) (Nat.le_refl _)) (f1.trans (f2.trans (f3.trans f4)))
  by_cases c41 : tkr X (S r) = 41
  · rw [if_pos (by rw [c41]; decide), show gC (tkr X (S r)) = 3005 by rw [c41]; rfl] at k
    simp only [psh_none, rX6_readComparison_5, rX6_readComparison_6, rX6_readComparison_8, rX6_readComparison_11, rX6_readComparison_14, rX6_readComparison_15, rX6_readComparison_18, rX6_readComparison_19, rX6_readComparison_21, rX6_readComparison_24, rX6_readComparison_27, rX6_readComparison_29, rX6_readComparison_32, rX6_readComparison_33, rX6_readComparison_35, rX6_readComparison_38, rX6_readComparison_41, rX6_readComparison_43, rX6_readComparison_46, rX6_readComparison_47, rX6_readComparison_48, rX6_readComparison_49, rX6_readComparison_50, rX6_readComparison_59, rX6_readComparison_60, K1, t61, t60, t62, zb_f c39, zb_f c40, zb_t c41, psh_some, Int.toNat_natCast, Int.natCast_nonneg, true_and, and_true, and_self, if_true, if_false, or_true, true_or, or_false, false_or, ne_eq, not_true_eq_false, not_false_eq_true, Nat.reduceLeDiff, Nat.reduceEqDiff, Nat.reduceLT, Nat.reduceAdd, Nat.reduceMul, Nat.reduceSub, Int.reduceLT, Int.reduceLE, Int.reduceEq, Int.reduceToNat, Int.reduceAdd, Int.reduceSub, Int.reduceMul, Int.reduceNeg, Int.cast_ofNat_Int, false_and, and_false]
    refine L_adv (d := d + 14) x1 (by rw [c41]; decide) (by rw [c41]; decide) (by rw [c41]; decide) (fun h2 x2 f2 => ?_)
    have K2 := x2.1.2.1
    simp only [psh_none, rX6_readComparison_63, rX6_readComparison_64, rX6_readComparison_65, K2, Int.toNat_natCast, Int.natCast_nonneg, true_and, and_true, and_self, if_true, if_false, or_true, true_or, or_false, false_or, ne_eq, not_true_eq_false, not_false_eq_true, Nat.reduceLeDiff, Nat.reduceEqDiff, Nat.reduceLT, Nat.reduceAdd, Nat.reduceMul, Nat.reduceSub, Int.reduceLT, Int.reduceLE, Int.reduceEq, Int.reduceToNat, Int.reduceAdd, Int.reduceSub, Int.reduceMul, Int.reduceNeg, Int.cast_ofNat_Int, false_and, and_false]
    refine hS h2 _ _ (b + 1) (p + 1) x2 (fun h3 x3 f3 => ?_)
    have K3 := x3.1.2.1
    simp only [psh_none, rX6_readComparison_68, rX6_readComparison_69, rX6_readComparison_70, rX6_readComparison_71, K3, Int.toNat_natCast, Int.natCast_nonneg, true_and, and_true, and_self, if_true, if_false, or_true, true_or, or_false, false_or, ne_eq, not_true_eq_false, not_false_eq_true, Nat.reduceLeDiff, Nat.reduceEqDiff, Nat.reduceLT, Nat.reduceAdd, Nat.reduceMul, Nat.reduceSub, Int.reduceLT, Int.reduceLE, Int.reduceEq, Int.reduceToNat, Int.reduceAdd, Int.reduceSub, Int.reduceMul, Int.reduceNeg, Int.cast_ofNat_Int, false_and, and_false]
    refine L_emit (c := 3005) x3 (by decide) (fun h4 x4 f4 => ?_)
    simp only [psh_none, rX6_readComparison_74]
    exact k h4 (x4.weak (Nat.le_succ b) (Nat.le_refl _)) (f1.trans (f2.trans (f3.trans f4)))
  have gc : gC (tkr X (S r)) = 0 := by unfold gC; rw [if_neg c39, if_neg c40, if_neg c41]
  rw [if_neg (by rw [gc]; decide)] at k
  simp only [psh_none, rX6_readComparison_5, rX6_readComparison_6, rX6_readComparison_8, rX6_readComparison_11, rX6_readComparison_14, rX6_readComparison_15, rX6_readComparison_18, rX6_readComparison_19, rX6_readComparison_21, rX6_readComparison_24, rX6_readComparison_27, rX6_readComparison_29, rX6_readComparison_32, rX6_readComparison_33, rX6_readComparison_35, rX6_readComparison_38, rX6_readComparison_41, rX6_readComparison_43, rX6_readComparison_46, rX6_readComparison_47, rX6_readComparison_48, rX6_readComparison_49, rX6_readComparison_50, rX6_readComparison_53, rX6_readComparison_54, rX6_readComparison_55, K1, t61, t60, t62, zb_f c39, zb_f c40, zb_f c41, psh_some, Int.toNat_natCast, Int.natCast_nonneg, true_and, and_true, and_self, if_true, if_false, or_true, true_or, or_false, false_or, ne_eq, not_true_eq_false, not_false_eq_true, Nat.reduceLeDiff, Nat.reduceEqDiff, Nat.reduceLT, Nat.reduceAdd, Nat.reduceMul, Nat.reduceSub, Int.reduceLT, Int.reduceLE, Int.reduceEq, Int.reduceToNat, Int.reduceAdd, Int.reduceSub, Int.reduceMul, Int.reduceNeg, Int.cast_ofNat_Int, false_and, and_false]
  refine L_fail x1 (by decide) (fun h2 x2 f2 => ?_)
  simp only [psh_none, rX6_readComparison_58]
  exact k h2 x2 (f1.trans f2)
theorem L_unit {X : TX} {law n deep d : Nat} {S U T : PS → PS} (hd : deep + n = 6) (hS : CMt X law (d + 20) mX6_readSum [some (.inr (.inr 201)), some (.inl (deep : Int)), none, none] S) (hU : n ≠ 0 → ∀ d', d + 2 ≤ d' → CMt X law d' mX6_readUnit [some (.inr (.inr 201)), some (.inl ((deep + 1 : Nat) : Int))] U) (hT : n ≠ 0 → ∀ d', d + 4 ≤ d' → CMt X law d' mX6_readTruth [some (.inr (.inr 201)), some (.inl ((deep + 1 : Nat) : Int)), none] T) : CMt X law (d + 22) mX6_readUnit [some (.inr (.inr 201)), some (.inl (deep : Int))] (pUnit X n S U T) := by
  intro h Q r b p x k
  have K := x.1.2.1
  have s91 : ∀ (Q : Option PV → Hp → Prop), WP (d + 21) mX6_isSign 0 [some (.inr (.inr 201)), some (.inl 91)] [] h Q = Q (some (.inl (zb (tkr X r = 37)))) h := fun Q => C_isSign (d := d + 21) (Q := Q) x.1 x.2.2.1 (z := 91) (by decide)
  have wnot : ∀ (Q : Option PV → Hp → Prop), WP (d + 16 + 5) mX6_isWord 0 [some (.inr (.inr 201)), some (.inr (.inr 18)), none] [] h Q = Q (some (.inl (zb (tkr X r = 22)))) h := fun Q => C_isWord (d := d + 16) (Q := Q) x.1 x.2.2.1 (i := 22) (j := 17) (by decide) (by decide) rfl
  unfold pUnit at k
  by_cases a : tkr X r = 22
  · rw [if_pos a] at k
    by_cases hn : n = 0
    · rw [if_pos hn] at k
      simp only [rX6_readUnit_0, rX6_readUnit_1, rX6_readUnit_3, rX6_readUnit_6, rX6_readUnit_9, rX6_readUnit_10, rX6_readUnit_11, K, wnot, zb_t a, psh_some, Int.toNat_natCast, Int.natCast_nonneg, true_and, and_true, and_self, if_true, if_false, or_true, true_or, or_false, false_or, ne_eq, not_true_eq_false, not_false_eq_true, Nat.reduceLeDiff, Nat.reduceEqDiff, Nat.reduceLT, Nat.reduceAdd, Nat.reduceMul, Nat.reduceSub, Int.reduceLT, Int.reduceLE, Int.reduceEq, Int.reduceToNat, Int.reduceAdd, Int.reduceSub, Int.reduceMul, Int.reduceNeg, Int.cast_ofNat_Int, false_and, and_false]
      refine L_opens0 (d := d + 14) hd hn x (fun h1 x1 f1 => ?_)
      simp only [psh_some, rX6_readUnit_14, rX6_readUnit_72, Int.toNat_natCast, Int.natCast_nonneg, true_and, and_true, and_self, if_true, if_false, or_true, true_or, or_false, false_or, ne_eq, not_true_eq_false, not_false_eq_true, Nat.reduceLeDiff, Nat.reduceEqDiff, Nat.reduceLT, Nat.reduceAdd, Nat.reduceMul, Nat.reduceSub, Int.reduceLT, Int.reduceLE, Int.reduceEq, Int.reduceToNat, Int.reduceAdd, Int.reduceSub, Int.reduceMul, Int.reduceNeg, Int.cast_ofNat_Int, false_and, and_false]
      exact k h1 x1 f1
    · rw [if_neg hn] at k
      simp only [rX6_readUnit_0, rX6_readUnit_1, rX6_readUnit_3, rX6_readUnit_6, rX6_readUnit_9, rX6_readUnit_10, rX6_readUnit_11, K, wnot, zb_t a, psh_some, Int.toNat_natCast, Int.natCast_nonneg, true_and, and_true, and_self, if_true, if_false, or_true, true_or, or_false, false_or, ne_eq, not_true_eq_false, not_false_eq_true, Nat.reduceLeDiff, Nat.reduceEqDiff, Nat.reduceLT, Nat.reduceAdd, Nat.reduceMul, Nat.reduceSub, Int.reduceLT, Int.reduceLE, Int.reduceEq, Int.reduceToNat, Int.reduceAdd, Int.reduceSub, Int.reduceMul, Int.reduceNeg, Int.cast_ofNat_Int, false_and, and_false]
      refine L_opens1 (d := d + 14) hd hn x (by rw [a]; decide) (by rw [a]; decide) (by rw [a]; decide) (fun h1 x1 f1 => ?_)
      have K1 := x1.1.2.1
      simp only [psh_some, rX6_readUnit_14, rX6_readUnit_17, rX6_readUnit_18, rX6_readUnit_19, rX6_readUnit_20, rX6_readUnit_21, K1, (op_2 hd hn).2, Int.toNat_natCast, Int.natCast_nonneg, true_and, and_true, and_self, if_true, if_false, or_true, true_or, or_false, false_or, ne_eq, not_true_eq_false, not_false_eq_true, Nat.reduceLeDiff, Nat.reduceEqDiff, Nat.reduceLT, Nat.reduceAdd, Nat.reduceMul, Nat.reduceSub, Int.reduceLT, Int.reduceLE, Int.reduceEq, Int.reduceToNat, Int.reduceAdd, Int.reduceSub, Int.reduceMul, Int.reduceNeg, Int.cast_ofNat_Int, false_and, and_false]
      refine hU hn (d + 21) (by omega) h1 _ _ (b + 1) (p + 1) x1 (fun h2 x2 f2 => ?_)
      have K2 := x2.1.2.1
      simp only [psh_none, rX6_readUnit_24, rX6_readUnit_25, rX6_readUnit_27, rX6_readUnit_28, K2, Int.toNat_natCast, Int.natCast_nonneg, true_and, and_true, and_self, if_true, if_false, or_true, true_or, or_false, false_or, ne_eq, not_true_eq_false, not_false_eq_true, Nat.reduceLeDiff, Nat.reduceEqDiff, Nat.reduceLT, Nat.reduceAdd, Nat.reduceMul, Nat.reduceSub, Int.reduceLT, Int.reduceLE, Int.reduceEq, Int.reduceToNat, Int.reduceAdd, Int.reduceSub, Int.reduceMul, Int.reduceNeg, Int.cast_ofNat_Int, false_and, and_false]
      refine L_emit (c := 3006) x2 (by decide) (fun h3 x3 f3 => ?_)
      simp only [psh_none, rX6_readUnit_31, rX6_readUnit_72]
      exact k h3 (x3.weak (Nat.le_succ b) (Nat.le_refl _)) (f1.trans (f2.trans f3))
  rw [if_neg a] at k
  by_cases e : tkr X r = 37
  · rw [if_pos e] at k
    by_cases hn : n = 0
    · rw [if_pos hn] at k
      simp only [rX6_readUnit_0, rX6_readUnit_1, rX6_readUnit_3, rX6_readUnit_6, rX6_readUnit_34, rX6_readUnit_35, rX6_readUnit_37, rX6_readUnit_40, rX6_readUnit_43, rX6_readUnit_44, rX6_readUnit_45, K, wnot, s91, zb_f a, zb_t e, psh_some, Int.toNat_natCast, Int.natCast_nonneg, true_and, and_true, and_self, if_true, if_false, or_true, true_or, or_false, false_or, ne_eq, not_true_eq_false, not_false_eq_true, Nat.reduceLeDiff, Nat.reduceEqDiff, Nat.reduceLT, Nat.reduceAdd, Nat.reduceMul, Nat.reduceSub, Int.reduceLT, Int.reduceLE, Int.reduceEq, Int.reduceToNat, Int.reduceAdd, Int.reduceSub, Int.reduceMul, Int.reduceNeg, Int.cast_ofNat_Int, false_and, and_false]
      refine L_opens0 (d := d + 14) hd hn x (fun h1 x1 f1 => ?_)
      simp only [psh_some, rX6_readUnit_48, rX6_readUnit_72, Int.toNat_natCast, Int.natCast_nonneg, true_and, and_true, and_self, if_true, if_false, or_true, true_or, or_false, false_or, ne_eq, not_true_eq_false, not_false_eq_true, Nat.reduceLeDiff, Nat.reduceEqDiff, Nat.reduceLT, Nat.reduceAdd, Nat.reduceMul, Nat.reduceSub, Int.reduceLT, Int.reduceLE, Int.reduceEq, Int.reduceToNat, Int.reduceAdd, Int.reduceSub, Int.reduceMul, Int.reduceNeg, Int.cast_ofNat_Int, false_and, and_false]
      exact k h1 x1 f1
    · rw [if_neg hn] at k
      simp only [rX6_readUnit_0, rX6_readUnit_1, rX6_readUnit_3, rX6_readUnit_6, rX6_readUnit_34, rX6_readUnit_35, rX6_readUnit_37, rX6_readUnit_40, rX6_readUnit_43, rX6_readUnit_44, rX6_readUnit_45, K, wnot, s91, zb_f a, zb_t e, psh_some, Int.toNat_natCast, Int.natCast_nonneg, true_and, and_true, and_self, if_true, if_false, or_true, true_or, or_false, false_or, ne_eq, not_true_eq_false, not_false_eq_true, Nat.reduceLeDiff, Nat.reduceEqDiff, Nat.reduceLT, Nat.reduceAdd, Nat.reduceMul, Nat.reduceSub, Int.reduceLT, Int.reduceLE, Int.reduceEq, Int.reduceToNat, Int.reduceAdd, Int.reduceSub, Int.reduceMul, Int.reduceNeg, Int.cast_ofNat_Int, false_and, and_false]
      refine L_opens1 (d := d + 14) hd hn x (by rw [e]; decide) (by rw [e]; decide) (by rw [e]; decide) (fun h1 x1 f1 => ?_)
      have K1 := x1.1.2.1
      simp only [psh_some, rX6_readUnit_48, rX6_readUnit_51, rX6_readUnit_52, rX6_readUnit_53, rX6_readUnit_54, rX6_readUnit_55, K1, (op_2 hd hn).2, Int.toNat_natCast, Int.natCast_nonneg, true_and, and_true, and_self, if_true, if_false, or_true, true_or, or_false, false_or, ne_eq, not_true_eq_false, not_false_eq_true, Nat.reduceLeDiff, Nat.reduceEqDiff, Nat.reduceLT, Nat.reduceAdd, Nat.reduceMul, Nat.reduceSub, Int.reduceLT, Int.reduceLE, Int.reduceEq, Int.reduceToNat, Int.reduceAdd, Int.reduceSub, Int.reduceMul, Int.reduceNeg, Int.cast_ofNat_Int, false_and, and_false]
      refine hT hn (d + 21) (by omega) h1 _ _ (b + 1) (p + 1) x1 (fun h2 x2 f2 => ?_)
      have K2 := x2.1.2.1
      simp only [psh_none, rX6_readUnit_58, rX6_readUnit_59, rX6_readUnit_61, K2, Int.toNat_natCast, Int.natCast_nonneg, true_and, and_true, and_self, if_true, if_false, or_true, true_or, or_false, false_or, ne_eq, not_true_eq_false, not_false_eq_true, Nat.reduceLeDiff, Nat.reduceEqDiff, Nat.reduceLT, Nat.reduceAdd, Nat.reduceMul, Nat.reduceSub, Int.reduceLT, Int.reduceLE, Int.reduceEq, Int.reduceToNat, Int.reduceAdd, Int.reduceSub, Int.reduceMul, Int.reduceNeg, Int.cast_ofNat_Int, false_and, and_false]
      refine L_takeSign (d := d + 14) (z := 93) x2 (by decide) (fun h3 x3 f3 => ?_)
      simp only [psh_none, rX6_readUnit_64, rX6_readUnit_72]
      exact k h3 (x3.weak (Nat.le_succ b) (Nat.le_succ _)) (f1.trans (f2.trans f3))
  rw [if_neg e] at k
  simp only [rX6_readUnit_0, rX6_readUnit_1, rX6_readUnit_3, rX6_readUnit_6, rX6_readUnit_34, rX6_readUnit_35, rX6_readUnit_37, rX6_readUnit_40, rX6_readUnit_67, rX6_readUnit_68, rX6_readUnit_69, K, wnot, s91, zb_f a, zb_f e, psh_some, Int.toNat_natCast, Int.natCast_nonneg, true_and, and_true, and_self, if_true, if_false, or_true, true_or, or_false, false_or, ne_eq, not_true_eq_false, not_false_eq_true, Nat.reduceLeDiff, Nat.reduceEqDiff, Nat.reduceLT, Nat.reduceAdd, Nat.reduceMul, Nat.reduceSub, Int.reduceLT, Int.reduceLE, Int.reduceEq, Int.reduceToNat, Int.reduceAdd, Int.reduceSub, Int.reduceMul, Int.reduceNeg, Int.cast_ofNat_Int, false_and, and_false]
  refine L_cmp hS h _ _ b p x (fun h1 x1 f1 => ?_)
  simp only [psh_none, rX6_readUnit_72]
  exact k h1 x1 f1
/-- sum, unit, truth of the class where n more may be opened -/
def LC (X : TX) (law n deep D : Nat) (l : LV) : Prop := (∀ d, D ≤ d → CMt X law d mX6_readSum [some (.inr (.inr 201)), some (.inl (deep : Int)), none, none] l.1) ∧ (∀ d, D + 2 ≤ d → CMt X law d mX6_readUnit [some (.inr (.inr 201)), some (.inl (deep : Int))] l.2.1) ∧ ∀ d, D + 4 ≤ d → CMt X law d mX6_readTruth [some (.inr (.inr 201)), some (.inl (deep : Int)), none] l.2.2
theorem L_mk {X : TX} {law n deep D : Nat} {l : LV} (hl : law < 2) (hd : deep + n = 6) (hs : n ≠ 0 → LC X law (n - 1) (deep + 1) D l) : LC X law n deep (D + 20) (pSum X law n l, pUn X law n l, pTruth X law n l) := by
  have hS : ∀ d, D ≤ d → CMt X law (d + 20) mX6_readSum [some (.inr (.inr 201)), some (.inl (deep : Int)), none, none] (pSum X law n l) := fun d h => L_sum (L_term (L_atom hl hd (fun hn d' h' => (hs hn).1 d' (by omega)) (fun hn d' h' => (hs hn).2.2 d' (by omega))))
  have hU : ∀ d, D ≤ d → CMt X law (d + 22) mX6_readUnit [some (.inr (.inr 201)), some (.inl (deep : Int))] (pUn X law n l) := fun d h => L_unit hd (hS d h) (fun hn d' h' => (hs hn).2.1 d' (by omega)) (fun hn d' h' => (hs hn).2.2 d' (by omega))
  have hT : ∀ d, D ≤ d → CMt X law (d + 24) mX6_readTruth [some (.inr (.inr 201)), some (.inl (deep : Int)), none] (pTruth X law n l) := fun d h => L_truth (L_both (hU d h))
  refine ⟨fun d h => ?_, fun d h => ?_, fun d h => ?_⟩
  · have := hS (d - 20) (by omega); rwa [show d - 20 + 20 = d by omega] at this
  · have := hU (d - 22) (by omega); rwa [show d - 22 + 22 = d by omega] at this
  · have := hT (d - 24) (by omega); rwa [show d - 24 + 24 = d by omega] at this
theorem L_lvl {X : TX} {law : Nat} (hl : law < 2) : ∀ n deep, deep + n = 6 → LC X law n deep (20 * n + 20) (lvl X law n)
  | 0, deep, h => L_mk (D := 0) hl h (fun z => absurd rfl z)
  | n + 1, deep, h => L_mk (D := 20 * n + 20) hl h (fun _ => L_lvl hl n (deep + 1) (by omega))
