/-! the reference reads laws: what stands in them -/
theorem M_if {X : TX} {law n deep d : Nat} {pre : List Int} {S T : PS → PS} (hd : deep + n = 6) (hS : n ≠ 0 → ∀ d', d ≤ d' → RMt X law pre d' mX12_readSum [some (.inr (.inr 294)), some (.inl ((deep + 1 : Nat) : Int)), none] S) (hT : n ≠ 0 → ∀ d', d + 3 ≤ d' → RMt X law pre d' mX12_readTruth [some (.inr (.inr 294)), some (.inl ((deep + 1 : Nat) : Int))] T) {h : Hp} {Q : Option PV → Hp → Prop} {r : PS} {b p : Nat} (x : RRel X law pre h b (p + 1) r) (c : tkr X r = 12) (k : ∀ h', RRel X law pre h' b (p + 1) (if n = 0 then fl X 4 r else em 3009 (eat X 15 (S (eat X 14 (S (eat X 13 (T (nx X r)))))))) → Fp RF h h' → Q none h') : WP (d + 17) mX12_readIf 0 [some (.inr (.inr 294)), some (.inl (deep : Int))] [] h Q := by
  have K := Md_K280 x.1.2.1
  by_cases hn : n = 0
  · rw [if_pos hn] at k
    simp only [rX12_readIf_0, rX12_readIf_1, rX12_readIf_2, K, Int.toNat_natCast, Int.natCast_nonneg, true_and, and_true, and_self, if_true, if_false, or_true, true_or, or_false, false_or, ne_eq, not_true_eq_false, not_false_eq_true, Nat.reduceLeDiff, Nat.reduceEqDiff, Nat.reduceLT, Nat.reduceAdd, Nat.reduceMul, Nat.reduceSub, Int.reduceLT, Int.reduceLE, Int.reduceEq, Int.reduceToNat, Int.reduceAdd, Int.reduceSub, Int.reduceMul, Int.reduceNeg, Int.cast_ofNat_Int, false_and, and_false]
    refine M_goes0 (d := d + 9) hd hn x (fun h1 x1 f1 => ?_)
    simp only [psh_some, rX12_readIf_5, rX12_readIf_8, Int.toNat_natCast, Int.natCast_nonneg, true_and, and_true, and_self, if_true, if_false, or_true, true_or, or_false, false_or, ne_eq, not_true_eq_false, not_false_eq_true, Nat.reduceLeDiff, Nat.reduceEqDiff, Nat.reduceLT, Nat.reduceAdd, Nat.reduceMul, Nat.reduceSub, Int.reduceLT, Int.reduceLE, Int.reduceEq, Int.reduceToNat, Int.reduceAdd, Int.reduceSub, Int.reduceMul, Int.reduceNeg, Int.cast_ofNat_Int, false_and, and_false]
    exact k h1 x1 f1
  rw [if_neg hn] at k
  have w1 := (op_2 hd hn).2
  simp only [rX12_readIf_0, rX12_readIf_1, rX12_readIf_2, K, Int.toNat_natCast, Int.natCast_nonneg, true_and, and_true, and_self, if_true, if_false, or_true, true_or, or_false, false_or, ne_eq, not_true_eq_false, not_false_eq_true, Nat.reduceLeDiff, Nat.reduceEqDiff, Nat.reduceLT, Nat.reduceAdd, Nat.reduceMul, Nat.reduceSub, Int.reduceLT, Int.reduceLE, Int.reduceEq, Int.reduceToNat, Int.reduceAdd, Int.reduceSub, Int.reduceMul, Int.reduceNeg, Int.cast_ofNat_Int, false_and, and_false]
  refine M_goes1 (d := d + 9) hd hn x (by rw [c]; decide) (by rw [c]; decide) (fun h1 x1 f1 => ?_)
  simp only [psh_some, rX12_readIf_5, rX12_readIf_9, rX12_readIf_10, rX12_readIf_11, rX12_readIf_12, rX12_readIf_13, Md_K280 x1.1.2.1, w1, Int.toNat_natCast, Int.natCast_nonneg, true_and, and_true, and_self, if_true, if_false, or_true, true_or, or_false, false_or, ne_eq, not_true_eq_false, not_false_eq_true, Nat.reduceLeDiff, Nat.reduceEqDiff, Nat.reduceLT, Nat.reduceAdd, Nat.reduceMul, Nat.reduceSub, Int.reduceLT, Int.reduceLE, Int.reduceEq, Int.reduceToNat, Int.reduceAdd, Int.reduceSub, Int.reduceMul, Int.reduceNeg, Int.cast_ofNat_Int, false_and, and_false]
  refine hT hn (d + 16) (by omega) h1 _ _ (b + 1) (p + 1) x1 (fun h2 x2 f2 => ?_)
  suffices k1 : ∀ h', RRel X law pre h' (b + 1) (p + 2) (eat X 13 (T (nx X r))) → Fp RF h2 h' → WP (d + 17) mX12_readIf 30 [some (.inr (.inr 294)), some (.inl (deep : Int))] [] h' Q by
    by_cases ce : tkr X (T (nx X r)) = 13
    · simp only [psh_none, rX12_readIf_16, rX12_readIf_17, rX12_readIf_19, Md_K280 x2.1.2.1, Int.toNat_natCast, Int.natCast_nonneg, true_and, and_true, and_self, if_true, if_false, or_true, true_or, or_false, false_or, ne_eq, not_true_eq_false, not_false_eq_true, Nat.reduceLeDiff, Nat.reduceEqDiff, Nat.reduceLT, Nat.reduceAdd, Nat.reduceMul, Nat.reduceSub, Int.reduceLT, Int.reduceLE, Int.reduceEq, Int.reduceToNat, Int.reduceAdd, Int.reduceSub, Int.reduceMul, Int.reduceNeg, Int.cast_ofNat_Int, false_and, and_false]
      refine M_eats1 (d := d + 9) x2 (by decide) (by decide) ce (fun h' x' f' => ?_)
      simp only [psh_some, rX12_readIf_22, Int.toNat_natCast, Int.natCast_nonneg, true_and, and_true, and_self, if_true, if_false, or_true, true_or, or_false, false_or, ne_eq, not_true_eq_false, not_false_eq_true, Nat.reduceLeDiff, Nat.reduceEqDiff, Nat.reduceLT, Nat.reduceAdd, Nat.reduceMul, Nat.reduceSub, Int.reduceLT, Int.reduceLE, Int.reduceEq, Int.reduceToNat, Int.reduceAdd, Int.reduceSub, Int.reduceMul, Int.reduceNeg, Int.cast_ofNat_Int, false_and, and_false]
      exact k1 h' (by rw [eat_1 ce]; exact x'.weak (Nat.le_succ _) (Nat.le_succ _)) f'
    · have e0 := fun (Q : Option PV → Hp → Prop) => R_eats0 (d := d + 9) (Q := Q) x2.1 x2.2.2.1 (z := 13) (by decide) ce
      simp only [psh_none, rX12_readIf_16, rX12_readIf_17, rX12_readIf_19, rX12_readIf_22, rX12_readIf_25, rX12_readIf_26, rX12_readIf_27, Md_K280 x2.1.2.1, e0, psh_some, Int.toNat_natCast, Int.natCast_nonneg, true_and, and_true, and_self, if_true, if_false, or_true, true_or, or_false, false_or, ne_eq, not_true_eq_false, not_false_eq_true, Nat.reduceLeDiff, Nat.reduceEqDiff, Nat.reduceLT, Nat.reduceAdd, Nat.reduceMul, Nat.reduceSub, Int.reduceLT, Int.reduceLE, Int.reduceEq, Int.reduceToNat, Int.reduceAdd, Int.reduceSub, Int.reduceMul, Int.reduceNeg, Int.cast_ofNat_Int, false_and, and_false]
      refine M_fails x2 (by decide) (fun h' x' f' => ?_)
      simp only [psh_none]
      exact k1 h' (by rw [eat_0 ce]; exact x') f'
  intro h3 x3 f3
  simp only [rX12_readIf_30, rX12_readIf_31, rX12_readIf_32, rX12_readIf_33, rX12_readIf_34, Md_K280 x3.1.2.1, w1, Int.toNat_natCast, Int.natCast_nonneg, true_and, and_true, and_self, if_true, if_false, or_true, true_or, or_false, false_or, ne_eq, not_true_eq_false, not_false_eq_true, Nat.reduceLeDiff, Nat.reduceEqDiff, Nat.reduceLT, Nat.reduceAdd, Nat.reduceMul, Nat.reduceSub, Int.reduceLT, Int.reduceLE, Int.reduceEq, Int.reduceToNat, Int.reduceAdd, Int.reduceSub, Int.reduceMul, Int.reduceNeg, Int.cast_ofNat_Int, false_and, and_false]
  refine hS hn (d + 16) (by omega) h3 _ _ (b + 1) (p + 1) x3 (fun h4 x4 f4 => ?_)
  suffices k1 : ∀ h', RRel X law pre h' (b + 1) (p + 2) (eat X 14 (S (eat X 13 (T (nx X r))))) → Fp RF h4 h' → WP (d + 17) mX12_readIf 51 [some (.inr (.inr 294)), some (.inl (deep : Int))] [] h' Q by
    by_cases ce : tkr X (S (eat X 13 (T (nx X r)))) = 14
    · simp only [psh_none, rX12_readIf_37, rX12_readIf_38, rX12_readIf_40, Md_K280 x4.1.2.1, Int.toNat_natCast, Int.natCast_nonneg, true_and, and_true, and_self, if_true, if_false, or_true, true_or, or_false, false_or, ne_eq, not_true_eq_false, not_false_eq_true, Nat.reduceLeDiff, Nat.reduceEqDiff, Nat.reduceLT, Nat.reduceAdd, Nat.reduceMul, Nat.reduceSub, Int.reduceLT, Int.reduceLE, Int.reduceEq, Int.reduceToNat, Int.reduceAdd, Int.reduceSub, Int.reduceMul, Int.reduceNeg, Int.cast_ofNat_Int, false_and, and_false]
      refine M_eats1 (d := d + 9) x4 (by decide) (by decide) ce (fun h' x' f' => ?_)
      simp only [psh_some, rX12_readIf_43, Int.toNat_natCast, Int.natCast_nonneg, true_and, and_true, and_self, if_true, if_false, or_true, true_or, or_false, false_or, ne_eq, not_true_eq_false, not_false_eq_true, Nat.reduceLeDiff, Nat.reduceEqDiff, Nat.reduceLT, Nat.reduceAdd, Nat.reduceMul, Nat.reduceSub, Int.reduceLT, Int.reduceLE, Int.reduceEq, Int.reduceToNat, Int.reduceAdd, Int.reduceSub, Int.reduceMul, Int.reduceNeg, Int.cast_ofNat_Int, false_and, and_false]
      exact k1 h' (by rw [eat_1 ce]; exact x'.weak (Nat.le_succ _) (Nat.le_succ _)) f'
    · have e0 := fun (Q : Option PV → Hp → Prop) => R_eats0 (d := d + 9) (Q := Q) x4.1 x4.2.2.1 (z := 14) (by decide) ce
      simp only [psh_none, rX12_readIf_37, rX12_readIf_38, rX12_readIf_40, rX12_readIf_43, rX12_readIf_46, rX12_readIf_47, rX12_readIf_48, Md_K280 x4.1.2.1, e0, psh_some, Int.toNat_natCast, Int.natCast_nonneg, true_and, and_true, and_self, if_true, if_false, or_true, true_or, or_false, false_or, ne_eq, not_true_eq_false, not_false_eq_true, Nat.reduceLeDiff, Nat.reduceEqDiff, Nat.reduceLT, Nat.reduceAdd, Nat.reduceMul, Nat.reduceSub, Int.reduceLT, Int.reduceLE, Int.reduceEq, Int.reduceToNat, Int.reduceAdd, Int.reduceSub, Int.reduceMul, Int.reduceNeg, Int.cast_ofNat_Int, false_and, and_false]
      refine M_fails x4 (by decide) (fun h' x' f' => ?_)
      simp only [psh_none]
      exact k1 h' (by rw [eat_0 ce]; exact x') f'
  intro h5 x5 f5
  simp only [rX12_readIf_51, rX12_readIf_52, rX12_readIf_53, rX12_readIf_54, rX12_readIf_55, Md_K280 x5.1.2.1, w1, Int.toNat_natCast, Int.natCast_nonneg, true_and, and_true, and_self, if_true, if_false, or_true, true_or, or_false, false_or, ne_eq, not_true_eq_false, not_false_eq_true, Nat.reduceLeDiff, Nat.reduceEqDiff, Nat.reduceLT, Nat.reduceAdd, Nat.reduceMul, Nat.reduceSub, Int.reduceLT, Int.reduceLE, Int.reduceEq, Int.reduceToNat, Int.reduceAdd, Int.reduceSub, Int.reduceMul, Int.reduceNeg, Int.cast_ofNat_Int, false_and, and_false]
  refine hS hn (d + 16) (by omega) h5 _ _ (b + 1) (p + 1) x5 (fun h6 x6 f6 => ?_)
  suffices k1 : ∀ h', RRel X law pre h' (b + 1) (p + 2) (eat X 15 (S (eat X 14 (S (eat X 13 (T (nx X r))))))) → Fp RF h6 h' → WP (d + 17) mX12_readIf 72 [some (.inr (.inr 294)), some (.inl (deep : Int))] [] h' Q by
    by_cases ce : tkr X (S (eat X 14 (S (eat X 13 (T (nx X r)))))) = 15
    · simp only [psh_none, rX12_readIf_58, rX12_readIf_59, rX12_readIf_61, Md_K280 x6.1.2.1, Int.toNat_natCast, Int.natCast_nonneg, true_and, and_true, and_self, if_true, if_false, or_true, true_or, or_false, false_or, ne_eq, not_true_eq_false, not_false_eq_true, Nat.reduceLeDiff, Nat.reduceEqDiff, Nat.reduceLT, Nat.reduceAdd, Nat.reduceMul, Nat.reduceSub, Int.reduceLT, Int.reduceLE, Int.reduceEq, Int.reduceToNat, Int.reduceAdd, Int.reduceSub, Int.reduceMul, Int.reduceNeg, Int.cast_ofNat_Int, false_and, and_false]
      refine M_eats1 (d := d + 9) x6 (by decide) (by decide) ce (fun h' x' f' => ?_)
      simp only [psh_some, rX12_readIf_64, Int.toNat_natCast, Int.natCast_nonneg, true_and, and_true, and_self, if_true, if_false, or_true, true_or, or_false, false_or, ne_eq, not_true_eq_false, not_false_eq_true, Nat.reduceLeDiff, Nat.reduceEqDiff, Nat.reduceLT, Nat.reduceAdd, Nat.reduceMul, Nat.reduceSub, Int.reduceLT, Int.reduceLE, Int.reduceEq, Int.reduceToNat, Int.reduceAdd, Int.reduceSub, Int.reduceMul, Int.reduceNeg, Int.cast_ofNat_Int, false_and, and_false]
      exact k1 h' (by rw [eat_1 ce]; exact x'.weak (Nat.le_succ _) (Nat.le_succ _)) f'
    · have e0 := fun (Q : Option PV → Hp → Prop) => R_eats0 (d := d + 9) (Q := Q) x6.1 x6.2.2.1 (z := 15) (by decide) ce
      simp only [psh_none, rX12_readIf_58, rX12_readIf_59, rX12_readIf_61, rX12_readIf_64, rX12_readIf_67, rX12_readIf_68, rX12_readIf_69, Md_K280 x6.1.2.1, e0, psh_some, Int.toNat_natCast, Int.natCast_nonneg, true_and, and_true, and_self, if_true, if_false, or_true, true_or, or_false, false_or, ne_eq, not_true_eq_false, not_false_eq_true, Nat.reduceLeDiff, Nat.reduceEqDiff, Nat.reduceLT, Nat.reduceAdd, Nat.reduceMul, Nat.reduceSub, Int.reduceLT, Int.reduceLE, Int.reduceEq, Int.reduceToNat, Int.reduceAdd, Int.reduceSub, Int.reduceMul, Int.reduceNeg, Int.cast_ofNat_Int, false_and, and_false]
      refine M_fails x6 (by decide) (fun h' x' f' => ?_)
      simp only [psh_none]
      exact k1 h' (by rw [eat_0 ce]; exact x') f'
  intro h7 x7 f7
  simp only [rX12_readIf_72, rX12_readIf_73, rX12_readIf_76, Md_K280 x7.1.2.1, Int.toNat_natCast, Int.natCast_nonneg, true_and, and_true, and_self, if_true, if_false, or_true, true_or, or_false, false_or, ne_eq, not_true_eq_false, not_false_eq_true, Nat.reduceLeDiff, Nat.reduceEqDiff, Nat.reduceLT, Nat.reduceAdd, Nat.reduceMul, Nat.reduceSub, Int.reduceLT, Int.reduceLE, Int.reduceEq, Int.reduceToNat, Int.reduceAdd, Int.reduceSub, Int.reduceMul, Int.reduceNeg, Int.cast_ofNat_Int, false_and, and_false]
  refine M_codes (c := 3009) x7 (fun h8 x8 f8 => ?_)
  simp only [psh_none, rX12_readIf_79]
  exact k h8 (x8.weak (Nat.le_succ _) (Nat.le_refl _)) (f1.trans (f2.trans (f3.trans (f4.trans (f5.trans (f6.trans (f7.trans f8)))))))
theorem M_atom {X : TX} {law n deep d : Nat} {pre : List Int} {S T : PS → PS} (hl : law < 2) (hd : deep + n = 6) (hS : n ≠ 0 → ∀ d', d ≤ d' → RMt X law pre d' mX12_readSum [some (.inr (.inr 294)), some (.inl ((deep + 1 : Nat) : Int)), none] S) (hT : n ≠ 0 → ∀ d', d + 3 ≤ d' → RMt X law pre d' mX12_readTruth [some (.inr (.inr 294)), some (.inl ((deep + 1 : Nat) : Int))] T) : RMt X law pre (d + 18) mX12_readAtom [some (.inr (.inr 294)), some (.inl (deep : Int))] (pAtom X law n S T) := by
  intro h Q r b p x k
  have K := Md_K280 x.1.2.1
  have s24 : ∀ (Q : Option PV → Hp → Prop), WP (d + 17) mX12_is 0 [some (.inr (.inr 294)), some (.inl 24)] [] h Q = Q (some (.inl (zb (tkr X r = 24)))) h := fun Q => R_is (d := d + 17) (Q := Q) x.1 x.2.2.1 (z := 24) (by decide)
  have s35 : ∀ (Q : Option PV → Hp → Prop), WP (d + 17) mX12_is 0 [some (.inr (.inr 294)), some (.inl 35)] [] h Q = Q (some (.inl (zb (tkr X r = 35)))) h := fun Q => R_is (d := d + 17) (Q := Q) x.1 x.2.2.1 (z := 35) (by decide)
  have s12 : ∀ (Q : Option PV → Hp → Prop), WP (d + 17) mX12_is 0 [some (.inr (.inr 294)), some (.inl 12)] [] h Q = Q (some (.inl (zb (tkr X r = 12)))) h := fun Q => R_is (d := d + 17) (Q := Q) x.1 x.2.2.1 (z := 12) (by decide)
  have wo := fun (k : Int) (Q : Option PV → Hp → Prop) => M_wordOf (d := d + 17) (Q := Q) hl K x.2.1 (k := k)
  unfold pAtom at k
  by_cases a : tkr X r = 24
  · rw [if_pos a] at k
    have e8 := (x.2.2.1.num a).1
    simp only [rX12_readAtom_0, rX12_readAtom_1, rX12_readAtom_3, rX12_readAtom_6, rX12_readAtom_9, rX12_readAtom_10, rX12_readAtom_11, rX12_readAtom_14, K, s24, zb_t a, psh_some, e8, Int.toNat_natCast, Int.natCast_nonneg, true_and, and_true, and_self, if_true, if_false, or_true, true_or, or_false, false_or, ne_eq, not_true_eq_false, not_false_eq_true, Nat.reduceLeDiff, Nat.reduceEqDiff, Nat.reduceLT, Nat.reduceAdd, Nat.reduceMul, Nat.reduceSub, Int.reduceLT, Int.reduceLE, Int.reduceEq, Int.reduceToNat, Int.reduceAdd, Int.reduceSub, Int.reduceMul, Int.reduceNeg, Int.cast_ofNat_Int, false_and, and_false]
    refine M_codes (c := nms X (ts r)) x (fun h1 x1 f1 => ?_)
    simp only [psh_none, rX12_readAtom_17, rX12_readAtom_18, Md_K280 x1.1.2.1, Int.toNat_natCast, Int.natCast_nonneg, true_and, and_true, and_self, if_true, if_false, or_true, true_or, or_false, false_or, ne_eq, not_true_eq_false, not_false_eq_true, Nat.reduceLeDiff, Nat.reduceEqDiff, Nat.reduceLT, Nat.reduceAdd, Nat.reduceMul, Nat.reduceSub, Int.reduceLT, Int.reduceLE, Int.reduceEq, Int.reduceToNat, Int.reduceAdd, Int.reduceSub, Int.reduceMul, Int.reduceNeg, Int.cast_ofNat_Int, false_and, and_false]
    have a' : tkr X (em (nms X (ts r)) r) = 24 := by unfold tkr; rw [ts_em]; exact a
    refine M_next (d := d + 11) x1 (by rw [a']; decide) (by rw [a']; decide) (fun h2 x2 f2 => ?_)
    simp only [psh_none, rX12_readAtom_21, rX12_readAtom_130]
    exact k h2 (x2.weak (Nat.le_succ b) (Nat.le_refl _)) (f1.trans f2)
  rw [if_neg a] at k
  by_cases c : wof law (tkr X r) ≠ -1
  · rw [if_pos c] at k
    have wr := wof_r c
    have z0 : 0 ≤ tkr X r ∧ tkr X r ≠ 25 := by
      refine ⟨?_, fun z => c (by rw [z]; rfl)⟩
      cases r with
      | inl y => exact (tk_rng X y.1).1
      | inr e => exact absurd rfl c
    obtain ⟨w0, w9⟩ := x.w0 z0.1
    have wl : w32 (1000 + wof law (tkr X r)) = 1000 + wof law (tkr X r) := w32_i (by omega) (by omega)
    simp only [rX12_readAtom_0, rX12_readAtom_1, rX12_readAtom_3, rX12_readAtom_6, rX12_readAtom_24, rX12_readAtom_25, rX12_readAtom_28, rX12_readAtom_31, rX12_readAtom_32, rX12_readAtom_33, rX12_readAtom_36, rX12_readAtom_39, rX12_readAtom_40, rX12_readAtom_43, rX12_readAtom_44, rX12_readAtom_47, rX12_readAtom_48, rX12_readAtom_49, rX12_readAtom_52, rX12_readAtom_55, rX12_readAtom_56, K, s24, zb_f a, psh_some, w0, w9, wo, eq_false c, wl, Int.toNat_natCast, Int.natCast_nonneg, true_and, and_true, and_self, if_true, if_false, or_true, true_or, or_false, false_or, ne_eq, not_true_eq_false, not_false_eq_true, Nat.reduceLeDiff, Nat.reduceEqDiff, Nat.reduceLT, Nat.reduceAdd, Nat.reduceMul, Nat.reduceSub, Int.reduceLT, Int.reduceLE, Int.reduceEq, Int.reduceToNat, Int.reduceAdd, Int.reduceSub, Int.reduceMul, Int.reduceNeg, Int.cast_ofNat_Int, false_and, and_false]
    refine M_codes (c := 1000 + wof law (tkr X r)) x (fun h1 x1 f1 => ?_)
    simp only [psh_none, rX12_readAtom_59, rX12_readAtom_60, Md_K280 x1.1.2.1, Int.toNat_natCast, Int.natCast_nonneg, true_and, and_true, and_self, if_true, if_false, or_true, true_or, or_false, false_or, ne_eq, not_true_eq_false, not_false_eq_true, Nat.reduceLeDiff, Nat.reduceEqDiff, Nat.reduceLT, Nat.reduceAdd, Nat.reduceMul, Nat.reduceSub, Int.reduceLT, Int.reduceLE, Int.reduceEq, Int.reduceToNat, Int.reduceAdd, Int.reduceSub, Int.reduceMul, Int.reduceNeg, Int.cast_ofNat_Int, false_and, and_false]
    have a' : tkr X (em (1000 + wof law (tkr X r)) r) = tkr X r := by unfold tkr; rw [ts_em]
    refine M_next (d := d + 11) x1 (by rw [a']; exact z0.1) (by rw [a']; exact z0.2) (fun h2 x2 f2 => ?_)
    simp only [psh_none, rX12_readAtom_63, rX12_readAtom_130]
    exact k h2 (x2.weak (Nat.le_succ b) (Nat.le_refl _)) (f1.trans f2)
  rw [if_neg c] at k
  have ce : wof law (tkr X r) = -1 := Decidable.of_not_not c
  have go : WP (d + 18) mX12_readAtom 66 [some (.inr (.inr 294)), some (.inl (deep : Int))] [] h Q → WP (d + 18) mX12_readAtom 0 [some (.inr (.inr 294)), some (.inl (deep : Int))] [] h Q := fun w => by
    by_cases w0 : hI h 294 11 = 0
    · have w9 : hI h 294 9 = tkr X r := by
        cases r with
        | inl y => exact x.2.2.1.2.2.2.2.2.1
        | inr e => exact absurd w0 (x.2.2.1.bad (fun q z => by cases z))
      simp only [rX12_readAtom_0, rX12_readAtom_1, rX12_readAtom_3, rX12_readAtom_6, rX12_readAtom_24, rX12_readAtom_25, rX12_readAtom_28, rX12_readAtom_31, rX12_readAtom_32, rX12_readAtom_33, rX12_readAtom_36, rX12_readAtom_39, rX12_readAtom_40, K, s24, zb_f a, psh_some, w0, w9, wo, ce, Int.toNat_natCast, Int.natCast_nonneg, true_and, and_true, and_self, if_true, if_false, or_true, true_or, or_false, false_or, ne_eq, not_true_eq_false, not_false_eq_true, Nat.reduceLeDiff, Nat.reduceEqDiff, Nat.reduceLT, Nat.reduceAdd, Nat.reduceMul, Nat.reduceSub, Int.reduceLT, Int.reduceLE, Int.reduceEq, Int.reduceToNat, Int.reduceAdd, Int.reduceSub, Int.reduceMul, Int.reduceNeg, Int.cast_ofNat_Int, false_and, and_false]
      exact w
    · simp only [rX12_readAtom_0, rX12_readAtom_1, rX12_readAtom_3, rX12_readAtom_6, rX12_readAtom_24, rX12_readAtom_25, rX12_readAtom_28, rX12_readAtom_31, rX12_readAtom_32, rX12_readAtom_33, rX12_readAtom_36, rX12_readAtom_39, rX12_readAtom_40, K, s24, zb_f a, psh_some, w0, Int.toNat_natCast, Int.natCast_nonneg, true_and, and_true, and_self, if_true, if_false, or_true, true_or, or_false, false_or, ne_eq, not_true_eq_false, not_false_eq_true, Nat.reduceLeDiff, Nat.reduceEqDiff, Nat.reduceLT, Nat.reduceAdd, Nat.reduceMul, Nat.reduceSub, Int.reduceLT, Int.reduceLE, Int.reduceEq, Int.reduceToNat, Int.reduceAdd, Int.reduceSub, Int.reduceMul, Int.reduceNeg, Int.cast_ofNat_Int, false_and, and_false]
      exact w
  refine go ?_
  by_cases e : tkr X r = 35
  · rw [if_pos e] at k
    by_cases hn : n = 0
    · rw [if_pos hn] at k
      simp only [rX12_readAtom_66, rX12_readAtom_67, rX12_readAtom_69, rX12_readAtom_72, rX12_readAtom_75, rX12_readAtom_76, rX12_readAtom_77, K, s35, zb_t e, psh_some, Int.toNat_natCast, Int.natCast_nonneg, true_and, and_true, and_self, if_true, if_false, or_true, true_or, or_false, false_or, ne_eq, not_true_eq_false, not_false_eq_true, Nat.reduceLeDiff, Nat.reduceEqDiff, Nat.reduceLT, Nat.reduceAdd, Nat.reduceMul, Nat.reduceSub, Int.reduceLT, Int.reduceLE, Int.reduceEq, Int.reduceToNat, Int.reduceAdd, Int.reduceSub, Int.reduceMul, Int.reduceNeg, Int.cast_ofNat_Int, false_and, and_false]
      refine M_goes0 (d := d + 10) hd hn x (fun h1 x1 f1 => ?_)
      simp only [psh_some, rX12_readAtom_80, rX12_readAtom_83, Int.toNat_natCast, Int.natCast_nonneg, true_and, and_true, and_self, if_true, if_false, or_true, true_or, or_false, false_or, ne_eq, not_true_eq_false, not_false_eq_true, Nat.reduceLeDiff, Nat.reduceEqDiff, Nat.reduceLT, Nat.reduceAdd, Nat.reduceMul, Nat.reduceSub, Int.reduceLT, Int.reduceLE, Int.reduceEq, Int.reduceToNat, Int.reduceAdd, Int.reduceSub, Int.reduceMul, Int.reduceNeg, Int.cast_ofNat_Int, false_and, and_false]
      exact k h1 x1 f1
    · rw [if_neg hn] at k
      have w1 := (op_2 hd hn).2
      simp only [rX12_readAtom_66, rX12_readAtom_67, rX12_readAtom_69, rX12_readAtom_72, rX12_readAtom_75, rX12_readAtom_76, rX12_readAtom_77, K, s35, zb_t e, psh_some, Int.toNat_natCast, Int.natCast_nonneg, true_and, and_true, and_self, if_true, if_false, or_true, true_or, or_false, false_or, ne_eq, not_true_eq_false, not_false_eq_true, Nat.reduceLeDiff, Nat.reduceEqDiff, Nat.reduceLT, Nat.reduceAdd, Nat.reduceMul, Nat.reduceSub, Int.reduceLT, Int.reduceLE, Int.reduceEq, Int.reduceToNat, Int.reduceAdd, Int.reduceSub, Int.reduceMul, Int.reduceNeg, Int.cast_ofNat_Int, false_and, and_false]
      refine M_goes1 (d := d + 10) hd hn x (by rw [e]; decide) (by rw [e]; decide) (fun h1 x1 f1 => ?_)
      simp only [psh_some, rX12_readAtom_80, rX12_readAtom_83, rX12_readAtom_84, rX12_readAtom_85, rX12_readAtom_86, rX12_readAtom_87, rX12_readAtom_88, Md_K280 x1.1.2.1, w1, Int.toNat_natCast, Int.natCast_nonneg, true_and, and_true, and_self, if_true, if_false, or_true, true_or, or_false, false_or, ne_eq, not_true_eq_false, not_false_eq_true, Nat.reduceLeDiff, Nat.reduceEqDiff, Nat.reduceLT, Nat.reduceAdd, Nat.reduceMul, Nat.reduceSub, Int.reduceLT, Int.reduceLE, Int.reduceEq, Int.reduceToNat, Int.reduceAdd, Int.reduceSub, Int.reduceMul, Int.reduceNeg, Int.cast_ofNat_Int, false_and, and_false]
      refine hS hn (d + 17) (by omega) h1 _ _ (b + 1) (p + 1) x1 (fun h2 x2 f2 => ?_)
      suffices k1 : ∀ h', RRel X law pre h' (b + 1) (p + 2) (eat X 36 (S (nx X r))) → Fp RF h2 h' → WP (d + 18) mX12_readAtom 130 [some (.inr (.inr 294)), some (.inl (deep : Int))] [] h' Q by
        by_cases ce : tkr X (S (nx X r)) = 36
        · simp only [psh_none, rX12_readAtom_91, rX12_readAtom_92, rX12_readAtom_94, Md_K280 x2.1.2.1, Int.toNat_natCast, Int.natCast_nonneg, true_and, and_true, and_self, if_true, if_false, or_true, true_or, or_false, false_or, ne_eq, not_true_eq_false, not_false_eq_true, Nat.reduceLeDiff, Nat.reduceEqDiff, Nat.reduceLT, Nat.reduceAdd, Nat.reduceMul, Nat.reduceSub, Int.reduceLT, Int.reduceLE, Int.reduceEq, Int.reduceToNat, Int.reduceAdd, Int.reduceSub, Int.reduceMul, Int.reduceNeg, Int.cast_ofNat_Int, false_and, and_false]
          refine M_eats1 (d := d + 10) x2 (by decide) (by decide) ce (fun h' x' f' => ?_)
          simp only [psh_some, rX12_readAtom_97, Int.toNat_natCast, Int.natCast_nonneg, true_and, and_true, and_self, if_true, if_false, or_true, true_or, or_false, false_or, ne_eq, not_true_eq_false, not_false_eq_true, Nat.reduceLeDiff, Nat.reduceEqDiff, Nat.reduceLT, Nat.reduceAdd, Nat.reduceMul, Nat.reduceSub, Int.reduceLT, Int.reduceLE, Int.reduceEq, Int.reduceToNat, Int.reduceAdd, Int.reduceSub, Int.reduceMul, Int.reduceNeg, Int.cast_ofNat_Int, false_and, and_false]
          exact k1 h' (by rw [eat_1 ce]; exact x'.weak (Nat.le_succ _) (Nat.le_succ _)) f'
        · have e0 := fun (Q : Option PV → Hp → Prop) => R_eats0 (d := d + 10) (Q := Q) x2.1 x2.2.2.1 (z := 36) (by decide) ce
          simp only [psh_none, rX12_readAtom_91, rX12_readAtom_92, rX12_readAtom_94, rX12_readAtom_97, rX12_readAtom_100, rX12_readAtom_101, rX12_readAtom_102, Md_K280 x2.1.2.1, e0, psh_some, Int.toNat_natCast, Int.natCast_nonneg, true_and, and_true, and_self, if_true, if_false, or_true, true_or, or_false, false_or, ne_eq, not_true_eq_false, not_false_eq_true, Nat.reduceLeDiff, Nat.reduceEqDiff, Nat.reduceLT, Nat.reduceAdd, Nat.reduceMul, Nat.reduceSub, Int.reduceLT, Int.reduceLE, Int.reduceEq, Int.reduceToNat, Int.reduceAdd, Int.reduceSub, Int.reduceMul, Int.reduceNeg, Int.cast_ofNat_Int, false_and, and_false]
          refine M_fails x2 (by decide) (fun h' x' f' => ?_)
          simp only [psh_none, rX12_readAtom_105]
          exact k1 h' (by rw [eat_0 ce]; exact x') f'
      intro h3 x3 f3
      simp only [rX12_readAtom_130]
      exact k h3 (x3.weak (Nat.le_succ b) (Nat.le_succ _)) (f1.trans (f2.trans f3))
  rw [if_neg e] at k
  by_cases g : tkr X r = 12
  · rw [if_pos g] at k
    simp only [rX12_readAtom_66, rX12_readAtom_67, rX12_readAtom_69, rX12_readAtom_72, rX12_readAtom_108, rX12_readAtom_109, rX12_readAtom_111, rX12_readAtom_114, rX12_readAtom_117, rX12_readAtom_118, rX12_readAtom_119, K, s35, s12, zb_f e, zb_t g, psh_some, Int.toNat_natCast, Int.natCast_nonneg, true_and, and_true, and_self, if_true, if_false, or_true, true_or, or_false, false_or, ne_eq, not_true_eq_false, not_false_eq_true, Nat.reduceLeDiff, Nat.reduceEqDiff, Nat.reduceLT, Nat.reduceAdd, Nat.reduceMul, Nat.reduceSub, Int.reduceLT, Int.reduceLE, Int.reduceEq, Int.reduceToNat, Int.reduceAdd, Int.reduceSub, Int.reduceMul, Int.reduceNeg, Int.cast_ofNat_Int, false_and, and_false]
    refine M_if hd hS hT x g (fun h1 x1 f1 => ?_)
    simp only [psh_none, rX12_readAtom_122, rX12_readAtom_130]
    exact k h1 x1 f1
  rw [if_neg g] at k
  simp only [rX12_readAtom_66, rX12_readAtom_67, rX12_readAtom_69, rX12_readAtom_72, rX12_readAtom_108, rX12_readAtom_109, rX12_readAtom_111, rX12_readAtom_114, rX12_readAtom_125, rX12_readAtom_126, rX12_readAtom_127, K, s35, s12, zb_f e, zb_f g, psh_some, Int.toNat_natCast, Int.natCast_nonneg, true_and, and_true, and_self, if_true, if_false, or_true, true_or, or_false, false_or, ne_eq, not_true_eq_false, not_false_eq_true, Nat.reduceLeDiff, Nat.reduceEqDiff, Nat.reduceLT, Nat.reduceAdd, Nat.reduceMul, Nat.reduceSub, Int.reduceLT, Int.reduceLE, Int.reduceEq, Int.reduceToNat, Int.reduceAdd, Int.reduceSub, Int.reduceMul, Int.reduceNeg, Int.cast_ofNat_Int, false_and, and_false]
  refine M_fails x (by decide) (fun h1 x1 f1 => ?_)
  simp only [psh_none, rX12_readAtom_130]
  exact k h1 x1 f1
theorem M_terml {X : TX} {law deep d : Nat} {pre : List Int} {A : PS → PS} (hA : RMt X law pre (d + 18) mX12_readAtom [some (.inr (.inr 294)), some (.inl (deep : Int))] A) : ∀ (m : Nat) (h : Hp) (Q : Option PV → Hp → Prop) (r : PS) (b p : Nat), X.2 ≤ b + m → RRel X law pre h b (p + 1) r → (∀ h', RRel X law pre h' b (p + 1) (lp X gT A m r) → Fp RF h h' → Q none h') → WP (d + 19) mX12_readTerm 5 [some (.inr (.inr 294)), some (.inl (deep : Int))] [] h Q := by
  intro m
  have out : ∀ (h : Hp) (Q : Option PV → Hp → Prop) (r : PS) (b p : Nat), RRel X law pre h b (p + 1) r → ¬ tkr X r = 34 → Q none h → WP (d + 19) mX12_readTerm 5 [some (.inr (.inr 294)), some (.inl (deep : Int))] [] h Q := fun h Q r b p x c k => by
    have e0 := fun (Q : Option PV → Hp → Prop) => R_eats0 (d := d + 11) (Q := Q) x.1 x.2.2.1 (z := 34) (by decide) c
    rw [rX12_readTerm_5]
    simp only [rX12_readTerm_6, rX12_readTerm_8, rX12_readTerm_11, rX12_readTerm_29, Md_K280 x.1.2.1, e0, psh_some, Int.toNat_natCast, Int.natCast_nonneg, true_and, and_true, and_self, if_true, if_false, or_true, true_or, or_false, false_or, ne_eq, not_true_eq_false, not_false_eq_true, Nat.reduceLeDiff, Nat.reduceEqDiff, Nat.reduceLT, Nat.reduceAdd, Nat.reduceMul, Nat.reduceSub, Int.reduceLT, Int.reduceLE, Int.reduceEq, Int.reduceToNat, Int.reduceAdd, Int.reduceSub, Int.reduceMul, Int.reduceNeg, Int.cast_ofNat_Int, false_and, and_false]
    exact k
  induction m with
  | zero =>
    intro h Q r b p hm x k
    refine out h Q r b p x (fun e => ?_) (k h x (Fp.refl _ h))
    have := x.lt (by rw [e]; decide) (by rw [e]; decide)
    omega
  | succ m ih =>
    intro h Q r b p hm x k
    by_cases c : tkr X r = 34
    · rw [rX12_readTerm_5]
      simp only [rX12_readTerm_6, rX12_readTerm_8, Md_K280 x.1.2.1, Int.toNat_natCast, Int.natCast_nonneg, true_and, and_true, and_self, if_true, if_false, or_true, true_or, or_false, false_or, ne_eq, not_true_eq_false, not_false_eq_true, Nat.reduceLeDiff, Nat.reduceEqDiff, Nat.reduceLT, Nat.reduceAdd, Nat.reduceMul, Nat.reduceSub, Int.reduceLT, Int.reduceLE, Int.reduceEq, Int.reduceToNat, Int.reduceAdd, Int.reduceSub, Int.reduceMul, Int.reduceNeg, Int.cast_ofNat_Int, false_and, and_false]
      refine M_eats1 (d := d + 11) x (by decide) (by decide) c (fun h1 x1 f1 => ?_)
      simp only [psh_some, rX12_readTerm_11, rX12_readTerm_14, rX12_readTerm_15, rX12_readTerm_16, Md_K280 x1.1.2.1, Int.toNat_natCast, Int.natCast_nonneg, true_and, and_true, and_self, if_true, if_false, or_true, true_or, or_false, false_or, ne_eq, not_true_eq_false, not_false_eq_true, Nat.reduceLeDiff, Nat.reduceEqDiff, Nat.reduceLT, Nat.reduceAdd, Nat.reduceMul, Nat.reduceSub, Int.reduceLT, Int.reduceLE, Int.reduceEq, Int.reduceToNat, Int.reduceAdd, Int.reduceSub, Int.reduceMul, Int.reduceNeg, Int.cast_ofNat_Int, false_and, and_false]
      refine hA h1 _ _ (b + 1) (p + 1) x1 (fun h2 x2 f2 => ?_)
      simp only [psh_none, rX12_readTerm_19, rX12_readTerm_20, rX12_readTerm_23, Md_K280 x2.1.2.1, Int.toNat_natCast, Int.natCast_nonneg, true_and, and_true, and_self, if_true, if_false, or_true, true_or, or_false, false_or, ne_eq, not_true_eq_false, not_false_eq_true, Nat.reduceLeDiff, Nat.reduceEqDiff, Nat.reduceLT, Nat.reduceAdd, Nat.reduceMul, Nat.reduceSub, Int.reduceLT, Int.reduceLE, Int.reduceEq, Int.reduceToNat, Int.reduceAdd, Int.reduceSub, Int.reduceMul, Int.reduceNeg, Int.cast_ofNat_Int, false_and, and_false]
      refine M_codes (c := 3002) x2 (fun h3 x3 f3 => ?_)
      simp only [psh_none, rX12_readTerm_26, Int.toNat_natCast, Int.natCast_nonneg, true_and, and_true, and_self, if_true, if_false, or_true, true_or, or_false, false_or, ne_eq, not_true_eq_false, not_false_eq_true, Nat.reduceLeDiff, Nat.reduceEqDiff, Nat.reduceLT, Nat.reduceAdd, Nat.reduceMul, Nat.reduceSub, Int.reduceLT, Int.reduceLE, Int.reduceEq, Int.reduceToNat, Int.reduceAdd, Int.reduceSub, Int.reduceMul, Int.reduceNeg, Int.cast_ofNat_Int, false_and, and_false]
      refine ih h3 Q _ (b + 1) p (by omega) x3 (fun h4 x4 f4 => ?_)
      refine k h4 ?_ (f1.trans (f2.trans (f3.trans f4)))
      have e : lp X gT A (m + 1) r = lp X gT A m (em 3002 (A (nx X r))) := by
        show (if gT (tkr X r) ≠ 0 then _ else _) = _
        rw [c]; rfl
      rw [e]
      exact x4.weak (Nat.le_succ b) (Nat.le_refl _)
    · have e : lp X gT A (m + 1) r = r := by
        show (if gT (tkr X r) ≠ 0 then _ else _) = _
        rw [if_neg]
        unfold gT; rw [if_neg c]; decide
      rw [e] at k
      exact out h Q r b p x c (k h x (Fp.refl _ h))
theorem M_term {X : TX} {law deep d : Nat} {pre : List Int} {A : PS → PS} (hA : RMt X law pre (d + 18) mX12_readAtom [some (.inr (.inr 294)), some (.inl (deep : Int))] A) : RMt X law pre (d + 19) mX12_readTerm [some (.inr (.inr 294)), some (.inl (deep : Int))] (fun r => lp X gT A 900 (A r)) := by
  intro h Q r b p x k
  have h9 := x.1.2.2.2.1
  simp only [rX12_readTerm_0, rX12_readTerm_1, rX12_readTerm_2, Md_K280 x.1.2.1, Int.toNat_natCast, Int.natCast_nonneg, true_and, and_true, and_self, if_true, if_false, or_true, true_or, or_false, false_or, ne_eq, not_true_eq_false, not_false_eq_true, Nat.reduceLeDiff, Nat.reduceEqDiff, Nat.reduceLT, Nat.reduceAdd, Nat.reduceMul, Nat.reduceSub, Int.reduceLT, Int.reduceLE, Int.reduceEq, Int.reduceToNat, Int.reduceAdd, Int.reduceSub, Int.reduceMul, Int.reduceNeg, Int.cast_ofNat_Int, false_and, and_false]
  refine hA h _ _ b p x (fun h1 x1 f1 => ?_)
  simp only [psh_none]
  exact M_terml hA 900 h1 Q _ b p (by omega) x1 (fun h2 x2 f2 => k h2 x2 (f1.trans f2))
theorem M_bothl {X : TX} {law deep d : Nat} {pre : List Int} {A : PS → PS} (hA : RMt X law pre (d + 21) mX12_readUnit [some (.inr (.inr 294)), some (.inl (deep : Int)), none] A) : ∀ (m : Nat) (h : Hp) (Q : Option PV → Hp → Prop) (r : PS) (b p : Nat), X.2 ≤ b + m → RRel X law pre h b (p + 1) r → (∀ h', RRel X law pre h' b (p + 1) (lp X gA A m r) → Fp RF h h' → Q none h') → WP (d + 22) mX12_readBoth 5 [some (.inr (.inr 294)), some (.inl (deep : Int))] [] h Q := by
  intro m
  have out : ∀ (h : Hp) (Q : Option PV → Hp → Prop) (r : PS) (b p : Nat), RRel X law pre h b (p + 1) r → ¬ tkr X r = 20 → Q none h → WP (d + 22) mX12_readBoth 5 [some (.inr (.inr 294)), some (.inl (deep : Int))] [] h Q := fun h Q r b p x c k => by
    have e0 := fun (Q : Option PV → Hp → Prop) => R_eats0 (d := d + 14) (Q := Q) x.1 x.2.2.1 (z := 20) (by decide) c
    rw [rX12_readBoth_5]
    simp only [rX12_readBoth_6, rX12_readBoth_8, rX12_readBoth_11, rX12_readBoth_29, Md_K280 x.1.2.1, e0, psh_some, Int.toNat_natCast, Int.natCast_nonneg, true_and, and_true, and_self, if_true, if_false, or_true, true_or, or_false, false_or, ne_eq, not_true_eq_false, not_false_eq_true, Nat.reduceLeDiff, Nat.reduceEqDiff, Nat.reduceLT, Nat.reduceAdd, Nat.reduceMul, Nat.reduceSub, Int.reduceLT, Int.reduceLE, Int.reduceEq, Int.reduceToNat, Int.reduceAdd, Int.reduceSub, Int.reduceMul, Int.reduceNeg, Int.cast_ofNat_Int, false_and, and_false]
    exact k
  induction m with
  | zero =>
    intro h Q r b p hm x k
    refine out h Q r b p x (fun e => ?_) (k h x (Fp.refl _ h))
    have := x.lt (by rw [e]; decide) (by rw [e]; decide)
    omega
  | succ m ih =>
    intro h Q r b p hm x k
    by_cases c : tkr X r = 20
    · rw [rX12_readBoth_5]
      simp only [rX12_readBoth_6, rX12_readBoth_8, Md_K280 x.1.2.1, Int.toNat_natCast, Int.natCast_nonneg, true_and, and_true, and_self, if_true, if_false, or_true, true_or, or_false, false_or, ne_eq, not_true_eq_false, not_false_eq_true, Nat.reduceLeDiff, Nat.reduceEqDiff, Nat.reduceLT, Nat.reduceAdd, Nat.reduceMul, Nat.reduceSub, Int.reduceLT, Int.reduceLE, Int.reduceEq, Int.reduceToNat, Int.reduceAdd, Int.reduceSub, Int.reduceMul, Int.reduceNeg, Int.cast_ofNat_Int, false_and, and_false]
      refine M_eats1 (d := d + 14) x (by decide) (by decide) c (fun h1 x1 f1 => ?_)
      simp only [psh_some, rX12_readBoth_11, rX12_readBoth_14, rX12_readBoth_15, rX12_readBoth_16, Md_K280 x1.1.2.1, Int.toNat_natCast, Int.natCast_nonneg, true_and, and_true, and_self, if_true, if_false, or_true, true_or, or_false, false_or, ne_eq, not_true_eq_false, not_false_eq_true, Nat.reduceLeDiff, Nat.reduceEqDiff, Nat.reduceLT, Nat.reduceAdd, Nat.reduceMul, Nat.reduceSub, Int.reduceLT, Int.reduceLE, Int.reduceEq, Int.reduceToNat, Int.reduceAdd, Int.reduceSub, Int.reduceMul, Int.reduceNeg, Int.cast_ofNat_Int, false_and, and_false]
      refine hA h1 _ _ (b + 1) (p + 1) x1 (fun h2 x2 f2 => ?_)
      simp only [psh_none, rX12_readBoth_19, rX12_readBoth_20, rX12_readBoth_23, Md_K280 x2.1.2.1, Int.toNat_natCast, Int.natCast_nonneg, true_and, and_true, and_self, if_true, if_false, or_true, true_or, or_false, false_or, ne_eq, not_true_eq_false, not_false_eq_true, Nat.reduceLeDiff, Nat.reduceEqDiff, Nat.reduceLT, Nat.reduceAdd, Nat.reduceMul, Nat.reduceSub, Int.reduceLT, Int.reduceLE, Int.reduceEq, Int.reduceToNat, Int.reduceAdd, Int.reduceSub, Int.reduceMul, Int.reduceNeg, Int.cast_ofNat_Int, false_and, and_false]
      refine M_codes (c := 3007) x2 (fun h3 x3 f3 => ?_)
      simp only [psh_none, rX12_readBoth_26, Int.toNat_natCast, Int.natCast_nonneg, true_and, and_true, and_self, if_true, if_false, or_true, true_or, or_false, false_or, ne_eq, not_true_eq_false, not_false_eq_true, Nat.reduceLeDiff, Nat.reduceEqDiff, Nat.reduceLT, Nat.reduceAdd, Nat.reduceMul, Nat.reduceSub, Int.reduceLT, Int.reduceLE, Int.reduceEq, Int.reduceToNat, Int.reduceAdd, Int.reduceSub, Int.reduceMul, Int.reduceNeg, Int.cast_ofNat_Int, false_and, and_false]
      refine ih h3 Q _ (b + 1) p (by omega) x3 (fun h4 x4 f4 => ?_)
      refine k h4 ?_ (f1.trans (f2.trans (f3.trans f4)))
      have e : lp X gA A (m + 1) r = lp X gA A m (em 3007 (A (nx X r))) := by
        show (if gA (tkr X r) ≠ 0 then _ else _) = _
        rw [c]; rfl
      rw [e]
      exact x4.weak (Nat.le_succ b) (Nat.le_refl _)
    · have e : lp X gA A (m + 1) r = r := by
        show (if gA (tkr X r) ≠ 0 then _ else _) = _
        rw [if_neg]
        unfold gA; rw [if_neg c]; decide
      rw [e] at k
      exact out h Q r b p x c (k h x (Fp.refl _ h))
theorem M_both {X : TX} {law deep d : Nat} {pre : List Int} {A : PS → PS} (hA : RMt X law pre (d + 21) mX12_readUnit [some (.inr (.inr 294)), some (.inl (deep : Int)), none] A) : RMt X law pre (d + 22) mX12_readBoth [some (.inr (.inr 294)), some (.inl (deep : Int))] (fun r => lp X gA A 900 (A r)) := by
  intro h Q r b p x k
  have h9 := x.1.2.2.2.1
  simp only [rX12_readBoth_0, rX12_readBoth_1, rX12_readBoth_2, Md_K280 x.1.2.1, Int.toNat_natCast, Int.natCast_nonneg, true_and, and_true, and_self, if_true, if_false, or_true, true_or, or_false, false_or, ne_eq, not_true_eq_false, not_false_eq_true, Nat.reduceLeDiff, Nat.reduceEqDiff, Nat.reduceLT, Nat.reduceAdd, Nat.reduceMul, Nat.reduceSub, Int.reduceLT, Int.reduceLE, Int.reduceEq, Int.reduceToNat, Int.reduceAdd, Int.reduceSub, Int.reduceMul, Int.reduceNeg, Int.cast_ofNat_Int, false_and, and_false]
  refine hA h _ _ b p x (fun h1 x1 f1 => ?_)
  simp only [psh_none]
  exact M_bothl hA 900 h1 Q _ b p (by omega) x1 (fun h2 x2 f2 => k h2 x2 (f1.trans f2))
theorem M_truthl {X : TX} {law deep d : Nat} {pre : List Int} {A : PS → PS} (hA : RMt X law pre (d + 22) mX12_readBoth [some (.inr (.inr 294)), some (.inl (deep : Int))] A) : ∀ (m : Nat) (h : Hp) (Q : Option PV → Hp → Prop) (r : PS) (b p : Nat), X.2 ≤ b + m → RRel X law pre h b (p + 1) r → (∀ h', RRel X law pre h' b (p + 1) (lp X gO A m r) → Fp RF h h' → Q none h') → WP (d + 23) mX12_readTruth 5 [some (.inr (.inr 294)), some (.inl (deep : Int))] [] h Q := by
  intro m
  have out : ∀ (h : Hp) (Q : Option PV → Hp → Prop) (r : PS) (b p : Nat), RRel X law pre h b (p + 1) r → ¬ tkr X r = 21 → Q none h → WP (d + 23) mX12_readTruth 5 [some (.inr (.inr 294)), some (.inl (deep : Int))] [] h Q := fun h Q r b p x c k => by
    have e0 := fun (Q : Option PV → Hp → Prop) => R_eats0 (d := d + 15) (Q := Q) x.1 x.2.2.1 (z := 21) (by decide) c
    rw [rX12_readTruth_5]
    simp only [rX12_readTruth_6, rX12_readTruth_8, rX12_readTruth_11, rX12_readTruth_29, Md_K280 x.1.2.1, e0, psh_some, Int.toNat_natCast, Int.natCast_nonneg, true_and, and_true, and_self, if_true, if_false, or_true, true_or, or_false, false_or, ne_eq, not_true_eq_false, not_false_eq_true, Nat.reduceLeDiff, Nat.reduceEqDiff, Nat.reduceLT, Nat.reduceAdd, Nat.reduceMul, Nat.reduceSub, Int.reduceLT, Int.reduceLE, Int.reduceEq, Int.reduceToNat, Int.reduceAdd, Int.reduceSub, Int.reduceMul, Int.reduceNeg, Int.cast_ofNat_Int, false_and, and_false]
    exact k
  induction m with
  | zero =>
    intro h Q r b p hm x k
    refine out h Q r b p x (fun e => ?_) (k h x (Fp.refl _ h))
    have := x.lt (by rw [e]; decide) (by rw [e]; decide)
    omega
  | succ m ih =>
    intro h Q r b p hm x k
    by_cases c : tkr X r = 21
    · rw [rX12_readTruth_5]
      simp only [rX12_readTruth_6, rX12_readTruth_8, Md_K280 x.1.2.1, Int.toNat_natCast, Int.natCast_nonneg, true_and, and_true, and_self, if_true, if_false, or_true, true_or, or_false, false_or, ne_eq, not_true_eq_false, not_false_eq_true, Nat.reduceLeDiff, Nat.reduceEqDiff, Nat.reduceLT, Nat.reduceAdd, Nat.reduceMul, Nat.reduceSub, Int.reduceLT, Int.reduceLE, Int.reduceEq, Int.reduceToNat, Int.reduceAdd, Int.reduceSub, Int.reduceMul, Int.reduceNeg, Int.cast_ofNat_Int, false_and, and_false]
      refine M_eats1 (d := d + 15) x (by decide) (by decide) c (fun h1 x1 f1 => ?_)
      simp only [psh_some, rX12_readTruth_11, rX12_readTruth_14, rX12_readTruth_15, rX12_readTruth_16, Md_K280 x1.1.2.1, Int.toNat_natCast, Int.natCast_nonneg, true_and, and_true, and_self, if_true, if_false, or_true, true_or, or_false, false_or, ne_eq, not_true_eq_false, not_false_eq_true, Nat.reduceLeDiff, Nat.reduceEqDiff, Nat.reduceLT, Nat.reduceAdd, Nat.reduceMul, Nat.reduceSub, Int.reduceLT, Int.reduceLE, Int.reduceEq, Int.reduceToNat, Int.reduceAdd, Int.reduceSub, Int.reduceMul, Int.reduceNeg, Int.cast_ofNat_Int, false_and, and_false]
      refine hA h1 _ _ (b + 1) (p + 1) x1 (fun h2 x2 f2 => ?_)
      simp only [psh_none, rX12_readTruth_19, rX12_readTruth_20, rX12_readTruth_23, Md_K280 x2.1.2.1, Int.toNat_natCast, Int.natCast_nonneg, true_and, and_true, and_self, if_true, if_false, or_true, true_or, or_false, false_or, ne_eq, not_true_eq_false, not_false_eq_true, Nat.reduceLeDiff, Nat.reduceEqDiff, Nat.reduceLT, Nat.reduceAdd, Nat.reduceMul, Nat.reduceSub, Int.reduceLT, Int.reduceLE, Int.reduceEq, Int.reduceToNat, Int.reduceAdd, Int.reduceSub, Int.reduceMul, Int.reduceNeg, Int.cast_ofNat_Int, false_and, and_false]
      refine M_codes (c := 3008) x2 (fun h3 x3 f3 => ?_)
      simp only [psh_none, rX12_readTruth_26, Int.toNat_natCast, Int.natCast_nonneg, true_and, and_true, and_self, if_true, if_false, or_true, true_or, or_false, false_or, ne_eq, not_true_eq_false, not_false_eq_true, Nat.reduceLeDiff, Nat.reduceEqDiff, Nat.reduceLT, Nat.reduceAdd, Nat.reduceMul, Nat.reduceSub, Int.reduceLT, Int.reduceLE, Int.reduceEq, Int.reduceToNat, Int.reduceAdd, Int.reduceSub, Int.reduceMul, Int.reduceNeg, Int.cast_ofNat_Int, false_and, and_false]
      refine ih h3 Q _ (b + 1) p (by omega) x3 (fun h4 x4 f4 => ?_)
      refine k h4 ?_ (f1.trans (f2.trans (f3.trans f4)))
      have e : lp X gO A (m + 1) r = lp X gO A m (em 3008 (A (nx X r))) := by
        show (if gO (tkr X r) ≠ 0 then _ else _) = _
        rw [c]; rfl
      rw [e]
      exact x4.weak (Nat.le_succ b) (Nat.le_refl _)
    · have e : lp X gO A (m + 1) r = r := by
        show (if gO (tkr X r) ≠ 0 then _ else _) = _
        rw [if_neg]
        unfold gO; rw [if_neg c]; decide
      rw [e] at k
      exact out h Q r b p x c (k h x (Fp.refl _ h))
theorem M_truth {X : TX} {law deep d : Nat} {pre : List Int} {A : PS → PS} (hA : RMt X law pre (d + 22) mX12_readBoth [some (.inr (.inr 294)), some (.inl (deep : Int))] A) : RMt X law pre (d + 23) mX12_readTruth [some (.inr (.inr 294)), some (.inl (deep : Int))] (fun r => lp X gO A 900 (A r)) := by
  intro h Q r b p x k
  have h9 := x.1.2.2.2.1
  simp only [rX12_readTruth_0, rX12_readTruth_1, rX12_readTruth_2, Md_K280 x.1.2.1, Int.toNat_natCast, Int.natCast_nonneg, true_and, and_true, and_self, if_true, if_false, or_true, true_or, or_false, false_or, ne_eq, not_true_eq_false, not_false_eq_true, Nat.reduceLeDiff, Nat.reduceEqDiff, Nat.reduceLT, Nat.reduceAdd, Nat.reduceMul, Nat.reduceSub, Int.reduceLT, Int.reduceLE, Int.reduceEq, Int.reduceToNat, Int.reduceAdd, Int.reduceSub, Int.reduceMul, Int.reduceNeg, Int.cast_ofNat_Int, false_and, and_false]
  refine hA h _ _ b p x (fun h1 x1 f1 => ?_)
  simp only [psh_none]
  exact M_truthl hA 900 h1 Q _ b p (by omega) x1 (fun h2 x2 f2 => k h2 x2 (f1.trans f2))
theorem M_suml {X : TX} {law deep d : Nat} {pre : List Int} {A : PS → PS} (hA : RMt X law pre (d + 19) mX12_readTerm [some (.inr (.inr 294)), some (.inl (deep : Int))] A) : ∀ (m : Nat) (h : Hp) (Q : Option PV → Hp → Prop) (r : PS) (b p : Nat) (y : Option PV), X.2 ≤ b + m → RRel X law pre h b (p + 1) r → (∀ h', RRel X law pre h' b (p + 1) (lp X gS A m r) → Fp RF h h' → Q none h') → WP (d + 20) mX12_readSum 5 [some (.inr (.inr 294)), some (.inl (deep : Int)), y] [] h Q := by
  intro m
  have out : ∀ (h : Hp) (Q : Option PV → Hp → Prop) (r : PS) (b p : Nat) (y : Option PV), RRel X law pre h b (p + 1) r → ¬ tkr X r = 32 → ¬ tkr X r = 33 → Q none h → WP (d + 20) mX12_readSum 5 [some (.inr (.inr 294)), some (.inl (deep : Int)), y] [] h Q := fun h Q r b p y x c c2 k => by
    have t1 : ∀ (Q : Option PV → Hp → Prop), WP (d + 19) mX12_is 0 [some (.inr (.inr 294)), some (.inl 32)] [] h Q = Q (some (.inl (zb (tkr X r = 32)))) h := fun Q => R_is (d := d + 19) (Q := Q) x.1 x.2.2.1 (z := 32) (by decide)
    have t2 : ∀ (Q : Option PV → Hp → Prop), WP (d + 19) mX12_is 0 [some (.inr (.inr 294)), some (.inl 33)] [] h Q = Q (some (.inl (zb (tkr X r = 33)))) h := fun Q => R_is (d := d + 19) (Q := Q) x.1 x.2.2.1 (z := 33) (by decide)
    rw [rX12_readSum_5]
    simp only [rX12_readSum_6, rX12_readSum_8, rX12_readSum_11, rX12_readSum_14, rX12_readSum_15, rX12_readSum_17, rX12_readSum_20, rX12_readSum_59, Md_K280 x.1.2.1, t1, t2, zb_f c, zb_f c2, psh_some, Int.toNat_natCast, Int.natCast_nonneg, true_and, and_true, and_self, if_true, if_false, or_true, true_or, or_false, false_or, ne_eq, not_true_eq_false, not_false_eq_true, Nat.reduceLeDiff, Nat.reduceEqDiff, Nat.reduceLT, Nat.reduceAdd, Nat.reduceMul, Nat.reduceSub, Int.reduceLT, Int.reduceLE, Int.reduceEq, Int.reduceToNat, Int.reduceAdd, Int.reduceSub, Int.reduceMul, Int.reduceNeg, Int.cast_ofNat_Int, false_and, and_false]
    exact k
  induction m with
  | zero =>
    intro h Q r b p y hm x k
    refine out h Q r b p y x (fun e => ?_) (fun e => ?_) (k h x (Fp.refl _ h))
    · have := x.lt (by rw [e]; decide) (by rw [e]; decide)
      omega
    · have := x.lt (by rw [e]; decide) (by rw [e]; decide)
      omega
  | succ m ih =>
    intro h Q r b p y hm x k
    by_cases c32 : tkr X r = 32
    · have w9 := (x.w0 (by rw [c32]; decide)).2
      rw [c32] at w9
      have t1 : ∀ (Q : Option PV → Hp → Prop), WP (d + 19) mX12_is 0 [some (.inr (.inr 294)), some (.inl 32)] [] h Q = Q (some (.inl (zb (tkr X r = 32)))) h := fun Q => R_is (d := d + 19) (Q := Q) x.1 x.2.2.1 (z := 32) (by decide)
      have t2 : ∀ (Q : Option PV → Hp → Prop), WP (d + 19) mX12_is 0 [some (.inr (.inr 294)), some (.inl 33)] [] h Q = Q (some (.inl (zb (tkr X r = 33)))) h := fun Q => R_is (d := d + 19) (Q := Q) x.1 x.2.2.1 (z := 33) (by decide)
      rw [rX12_readSum_5]
      simp only [rX12_readSum_6, rX12_readSum_8, rX12_readSum_11, rX12_readSum_14, rX12_readSum_15, rX12_readSum_17, rX12_readSum_20, rX12_readSum_23, rX12_readSum_24, rX12_readSum_27, rX12_readSum_29, rX12_readSum_32, rX12_readSum_35, rX12_readSum_38, rX12_readSum_41, rX12_readSum_42, rX12_readSum_43, Md_K280 x.1.2.1, t1, t2, w9, zb_t c32, psh_some, Int.toNat_natCast, Int.natCast_nonneg, true_and, and_true, and_self, if_true, if_false, or_true, true_or, or_false, false_or, ne_eq, not_true_eq_false, not_false_eq_true, Nat.reduceLeDiff, Nat.reduceEqDiff, Nat.reduceLT, Nat.reduceAdd, Nat.reduceMul, Nat.reduceSub, Int.reduceLT, Int.reduceLE, Int.reduceEq, Int.reduceToNat, Int.reduceAdd, Int.reduceSub, Int.reduceMul, Int.reduceNeg, Int.cast_ofNat_Int, false_and, and_false]
      refine M_next (d := d + 13) x (by rw [c32]; decide) (by rw [c32]; decide) (fun h1 x1 f1 => ?_)
      simp only [psh_none, rX12_readSum_46, rX12_readSum_47, rX12_readSum_48, Md_K280 x1.1.2.1, Int.toNat_natCast, Int.natCast_nonneg, true_and, and_true, and_self, if_true, if_false, or_true, true_or, or_false, false_or, ne_eq, not_true_eq_false, not_false_eq_true, Nat.reduceLeDiff, Nat.reduceEqDiff, Nat.reduceLT, Nat.reduceAdd, Nat.reduceMul, Nat.reduceSub, Int.reduceLT, Int.reduceLE, Int.reduceEq, Int.reduceToNat, Int.reduceAdd, Int.reduceSub, Int.reduceMul, Int.reduceNeg, Int.cast_ofNat_Int, false_and, and_false]
      refine hA h1 _ _ (b + 1) (p + 1) x1 (fun h2 x2 f2 => ?_)
      simp only [psh_none, rX12_readSum_51, rX12_readSum_52, rX12_readSum_53, Md_K280 x2.1.2.1, Int.toNat_natCast, Int.natCast_nonneg, true_and, and_true, and_self, if_true, if_false, or_true, true_or, or_false, false_or, ne_eq, not_true_eq_false, not_false_eq_true, Nat.reduceLeDiff, Nat.reduceEqDiff, Nat.reduceLT, Nat.reduceAdd, Nat.reduceMul, Nat.reduceSub, Int.reduceLT, Int.reduceLE, Int.reduceEq, Int.reduceToNat, Int.reduceAdd, Int.reduceSub, Int.reduceMul, Int.reduceNeg, Int.cast_ofNat_Int, false_and, and_false]
      refine M_codes (c := 3000) x2 (fun h3 x3 f3 => ?_)
      simp only [psh_none, rX12_readSum_56, Int.toNat_natCast, Int.natCast_nonneg, true_and, and_true, and_self, if_true, if_false, or_true, true_or, or_false, false_or, ne_eq, not_true_eq_false, not_false_eq_true, Nat.reduceLeDiff, Nat.reduceEqDiff, Nat.reduceLT, Nat.reduceAdd, Nat.reduceMul, Nat.reduceSub, Int.reduceLT, Int.reduceLE, Int.reduceEq, Int.reduceToNat, Int.reduceAdd, Int.reduceSub, Int.reduceMul, Int.reduceNeg, Int.cast_ofNat_Int, false_and, and_false]
      refine ih h3 Q _ (b + 1) p _ (by omega) x3 (fun h4 x4 f4 => ?_)
      refine k h4 ?_ (f1.trans (f2.trans (f3.trans f4)))
      have e : lp X gS A (m + 1) r = lp X gS A m (em 3000 (A (nx X r))) := by
        show (if gS (tkr X r) ≠ 0 then _ else _) = _
        rw [c32]; rfl
      rw [e]
      exact x4.weak (Nat.le_succ b) (Nat.le_refl _)
    by_cases c33 : tkr X r = 33
    · have w9 := (x.w0 (by rw [c33]; decide)).2
      rw [c33] at w9
      have t1 : ∀ (Q : Option PV → Hp → Prop), WP (d + 19) mX12_is 0 [some (.inr (.inr 294)), some (.inl 32)] [] h Q = Q (some (.inl (zb (tkr X r = 32)))) h := fun Q => R_is (d := d + 19) (Q := Q) x.1 x.2.2.1 (z := 32) (by decide)
      have t2 : ∀ (Q : Option PV → Hp → Prop), WP (d + 19) mX12_is 0 [some (.inr (.inr 294)), some (.inl 33)] [] h Q = Q (some (.inl (zb (tkr X r = 33)))) h := fun Q => R_is (d := d + 19) (Q := Q) x.1 x.2.2.1 (z := 33) (by decide)
      rw [rX12_readSum_5]
      simp only [rX12_readSum_6, rX12_readSum_8, rX12_readSum_11, rX12_readSum_14, rX12_readSum_15, rX12_readSum_17, rX12_readSum_20, rX12_readSum_23, rX12_readSum_24, rX12_readSum_27, rX12_readSum_29, rX12_readSum_32, rX12_readSum_35, rX12_readSum_38, rX12_readSum_41, rX12_readSum_42, rX12_readSum_43, Md_K280 x.1.2.1, t1, t2, w9, zb_f c32, zb_t c33, psh_some, Int.toNat_natCast, Int.natCast_nonneg, true_and, and_true, and_self, if_true, if_false, or_true, true_or, or_false, false_or, ne_eq, not_true_eq_false, not_false_eq_true, Nat.reduceLeDiff, Nat.reduceEqDiff, Nat.reduceLT, Nat.reduceAdd, Nat.reduceMul, Nat.reduceSub, Int.reduceLT, Int.reduceLE, Int.reduceEq, Int.reduceToNat, Int.reduceAdd, Int.reduceSub, Int.reduceMul, Int.reduceNeg, Int.cast_ofNat_Int, false_and, and_false]
      refine M_next (d := d + 13) x (by rw [c33]; decide) (by rw [c33]; decide) (fun h1 x1 f1 => ?_)
      simp only [psh_none, rX12_readSum_46, rX12_readSum_47, rX12_readSum_48, Md_K280 x1.1.2.1, Int.toNat_natCast, Int.natCast_nonneg, true_and, and_true, and_self, if_true, if_false, or_true, true_or, or_false, false_or, ne_eq, not_true_eq_false, not_false_eq_true, Nat.reduceLeDiff, Nat.reduceEqDiff, Nat.reduceLT, Nat.reduceAdd, Nat.reduceMul, Nat.reduceSub, Int.reduceLT, Int.reduceLE, Int.reduceEq, Int.reduceToNat, Int.reduceAdd, Int.reduceSub, Int.reduceMul, Int.reduceNeg, Int.cast_ofNat_Int, false_and, and_false]
      refine hA h1 _ _ (b + 1) (p + 1) x1 (fun h2 x2 f2 => ?_)
      simp only [psh_none, rX12_readSum_51, rX12_readSum_52, rX12_readSum_53, Md_K280 x2.1.2.1, Int.toNat_natCast, Int.natCast_nonneg, true_and, and_true, and_self, if_true, if_false, or_true, true_or, or_false, false_or, ne_eq, not_true_eq_false, not_false_eq_true, Nat.reduceLeDiff, Nat.reduceEqDiff, Nat.reduceLT, Nat.reduceAdd, Nat.reduceMul, Nat.reduceSub, Int.reduceLT, Int.reduceLE, Int.reduceEq, Int.reduceToNat, Int.reduceAdd, Int.reduceSub, Int.reduceMul, Int.reduceNeg, Int.cast_ofNat_Int, false_and, and_false]
      refine M_codes (c := 3001) x2 (fun h3 x3 f3 => ?_)
      simp only [psh_none, rX12_readSum_56, Int.toNat_natCast, Int.natCast_nonneg, true_and, and_true, and_self, if_true, if_false, or_true, true_or, or_false, false_or, ne_eq, not_true_eq_false, not_false_eq_true, Nat.reduceLeDiff, Nat.reduceEqDiff, Nat.reduceLT, Nat.reduceAdd, Nat.reduceMul, Nat.reduceSub, Int.reduceLT, Int.reduceLE, Int.reduceEq, Int.reduceToNat, Int.reduceAdd, Int.reduceSub, Int.reduceMul, Int.reduceNeg, Int.cast_ofNat_Int, false_and, and_false]
      refine ih h3 Q _ (b + 1) p _ (by omega) x3 (fun h4 x4 f4 => ?_)
      refine k h4 ?_ (f1.trans (f2.trans (f3.trans f4)))
      have e : lp X gS A (m + 1) r = lp X gS A m (em 3001 (A (nx X r))) := by
        show (if gS (tkr X r) ≠ 0 then _ else _) = _
        rw [c33]; rfl
      rw [e]
      exact x4.weak (Nat.le_succ b) (Nat.le_refl _)
    have e : lp X gS A (m + 1) r = r := by
      show (if gS (tkr X r) ≠ 0 then _ else _) = _
      rw [if_neg]
      unfold gS; rw [if_neg c32, if_neg c33]; decide
    rw [e] at k
    exact out h Q r b p y x c32 c33 (k h x (Fp.refl _ h))
theorem M_sum {X : TX} {law deep d : Nat} {pre : List Int} {A : PS → PS} (hA : RMt X law pre (d + 19) mX12_readTerm [some (.inr (.inr 294)), some (.inl (deep : Int))] A) : RMt X law pre (d + 20) mX12_readSum [some (.inr (.inr 294)), some (.inl (deep : Int)), none] (fun r => lp X gS A 900 (A r)) := by
  intro h Q r b p x k
  have h9 := x.1.2.2.2.1
  simp only [rX12_readSum_0, rX12_readSum_1, rX12_readSum_2, Md_K280 x.1.2.1, Int.toNat_natCast, Int.natCast_nonneg, true_and, and_true, and_self, if_true, if_false, or_true, true_or, or_false, false_or, ne_eq, not_true_eq_false, not_false_eq_true, Nat.reduceLeDiff, Nat.reduceEqDiff, Nat.reduceLT, Nat.reduceAdd, Nat.reduceMul, Nat.reduceSub, Int.reduceLT, Int.reduceLE, Int.reduceEq, Int.reduceToNat, Int.reduceAdd, Int.reduceSub, Int.reduceMul, Int.reduceNeg, Int.cast_ofNat_Int, false_and, and_false]
  refine hA h _ _ b p x (fun h1 x1 f1 => ?_)
  simp only [psh_none]
  exact M_suml hA 900 h1 Q _ b p _ (by omega) x1 (fun h2 x2 f2 => k h2 x2 (f1.trans f2))
theorem M_unit {X : TX} {law n deep d : Nat} {pre : List Int} {S U T : PS → PS} (hd : deep + n = 6) (hSb : ∀ e, S (.inr e) = .inr e) (hS : RMt X law pre (d + 20) mX12_readSum [some (.inr (.inr 294)), some (.inl (deep : Int)), none] S) (hU : n ≠ 0 → ∀ d', d + 1 ≤ d' → RMt X law pre d' mX12_readUnit [some (.inr (.inr 294)), some (.inl ((deep + 1 : Nat) : Int)), none] U) (hT : n ≠ 0 → ∀ d', d + 3 ≤ d' → RMt X law pre d' mX12_readTruth [some (.inr (.inr 294)), some (.inl ((deep + 1 : Nat) : Int))] T) : RMt X law pre (d + 21) mX12_readUnit [some (.inr (.inr 294)), some (.inl (deep : Int)), none] (pUnit X n S U T) := by
  intro h Q r b p x k
  have K := Md_K280 x.1.2.1
  have s22 : ∀ (Q : Option PV → Hp → Prop), WP (d + 20) mX12_is 0 [some (.inr (.inr 294)), some (.inl 22)] [] h Q = Q (some (.inl (zb (tkr X r = 22)))) h := fun Q => R_is (d := d + 20) (Q := Q) x.1 x.2.2.1 (z := 22) (by decide)
  have s37 : ∀ (Q : Option PV → Hp → Prop), WP (d + 20) mX12_is 0 [some (.inr (.inr 294)), some (.inl 37)] [] h Q = Q (some (.inl (zb (tkr X r = 37)))) h := fun Q => R_is (d := d + 20) (Q := Q) x.1 x.2.2.1 (z := 37) (by decide)
  unfold pUnit at k
  by_cases a : tkr X r = 22
  · rw [if_pos a] at k
    by_cases hn : n = 0
    · rw [if_pos hn] at k
      simp only [rX12_readUnit_0, rX12_readUnit_1, rX12_readUnit_3, rX12_readUnit_6, rX12_readUnit_9, rX12_readUnit_10, rX12_readUnit_11, K, s22, zb_t a, psh_some, Int.toNat_natCast, Int.natCast_nonneg, true_and, and_true, and_self, if_true, if_false, or_true, true_or, or_false, false_or, ne_eq, not_true_eq_false, not_false_eq_true, Nat.reduceLeDiff, Nat.reduceEqDiff, Nat.reduceLT, Nat.reduceAdd, Nat.reduceMul, Nat.reduceSub, Int.reduceLT, Int.reduceLE, Int.reduceEq, Int.reduceToNat, Int.reduceAdd, Int.reduceSub, Int.reduceMul, Int.reduceNeg, Int.cast_ofNat_Int, false_and, and_false]
      refine M_goes0 (d := d + 13) hd hn x (fun h1 x1 f1 => ?_)
      simp only [psh_some, rX12_readUnit_14, rX12_readUnit_17, Int.toNat_natCast, Int.natCast_nonneg, true_and, and_true, and_self, if_true, if_false, or_true, true_or, or_false, false_or, ne_eq, not_true_eq_false, not_false_eq_true, Nat.reduceLeDiff, Nat.reduceEqDiff, Nat.reduceLT, Nat.reduceAdd, Nat.reduceMul, Nat.reduceSub, Int.reduceLT, Int.reduceLE, Int.reduceEq, Int.reduceToNat, Int.reduceAdd, Int.reduceSub, Int.reduceMul, Int.reduceNeg, Int.cast_ofNat_Int, false_and, and_false]
      exact k h1 x1 f1
    · rw [if_neg hn] at k
      have w1 := (op_2 hd hn).2
      simp only [rX12_readUnit_0, rX12_readUnit_1, rX12_readUnit_3, rX12_readUnit_6, rX12_readUnit_9, rX12_readUnit_10, rX12_readUnit_11, K, s22, zb_t a, psh_some, Int.toNat_natCast, Int.natCast_nonneg, true_and, and_true, and_self, if_true, if_false, or_true, true_or, or_false, false_or, ne_eq, not_true_eq_false, not_false_eq_true, Nat.reduceLeDiff, Nat.reduceEqDiff, Nat.reduceLT, Nat.reduceAdd, Nat.reduceMul, Nat.reduceSub, Int.reduceLT, Int.reduceLE, Int.reduceEq, Int.reduceToNat, Int.reduceAdd, Int.reduceSub, Int.reduceMul, Int.reduceNeg, Int.cast_ofNat_Int, false_and, and_false]
      refine M_goes1 (d := d + 13) hd hn x (by rw [a]; decide) (by rw [a]; decide) (fun h1 x1 f1 => ?_)
      simp only [psh_some, rX12_readUnit_14, rX12_readUnit_17, rX12_readUnit_18, rX12_readUnit_19, rX12_readUnit_20, rX12_readUnit_21, rX12_readUnit_22, Md_K280 x1.1.2.1, w1, Int.toNat_natCast, Int.natCast_nonneg, true_and, and_true, and_self, if_true, if_false, or_true, true_or, or_false, false_or, ne_eq, not_true_eq_false, not_false_eq_true, Nat.reduceLeDiff, Nat.reduceEqDiff, Nat.reduceLT, Nat.reduceAdd, Nat.reduceMul, Nat.reduceSub, Int.reduceLT, Int.reduceLE, Int.reduceEq, Int.reduceToNat, Int.reduceAdd, Int.reduceSub, Int.reduceMul, Int.reduceNeg, Int.cast_ofNat_Int, false_and, and_false]
      refine hU hn (d + 20) (by omega) h1 _ _ (b + 1) (p + 1) x1 (fun h2 x2 f2 => ?_)
      simp only [psh_none, rX12_readUnit_25, rX12_readUnit_26, rX12_readUnit_29, Md_K280 x2.1.2.1, Int.toNat_natCast, Int.natCast_nonneg, true_and, and_true, and_self, if_true, if_false, or_true, true_or, or_false, false_or, ne_eq, not_true_eq_false, not_false_eq_true, Nat.reduceLeDiff, Nat.reduceEqDiff, Nat.reduceLT, Nat.reduceAdd, Nat.reduceMul, Nat.reduceSub, Int.reduceLT, Int.reduceLE, Int.reduceEq, Int.reduceToNat, Int.reduceAdd, Int.reduceSub, Int.reduceMul, Int.reduceNeg, Int.cast_ofNat_Int, false_and, and_false]
      refine M_codes (c := 3006) x2 (fun h3 x3 f3 => ?_)
      simp only [psh_none, rX12_readUnit_32]
      exact k h3 (x3.weak (Nat.le_succ b) (Nat.le_refl _)) (f1.trans (f2.trans f3))
  rw [if_neg a] at k
  by_cases e : tkr X r = 37
  · rw [if_pos e] at k
    by_cases hn : n = 0
    · rw [if_pos hn] at k
      simp only [rX12_readUnit_0, rX12_readUnit_1, rX12_readUnit_3, rX12_readUnit_6, rX12_readUnit_33, rX12_readUnit_34, rX12_readUnit_36, rX12_readUnit_39, rX12_readUnit_42, rX12_readUnit_43, rX12_readUnit_44, K, s22, s37, zb_f a, zb_t e, psh_some, Int.toNat_natCast, Int.natCast_nonneg, true_and, and_true, and_self, if_true, if_false, or_true, true_or, or_false, false_or, ne_eq, not_true_eq_false, not_false_eq_true, Nat.reduceLeDiff, Nat.reduceEqDiff, Nat.reduceLT, Nat.reduceAdd, Nat.reduceMul, Nat.reduceSub, Int.reduceLT, Int.reduceLE, Int.reduceEq, Int.reduceToNat, Int.reduceAdd, Int.reduceSub, Int.reduceMul, Int.reduceNeg, Int.cast_ofNat_Int, false_and, and_false]
      refine M_goes0 (d := d + 13) hd hn x (fun h1 x1 f1 => ?_)
      simp only [psh_some, rX12_readUnit_47, rX12_readUnit_50, Int.toNat_natCast, Int.natCast_nonneg, true_and, and_true, and_self, if_true, if_false, or_true, true_or, or_false, false_or, ne_eq, not_true_eq_false, not_false_eq_true, Nat.reduceLeDiff, Nat.reduceEqDiff, Nat.reduceLT, Nat.reduceAdd, Nat.reduceMul, Nat.reduceSub, Int.reduceLT, Int.reduceLE, Int.reduceEq, Int.reduceToNat, Int.reduceAdd, Int.reduceSub, Int.reduceMul, Int.reduceNeg, Int.cast_ofNat_Int, false_and, and_false]
      exact k h1 x1 f1
    · rw [if_neg hn] at k
      have w1 := (op_2 hd hn).2
      simp only [rX12_readUnit_0, rX12_readUnit_1, rX12_readUnit_3, rX12_readUnit_6, rX12_readUnit_33, rX12_readUnit_34, rX12_readUnit_36, rX12_readUnit_39, rX12_readUnit_42, rX12_readUnit_43, rX12_readUnit_44, K, s22, s37, zb_f a, zb_t e, psh_some, Int.toNat_natCast, Int.natCast_nonneg, true_and, and_true, and_self, if_true, if_false, or_true, true_or, or_false, false_or, ne_eq, not_true_eq_false, not_false_eq_true, Nat.reduceLeDiff, Nat.reduceEqDiff, Nat.reduceLT, Nat.reduceAdd, Nat.reduceMul, Nat.reduceSub, Int.reduceLT, Int.reduceLE, Int.reduceEq, Int.reduceToNat, Int.reduceAdd, Int.reduceSub, Int.reduceMul, Int.reduceNeg, Int.cast_ofNat_Int, false_and, and_false]
      refine M_goes1 (d := d + 13) hd hn x (by rw [e]; decide) (by rw [e]; decide) (fun h1 x1 f1 => ?_)
      simp only [psh_some, rX12_readUnit_47, rX12_readUnit_50, rX12_readUnit_51, rX12_readUnit_52, rX12_readUnit_53, rX12_readUnit_54, rX12_readUnit_55, Md_K280 x1.1.2.1, w1, Int.toNat_natCast, Int.natCast_nonneg, true_and, and_true, and_self, if_true, if_false, or_true, true_or, or_false, false_or, ne_eq, not_true_eq_false, not_false_eq_true, Nat.reduceLeDiff, Nat.reduceEqDiff, Nat.reduceLT, Nat.reduceAdd, Nat.reduceMul, Nat.reduceSub, Int.reduceLT, Int.reduceLE, Int.reduceEq, Int.reduceToNat, Int.reduceAdd, Int.reduceSub, Int.reduceMul, Int.reduceNeg, Int.cast_ofNat_Int, false_and, and_false]
      refine hT hn (d + 20) (by omega) h1 _ _ (b + 1) (p + 1) x1 (fun h2 x2 f2 => ?_)
      suffices k1 : ∀ h', RRel X law pre h' (b + 1) (p + 2) (eat X 38 (T (nx X r))) → Fp RF h2 h' → WP (d + 21) mX12_readUnit 72 [some (.inr (.inr 294)), some (.inl (deep : Int)), none] [] h' Q by
        by_cases ce : tkr X (T (nx X r)) = 38
        · simp only [psh_none, rX12_readUnit_58, rX12_readUnit_59, rX12_readUnit_61, Md_K280 x2.1.2.1, Int.toNat_natCast, Int.natCast_nonneg, true_and, and_true, and_self, if_true, if_false, or_true, true_or, or_false, false_or, ne_eq, not_true_eq_false, not_false_eq_true, Nat.reduceLeDiff, Nat.reduceEqDiff, Nat.reduceLT, Nat.reduceAdd, Nat.reduceMul, Nat.reduceSub, Int.reduceLT, Int.reduceLE, Int.reduceEq, Int.reduceToNat, Int.reduceAdd, Int.reduceSub, Int.reduceMul, Int.reduceNeg, Int.cast_ofNat_Int, false_and, and_false]
          refine M_eats1 (d := d + 13) x2 (by decide) (by decide) ce (fun h' x' f' => ?_)
          simp only [psh_some, rX12_readUnit_64, Int.toNat_natCast, Int.natCast_nonneg, true_and, and_true, and_self, if_true, if_false, or_true, true_or, or_false, false_or, ne_eq, not_true_eq_false, not_false_eq_true, Nat.reduceLeDiff, Nat.reduceEqDiff, Nat.reduceLT, Nat.reduceAdd, Nat.reduceMul, Nat.reduceSub, Int.reduceLT, Int.reduceLE, Int.reduceEq, Int.reduceToNat, Int.reduceAdd, Int.reduceSub, Int.reduceMul, Int.reduceNeg, Int.cast_ofNat_Int, false_and, and_false]
          exact k1 h' (by rw [eat_1 ce]; exact x'.weak (Nat.le_succ _) (Nat.le_succ _)) f'
        · have e0 := fun (Q : Option PV → Hp → Prop) => R_eats0 (d := d + 13) (Q := Q) x2.1 x2.2.2.1 (z := 38) (by decide) ce
          simp only [psh_none, rX12_readUnit_58, rX12_readUnit_59, rX12_readUnit_61, rX12_readUnit_64, rX12_readUnit_67, rX12_readUnit_68, rX12_readUnit_69, Md_K280 x2.1.2.1, e0, psh_some, Int.toNat_natCast, Int.natCast_nonneg, true_and, and_true, and_self, if_true, if_false, or_true, true_or, or_false, false_or, ne_eq, not_true_eq_false, not_false_eq_true, Nat.reduceLeDiff, Nat.reduceEqDiff, Nat.reduceLT, Nat.reduceAdd, Nat.reduceMul, Nat.reduceSub, Int.reduceLT, Int.reduceLE, Int.reduceEq, Int.reduceToNat, Int.reduceAdd, Int.reduceSub, Int.reduceMul, Int.reduceNeg, Int.cast_ofNat_Int, false_and, and_false]
          refine M_fails x2 (by decide) (fun h' x' f' => ?_)
          simp only [psh_none]
          exact k1 h' (by rw [eat_0 ce]; exact x') f'
      intro h3 x3 f3
      simp only [rX12_readUnit_72]
      exact k h3 (x3.weak (Nat.le_succ b) (Nat.le_succ _)) (f1.trans (f2.trans f3))
  rw [if_neg e] at k
  simp only [rX12_readUnit_0, rX12_readUnit_1, rX12_readUnit_3, rX12_readUnit_6, rX12_readUnit_33, rX12_readUnit_34, rX12_readUnit_36, rX12_readUnit_39, rX12_readUnit_73, rX12_readUnit_74, rX12_readUnit_75, K, s22, s37, zb_f a, zb_f e, psh_some, Int.toNat_natCast, Int.natCast_nonneg, true_and, and_true, and_self, if_true, if_false, or_true, true_or, or_false, false_or, ne_eq, not_true_eq_false, not_false_eq_true, Nat.reduceLeDiff, Nat.reduceEqDiff, Nat.reduceLT, Nat.reduceAdd, Nat.reduceMul, Nat.reduceSub, Int.reduceLT, Int.reduceLE, Int.reduceEq, Int.reduceToNat, Int.reduceAdd, Int.reduceSub, Int.reduceMul, Int.reduceNeg, Int.cast_ofNat_Int, false_and, and_false]
  refine hS h _ _ b p x (fun h1 x1 f1 => ?_)
  unfold pCmp at k
  have t39 : ∀ (Q : Option PV → Hp → Prop), WP (d + 20) mX12_is 0 [some (.inr (.inr 294)), some (.inl 39)] [] h1 Q = Q (some (.inl (zb (tkr X (S r) = 39)))) h1 := fun Q => R_is (d := d + 20) (Q := Q) x1.1 x1.2.2.1 (z := 39) (by decide)
  have t40 : ∀ (Q : Option PV → Hp → Prop), WP (d + 20) mX12_is 0 [some (.inr (.inr 294)), some (.inl 40)] [] h1 Q = Q (some (.inl (zb (tkr X (S r) = 40)))) h1 := fun Q => R_is (d := d + 20) (Q := Q) x1.1 x1.2.2.1 (z := 40) (by decide)
  have t41 : ∀ (Q : Option PV → Hp → Prop), WP (d + 20) mX12_is 0 [some (.inr (.inr 294)), some (.inl 41)] [] h1 Q = Q (some (.inl (zb (tkr X (S r) = 41)))) h1 := fun Q => R_is (d := d + 20) (Q := Q) x1.1 x1.2.2.1 (z := 41) (by decide)
  by_cases c39 : tkr X (S r) = 39
  · rw [if_pos (by rw [c39]; decide), show gC (tkr X (S r)) = 3003 by rw [c39]; rfl] at k
    simp only [psh_none, rX12_readUnit_78, rX12_readUnit_79, rX12_readUnit_81, rX12_readUnit_84, rX12_readUnit_87, rX12_readUnit_90, rX12_readUnit_93, rX12_readUnit_94, rX12_readUnit_96, rX12_readUnit_99, rX12_readUnit_102, rX12_readUnit_105, rX12_readUnit_108, rX12_readUnit_111, rX12_readUnit_112, rX12_readUnit_113, rX12_readUnit_115, rX12_readUnit_118, rX12_readUnit_121, rX12_readUnit_122, rX12_readUnit_124, rX12_readUnit_127, rX12_readUnit_130, rX12_readUnit_131, rX12_readUnit_133, rX12_readUnit_136, rX12_readUnit_139, rX12_readUnit_140, Md_K280 x1.1.2.1, t39, t40, t41, zb_t c39, psh_some, Int.toNat_natCast, Int.natCast_nonneg, true_and, and_true, and_self, if_true, if_false, or_true, true_or, or_false, false_or, ne_eq, not_true_eq_false, not_false_eq_true, Nat.reduceLeDiff, Nat.reduceEqDiff, Nat.reduceLT, Nat.reduceAdd, Nat.reduceMul, Nat.reduceSub, Int.reduceLT, Int.reduceLE, Int.reduceEq, Int.reduceToNat, Int.reduceAdd, Int.reduceSub, Int.reduceMul, Int.reduceNeg, Int.cast_ofNat_Int, false_and, and_false]
    refine M_next (d := d + 14) x1 (by rw [c39]; decide) (by rw [c39]; decide) (fun h2 x2 f2 => ?_)
    simp only [psh_none, rX12_readUnit_143, rX12_readUnit_151, rX12_readUnit_152, rX12_readUnit_153, Md_K280 x2.1.2.1, Int.toNat_natCast, Int.natCast_nonneg, true_and, and_true, and_self, if_true, if_false, or_true, true_or, or_false, false_or, ne_eq, not_true_eq_false, not_false_eq_true, Nat.reduceLeDiff, Nat.reduceEqDiff, Nat.reduceLT, Nat.reduceAdd, Nat.reduceMul, Nat.reduceSub, Int.reduceLT, Int.reduceLE, Int.reduceEq, Int.reduceToNat, Int.reduceAdd, Int.reduceSub, Int.reduceMul, Int.reduceNeg, Int.cast_ofNat_Int, false_and, and_false]
    refine hS h2 _ _ (b + 1) (p + 1) x2 (fun h3 x3 f3 => ?_)
    simp only [psh_none, rX12_readUnit_156, rX12_readUnit_157, rX12_readUnit_158, Md_K280 x3.1.2.1, Int.toNat_natCast, Int.natCast_nonneg, true_and, and_true, and_self, if_true, if_false, or_true, true_or, or_false, false_or, ne_eq, not_true_eq_false, not_false_eq_true, Nat.reduceLeDiff, Nat.reduceEqDiff, Nat.reduceLT, Nat.reduceAdd, Nat.reduceMul, Nat.reduceSub, Int.reduceLT, Int.reduceLE, Int.reduceEq, Int.reduceToNat, Int.reduceAdd, Int.reduceSub, Int.reduceMul, Int.reduceNeg, Int.cast_ofNat_Int, false_and, and_false]
    refine M_codes (c := 3003) x3 (fun h4 x4 f4 => ?_)
    simp only [psh_none, rX12_readUnit_161]
    exact k h4 (x4.weak (Nat.le_succ b) (Nat.le_refl _)) (f1.trans (f2.trans (f3.trans f4)))
  by_cases c40 : tkr X (S r) = 40
  · rw [if_pos (by rw [c40]; decide), show gC (tkr X (S r)) = 3004 by rw [c40]; rfl] at k
    simp only [psh_none, rX12_readUnit_78, rX12_readUnit_79, rX12_readUnit_81, rX12_readUnit_84, rX12_readUnit_87, rX12_readUnit_90, rX12_readUnit_93, rX12_readUnit_94, rX12_readUnit_96, rX12_readUnit_99, rX12_readUnit_102, rX12_readUnit_105, rX12_readUnit_108, rX12_readUnit_111, rX12_readUnit_112, rX12_readUnit_113, rX12_readUnit_115, rX12_readUnit_118, rX12_readUnit_121, rX12_readUnit_122, rX12_readUnit_124, rX12_readUnit_127, rX12_readUnit_130, rX12_readUnit_131, rX12_readUnit_133, rX12_readUnit_136, rX12_readUnit_139, rX12_readUnit_140, Md_K280 x1.1.2.1, t39, t40, t41, zb_f c39, zb_t c40, psh_some, Int.toNat_natCast, Int.natCast_nonneg, true_and, and_true, and_self, if_true, if_false, or_true, true_or, or_false, false_or, ne_eq, not_true_eq_false, not_false_eq_true, Nat.reduceLeDiff, Nat.reduceEqDiff, Nat.reduceLT, Nat.reduceAdd, Nat.reduceMul, Nat.reduceSub, Int.reduceLT, Int.reduceLE, Int.reduceEq, Int.reduceToNat, Int.reduceAdd, Int.reduceSub, Int.reduceMul, Int.reduceNeg, Int.cast_ofNat_Int, false_and, and_false]
    refine M_next (d := d + 14) x1 (by rw [c40]; decide) (by rw [c40]; decide) (fun h2 x2 f2 => ?_)
    simp only [psh_none, rX12_readUnit_143, rX12_readUnit_151, rX12_readUnit_152, rX12_readUnit_153, Md_K280 x2.1.2.1, Int.toNat_natCast, Int.natCast_nonneg, true_and, and_true, and_self, if_true, if_false, or_true, true_or, or_false, false_or, ne_eq, not_true_eq_false, not_false_eq_true, Nat.reduceLeDiff, Nat.reduceEqDiff, Nat.reduceLT, Nat.reduceAdd, Nat.reduceMul, Nat.reduceSub, Int.reduceLT, Int.reduceLE, Int.reduceEq, Int.reduceToNat, Int.reduceAdd, Int.reduceSub, Int.reduceMul, Int.reduceNeg, Int.cast_ofNat_Int, false_and, and_false]
    refine hS h2 _ _ (b + 1) (p + 1) x2 (fun h3 x3 f3 => ?_)
    simp only [psh_none, rX12_readUnit_156, rX12_readUnit_157, rX12_readUnit_158, Md_K280 x3.1.2.1, Int.toNat_natCast, Int.natCast_nonneg, true_and, and_true, and_self, if_true, if_false, or_true, true_or, or_false, false_or, ne_eq, not_true_eq_false, not_false_eq_true, Nat.reduceLeDiff, Nat.reduceEqDiff, Nat.reduceLT, Nat.reduceAdd, Nat.reduceMul, Nat.reduceSub, Int.reduceLT, Int.reduceLE, Int.reduceEq, Int.reduceToNat, Int.reduceAdd, Int.reduceSub, Int.reduceMul, Int.reduceNeg, Int.cast_ofNat_Int, false_and, and_false]
    refine M_codes (c := 3004) x3 (fun h4 x4 f4 => ?_)
    simp only [psh_none, rX12_readUnit_161]
    exact k h4 (x4.weak (Nat.le_succ b) (Nat.le_refl _)) (f1.trans (f2.trans (f3.trans f4)))
  by_cases c41 : tkr X (S r) = 41
  · rw [if_pos (by rw [c41]; decide), show gC (tkr X (S r)) = 3005 by rw [c41]; rfl] at k
    simp only [psh_none, rX12_readUnit_78, rX12_readUnit_79, rX12_readUnit_81, rX12_readUnit_84, rX12_readUnit_87, rX12_readUnit_90, rX12_readUnit_93, rX12_readUnit_94, rX12_readUnit_96, rX12_readUnit_99, rX12_readUnit_102, rX12_readUnit_105, rX12_readUnit_108, rX12_readUnit_111, rX12_readUnit_112, rX12_readUnit_113, rX12_readUnit_115, rX12_readUnit_118, rX12_readUnit_121, rX12_readUnit_122, rX12_readUnit_124, rX12_readUnit_127, rX12_readUnit_130, rX12_readUnit_131, rX12_readUnit_133, rX12_readUnit_136, rX12_readUnit_139, rX12_readUnit_140, Md_K280 x1.1.2.1, t39, t40, t41, zb_f c39, zb_f c40, zb_t c41, psh_some, Int.toNat_natCast, Int.natCast_nonneg, true_and, and_true, and_self, if_true, if_false, or_true, true_or, or_false, false_or, ne_eq, not_true_eq_false, not_false_eq_true, Nat.reduceLeDiff, Nat.reduceEqDiff, Nat.reduceLT, Nat.reduceAdd, Nat.reduceMul, Nat.reduceSub, Int.reduceLT, Int.reduceLE, Int.reduceEq, Int.reduceToNat, Int.reduceAdd, Int.reduceSub, Int.reduceMul, Int.reduceNeg, Int.cast_ofNat_Int, false_and, and_false]
    refine M_next (d := d + 14) x1 (by rw [c41]; decide) (by rw [c41]; decide) (fun h2 x2 f2 => ?_)
    simp only [psh_none, rX12_readUnit_143, rX12_readUnit_151, rX12_readUnit_152, rX12_readUnit_153, Md_K280 x2.1.2.1, Int.toNat_natCast, Int.natCast_nonneg, true_and, and_true, and_self, if_true, if_false, or_true, true_or, or_false, false_or, ne_eq, not_true_eq_false, not_false_eq_true, Nat.reduceLeDiff, Nat.reduceEqDiff, Nat.reduceLT, Nat.reduceAdd, Nat.reduceMul, Nat.reduceSub, Int.reduceLT, Int.reduceLE, Int.reduceEq, Int.reduceToNat, Int.reduceAdd, Int.reduceSub, Int.reduceMul, Int.reduceNeg, Int.cast_ofNat_Int, false_and, and_false]
    refine hS h2 _ _ (b + 1) (p + 1) x2 (fun h3 x3 f3 => ?_)
    simp only [psh_none, rX12_readUnit_156, rX12_readUnit_157, rX12_readUnit_158, Md_K280 x3.1.2.1, Int.toNat_natCast, Int.natCast_nonneg, true_and, and_true, and_self, if_true, if_false, or_true, true_or, or_false, false_or, ne_eq, not_true_eq_false, not_false_eq_true, Nat.reduceLeDiff, Nat.reduceEqDiff, Nat.reduceLT, Nat.reduceAdd, Nat.reduceMul, Nat.reduceSub, Int.reduceLT, Int.reduceLE, Int.reduceEq, Int.reduceToNat, Int.reduceAdd, Int.reduceSub, Int.reduceMul, Int.reduceNeg, Int.cast_ofNat_Int, false_and, and_false]
    refine M_codes (c := 3005) x3 (fun h4 x4 f4 => ?_)
    simp only [psh_none, rX12_readUnit_161]
    exact k h4 (x4.weak (Nat.le_succ b) (Nat.le_refl _)) (f1.trans (f2.trans (f3.trans f4)))
  have gc : gC (tkr X (S r)) = 0 := by unfold gC; rw [if_neg c39, if_neg c40, if_neg c41]
  rw [if_neg (by rw [gc]; decide)] at k
  simp only [psh_none, rX12_readUnit_78, rX12_readUnit_79, rX12_readUnit_81, rX12_readUnit_84, rX12_readUnit_87, rX12_readUnit_90, rX12_readUnit_93, rX12_readUnit_94, rX12_readUnit_96, rX12_readUnit_99, rX12_readUnit_102, rX12_readUnit_105, rX12_readUnit_108, rX12_readUnit_111, rX12_readUnit_112, rX12_readUnit_113, rX12_readUnit_115, rX12_readUnit_118, rX12_readUnit_121, rX12_readUnit_122, rX12_readUnit_124, rX12_readUnit_127, rX12_readUnit_130, rX12_readUnit_131, rX12_readUnit_133, rX12_readUnit_136, rX12_readUnit_146, rX12_readUnit_147, rX12_readUnit_148, Md_K280 x1.1.2.1, t39, t40, t41, zb_f c39, zb_f c40, zb_f c41, psh_some, Int.toNat_natCast, Int.natCast_nonneg, true_and, and_true, and_self, if_true, if_false, or_true, true_or, or_false, false_or, ne_eq, not_true_eq_false, not_false_eq_true, Nat.reduceLeDiff, Nat.reduceEqDiff, Nat.reduceLT, Nat.reduceAdd, Nat.reduceMul, Nat.reduceSub, Int.reduceLT, Int.reduceLE, Int.reduceEq, Int.reduceToNat, Int.reduceAdd, Int.reduceSub, Int.reduceMul, Int.reduceNeg, Int.cast_ofNat_Int, false_and, and_false]
  refine M_fails x1 (by decide) (fun h2 x2 f2 => ?_)
  obtain ⟨ee, he⟩ : ∃ ee, fl X 2 (S r) = .inr ee := by
    cases S r with
    | inl y => exact ⟨_, rfl⟩
    | inr y => exact ⟨_, rfl⟩
  rw [he] at x2 k
  simp only [psh_none, rX12_readUnit_151, rX12_readUnit_152, rX12_readUnit_153, Md_K280 x2.1.2.1, Int.toNat_natCast, Int.natCast_nonneg, true_and, and_true, and_self, if_true, if_false, or_true, true_or, or_false, false_or, ne_eq, not_true_eq_false, not_false_eq_true, Nat.reduceLeDiff, Nat.reduceEqDiff, Nat.reduceLT, Nat.reduceAdd, Nat.reduceMul, Nat.reduceSub, Int.reduceLT, Int.reduceLE, Int.reduceEq, Int.reduceToNat, Int.reduceAdd, Int.reduceSub, Int.reduceMul, Int.reduceNeg, Int.cast_ofNat_Int, false_and, and_false]
  refine hS h2 _ _ b p x2 (fun h3 x3 f3 => ?_)
  rw [hSb] at x3
  simp only [psh_none, rX12_readUnit_156, rX12_readUnit_157, rX12_readUnit_158, Md_K280 x3.1.2.1, Int.toNat_natCast, Int.natCast_nonneg, true_and, and_true, and_self, if_true, if_false, or_true, true_or, or_false, false_or, ne_eq, not_true_eq_false, not_false_eq_true, Nat.reduceLeDiff, Nat.reduceEqDiff, Nat.reduceLT, Nat.reduceAdd, Nat.reduceMul, Nat.reduceSub, Int.reduceLT, Int.reduceLE, Int.reduceEq, Int.reduceToNat, Int.reduceAdd, Int.reduceSub, Int.reduceMul, Int.reduceNeg, Int.cast_ofNat_Int, false_and, and_false]
  refine M_codes (c := 3005) (p := p) x3 (fun h4 x4 f4 => ?_)
  simp only [psh_none, rX12_readUnit_161]
  exact k h4 ⟨x4.1, x4.2.1, x4.2.2.1, trivial⟩ (f1.trans (f2.trans (f3.trans f4)))
/-- sum, unit, truth of the reference where n more may be opened -/
def LM' (X : TX) (law : Nat) (pre : List Int) (n deep D : Nat) (l : LV) : Prop := (∀ d, D ≤ d → RMt X law pre d mX12_readSum [some (.inr (.inr 294)), some (.inl (deep : Int)), none] l.1) ∧ (∀ d, D + 1 ≤ d → RMt X law pre d mX12_readUnit [some (.inr (.inr 294)), some (.inl (deep : Int)), none] l.2.1) ∧ ∀ d, D + 3 ≤ d → RMt X law pre d mX12_readTruth [some (.inr (.inr 294)), some (.inl (deep : Int))] l.2.2
theorem M_mk {X : TX} {law n deep D : Nat} {pre : List Int} {l : LV} (hl : law < 2) (hd : deep + n = 6) (hb : ∀ e, pSum X law n l (.inr e) = .inr e) (hs : n ≠ 0 → LM' X law pre (n - 1) (deep + 1) D l) : LM' X law pre n deep (D + 20) (pSum X law n l, pUn X law n l, pTruth X law n l) := by
  have hS : ∀ d, D ≤ d → RMt X law pre (d + 20) mX12_readSum [some (.inr (.inr 294)), some (.inl (deep : Int)), none] (pSum X law n l) := fun d h => M_sum (M_term (M_atom hl hd (fun hn d' h' => (hs hn).1 d' (by omega)) (fun hn d' h' => (hs hn).2.2 d' (by omega))))
  have hU : ∀ d, D ≤ d → RMt X law pre (d + 21) mX12_readUnit [some (.inr (.inr 294)), some (.inl (deep : Int)), none] (pUn X law n l) := fun d h => M_unit hd hb (hS d h) (fun hn d' h' => (hs hn).2.1 d' (by omega)) (fun hn d' h' => (hs hn).2.2 d' (by omega))
  have hT : ∀ d, D ≤ d → RMt X law pre (d + 23) mX12_readTruth [some (.inr (.inr 294)), some (.inl (deep : Int))] (pTruth X law n l) := fun d h => M_truth (M_both (hU d h))
  refine ⟨fun d h => ?_, fun d h => ?_, fun d h => ?_⟩
  · have := hS (d - 20) (by omega); rwa [show d - 20 + 20 = d by omega] at this
  · have := hU (d - 21) (by omega); rwa [show d - 21 + 21 = d by omega] at this
  · have := hT (d - 23) (by omega); rwa [show d - 23 + 23 = d by omega] at this
theorem M_lvl {X : TX} {law : Nat} {pre : List Int} (hl : law < 2) : ∀ n deep, deep + n = 6 → LM' X law pre n deep (20 * n + 20) (lvl X law n)
  | 0, deep, h => M_mk (D := 0) hl h (lvl_typ (X := X) hl 0 (by omega)).1.1 (fun z => absurd rfl z)
  | n + 1, deep, h => M_mk (D := 20 * n + 20) hl h (lvl_typ (X := X) hl (n + 1) (by omega)).1.1 (fun _ => M_lvl hl n (deep + 1) (by omega))
