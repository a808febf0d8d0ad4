/-! the class reads lines: things, goers -/
theorem qt_6 {t : Nat} (h : t < 6) : ((t : Int) < 6) = True ∧ w32 ((t : Int) - 1) = (t : Int) - 1 := ⟨eq_true (by omega), w32_i (by omega) (by omega)⟩
theorem pn {c j : Nat} (h1 : 1 ≤ c) (h2 : c ≤ 6) (h3 : j < 6) : pin c j := Or.inr ⟨h1, h2, h3⟩
theorem E_part {d : Nat} {Q : Option PV → Hp → Prop} {X : TX} {pl : Nat} {h : Hp} {b t : Nat} {r : LN} (ht : t < 6) (x : CLn X pl h b r) (c : isPart (tkl X r) = true) (k : ∀ h', CLn X pl h' (b + 1) (gPart X t r) → Fp (PW pl) h h' → Q (some (.inl 1)) h') : WP (d + 8) mX6_tookPart 0 [some (.inr (.inr 201)), some (.inl (t : Int))] [] h Q := by
  obtain ⟨l6, w1⟩ := qt_6 ht
  have K := x.1.2.1
  have w_guard : ∀ (Q : Option PV → Hp → Prop), WP (d + 2 + 5) mX6_isWord 0 [some (.inr (.inr 201)), some (.inr (.inr 5)), none] [] h Q = Q (some (.inl (zb (tkl X r = 3)))) h := fun Q => C_isWord (d := d + 2) (Q := Q) x.1 x.2.1 (i := 3) (j := 4) (by decide) (by decide) rfl
  have w_needs : ∀ (Q : Option PV → Hp → Prop), WP (d + 2 + 5) mX6_isWord 0 [some (.inr (.inr 201)), some (.inr (.inr 6)), none] [] h Q = Q (some (.inl (zb (tkl X r = 4)))) h := fun Q => C_isWord (d := d + 2) (Q := Q) x.1 x.2.1 (i := 4) (j := 5) (by decide) (by decide) rfl
  have w_there : ∀ (Q : Option PV → Hp → Prop), WP (d + 2 + 5) mX6_isWord 0 [some (.inr (.inr 201)), some (.inr (.inr 7)), none] [] h Q = Q (some (.inl (zb (tkl X r = 5)))) h := fun Q => C_isWord (d := d + 2) (Q := Q) x.1 x.2.1 (i := 5) (j := 6) (by decide) (by decide) rfl
  unfold gPart at k
  by_cases c3 : tkl X r = 3
  · rw [if_pos c3] at k
    simp only [rX6_tookPart_0, rX6_tookPart_1, rX6_tookPart_3, rX6_tookPart_6, rX6_tookPart_9, rX6_tookPart_10, K, w_guard, zb_t c3, psh_some, Int.toNat_natCast, Int.natCast_nonneg, true_and, and_true, and_self, if_true, if_false, or_true, true_or, or_false, false_or, ne_eq, not_true_eq_false, not_false_eq_true, Nat.reduceLeDiff, Nat.reduceEqDiff, Nat.reduceLT, Nat.reduceAdd, Nat.reduceMul, Nat.reduceSub, Int.reduceLT, Int.reduceLE, Int.reduceEq, Int.reduceToNat, Int.reduceAdd, Int.reduceSub, Int.reduceMul, Int.reduceNeg, Int.cast_ofNat_Int, false_and, and_false]
    refine E_adv (d := d + 1) x (by rw [c3]; decide) (by rw [c3]; decide) (by rw [c3]; decide) (fun h1 x1 f1 => ?_)
    obtain ⟨p3, pK, r0, r1, r2, r3, r4, r5, k1, k2, k3, k4, k5, k6⟩ := x1.2.2.2.1
    simp only [psh_none, rX6_tookPart_13, rX6_tookPart_14, rX6_tookPart_17, rX6_tookPart_20, rX6_tookPart_21, rX6_tookPart_22, rX6_tookPart_24, x1.1.2.1, x1.2.2.1, pK, r1, Int.toNat_natCast, Int.natCast_nonneg, true_and, and_true, and_self, if_true, if_false, or_true, true_or, or_false, false_or, ne_eq, not_true_eq_false, not_false_eq_true, Nat.reduceLeDiff, Nat.reduceEqDiff, Nat.reduceLT, Nat.reduceAdd, Nat.reduceMul, Nat.reduceSub, Int.reduceLT, Int.reduceLE, Int.reduceEq, Int.reduceToNat, Int.reduceAdd, Int.reduceSub, Int.reduceMul, Int.reduceNeg, Int.cast_ofNat_Int, false_and, and_false]
    refine E_takeNum (d := d) x1 (fun h2 v x2 e2 f2 => ?_)
    have k2 := x2.2.2.2.1.2.2.2.2.2.2.2.2.2.1
    have q2 : (200 ≤ pl + 2) = True := eq_true (Nat.le_trans (Nat.le_trans (by decide) p3) (Nat.le_add_right pl 2))
    simp only [psh_some, rX6_tookPart_27, rX6_tookPart_28, rX6_tookPart_29, k2, l6, q2, Int.toNat_natCast, Int.natCast_nonneg, true_and, and_true, and_self, if_true, if_false, or_true, true_or, or_false, false_or, ne_eq, not_true_eq_false, not_false_eq_true, Nat.reduceLeDiff, Nat.reduceEqDiff, Nat.reduceLT, Nat.reduceAdd, Nat.reduceMul, Nat.reduceSub, Int.reduceLT, Int.reduceLE, Int.reduceEq, Int.reduceToNat, Int.reduceAdd, Int.reduceSub, Int.reduceMul, Int.reduceNeg, Int.cast_ofNat_Int, false_and, and_false]
    exact k _ (x2.up (c := 2) (j := t) (pn (by decide) (by decide) ht) (g := fun _ => nms X (tsl (mvn (nxs X) r))) e2) (f1.trans (f2.trans (CLn.fx (X := X) (c := 2) (pn (by decide) (by decide) ht))))
  rw [if_neg c3] at k
  by_cases c4 : tkl X r = 4
  · rw [if_pos c4] at k
    simp only [rX6_tookPart_0, rX6_tookPart_1, rX6_tookPart_3, rX6_tookPart_6, rX6_tookPart_30, rX6_tookPart_31, rX6_tookPart_33, rX6_tookPart_36, rX6_tookPart_39, rX6_tookPart_40, K, w_guard, w_needs, zb_f c3, zb_t c4, psh_some, Int.toNat_natCast, Int.natCast_nonneg, true_and, and_true, and_self, if_true, if_false, or_true, true_or, or_false, false_or, ne_eq, not_true_eq_false, not_false_eq_true, Nat.reduceLeDiff, Nat.reduceEqDiff, Nat.reduceLT, Nat.reduceAdd, Nat.reduceMul, Nat.reduceSub, Int.reduceLT, Int.reduceLE, Int.reduceEq, Int.reduceToNat, Int.reduceAdd, Int.reduceSub, Int.reduceMul, Int.reduceNeg, Int.cast_ofNat_Int, false_and, and_false]
    refine E_adv (d := d + 1) x (by rw [c4]; decide) (by rw [c4]; decide) (by rw [c4]; decide) (fun h1 x1 f1 => ?_)
    obtain ⟨p3, pK, r0, r1, r2, r3, r4, r5, k1, k2, k3, k4, k5, k6⟩ := x1.2.2.2.1
    simp only [psh_none, rX6_tookPart_43, rX6_tookPart_44, rX6_tookPart_47, rX6_tookPart_50, rX6_tookPart_51, rX6_tookPart_52, rX6_tookPart_53, rX6_tookPart_54, rX6_tookPart_55, rX6_tookPart_56, rX6_tookPart_57, rX6_tookPart_58, x1.1.2.1, x1.2.2.1, pK, r2, k3, l6, w1, Int.toNat_natCast, Int.natCast_nonneg, true_and, and_true, and_self, if_true, if_false, or_true, true_or, or_false, false_or, ne_eq, not_true_eq_false, not_false_eq_true, Nat.reduceLeDiff, Nat.reduceEqDiff, Nat.reduceLT, Nat.reduceAdd, Nat.reduceMul, Nat.reduceSub, Int.reduceLT, Int.reduceLE, Int.reduceEq, Int.reduceToNat, Int.reduceAdd, Int.reduceSub, Int.reduceMul, Int.reduceNeg, Int.cast_ofNat_Int, false_and, and_false]
    refine E_takeNum (d := d) x1 (fun h2 v x2 e2 f2 => ?_)
    have k3 := x2.2.2.2.1.2.2.2.2.2.2.2.2.2.2.1
    have q2 : (200 ≤ pl + 3) = True := eq_true (Nat.le_trans (Nat.le_trans (by decide) p3) (Nat.le_add_right pl 3))
    simp only [psh_some, rX6_tookPart_61, rX6_tookPart_62, rX6_tookPart_63, rX6_tookPart_64, rX6_tookPart_65, k3, l6, q2, Int.toNat_natCast, Int.natCast_nonneg, true_and, and_true, and_self, if_true, if_false, or_true, true_or, or_false, false_or, ne_eq, not_true_eq_false, not_false_eq_true, Nat.reduceLeDiff, Nat.reduceEqDiff, Nat.reduceLT, Nat.reduceAdd, Nat.reduceMul, Nat.reduceSub, Int.reduceLT, Int.reduceLE, Int.reduceEq, Int.reduceToNat, Int.reduceAdd, Int.reduceSub, Int.reduceMul, Int.reduceNeg, Int.cast_ofNat_Int, false_and, and_false]
    refine k _ (x2.up (c := 3) (j := t) (pn (by decide) (by decide) ht) (g := fun A => ior (A (21 + t)) (ishl 1 (nms X (tsl (mvn (nxs X) r))))) (fun q A e => ?_)) (f1.trans (f2.trans (CLn.fx (X := X) (c := 3) (pn (by decide) (by decide) ht))))
    obtain ⟨q0, e5, _⟩ := mvn_inl e
    rw [e2 q A e, show hI h1 (pl + 3) t = A (21 + t) from x1.2.2.2.2 q0 A e5 3 t (pn (by decide) (by decide) ht)]
  rw [if_neg c4] at k
  have c5 : tkl X r = 5 := by
    unfold isPart at c
    simp only [Bool.or_eq_true, beq_iff_eq] at c
    rcases c with (c | c) | c
    · exact absurd c c3
    · exact absurd c c4
    · exact c
  simp only [rX6_tookPart_0, rX6_tookPart_1, rX6_tookPart_3, rX6_tookPart_6, rX6_tookPart_30, rX6_tookPart_31, rX6_tookPart_33, rX6_tookPart_36, rX6_tookPart_66, rX6_tookPart_67, rX6_tookPart_69, rX6_tookPart_72, rX6_tookPart_75, rX6_tookPart_76, K, w_guard, w_needs, w_there, zb_f c3, zb_f c4, zb_t c5, psh_some, Int.toNat_natCast, Int.natCast_nonneg, true_and, and_true, and_self, if_true, if_false, or_true, true_or, or_false, false_or, ne_eq, not_true_eq_false, not_false_eq_true, Nat.reduceLeDiff, Nat.reduceEqDiff, Nat.reduceLT, Nat.reduceAdd, Nat.reduceMul, Nat.reduceSub, Int.reduceLT, Int.reduceLE, Int.reduceEq, Int.reduceToNat, Int.reduceAdd, Int.reduceSub, Int.reduceMul, Int.reduceNeg, Int.cast_ofNat_Int, false_and, and_false]
  refine E_adv (d := d + 1) x (by rw [c5]; decide) (by rw [c5]; decide) (by rw [c5]; decide) (fun h1 x1 f1 => ?_)
  obtain ⟨p3, pK, _⟩ := x1.2.2.2.1
  have q2 : (200 ≤ pl) = True := eq_true (Nat.le_trans (by decide) p3)
  simp only [psh_none, rX6_tookPart_79, rX6_tookPart_80, rX6_tookPart_83, rX6_tookPart_84, rX6_tookPart_87, rX6_tookPart_88, rX6_tookPart_89, rX6_tookPart_90, rX6_tookPart_91, rX6_tookPart_94, rX6_tookPart_95, x1.1.2.1, x1.2.2.1, pK, q2, Int.toNat_natCast, Int.natCast_nonneg, true_and, and_true, and_self, if_true, if_false, or_true, true_or, or_false, false_or, ne_eq, not_true_eq_false, not_false_eq_true, Nat.reduceLeDiff, Nat.reduceEqDiff, Nat.reduceLT, Nat.reduceAdd, Nat.reduceMul, Nat.reduceSub, Int.reduceLT, Int.reduceLE, Int.reduceEq, Int.reduceToNat, Int.reduceAdd, Int.reduceSub, Int.reduceMul, Int.reduceNeg, Int.cast_ofNat_Int, false_and, and_false]
  exact k _ (x1.up (c := 0) (j := 9) (Or.inl ⟨rfl, by decide, by decide⟩) (g := fun A => ior (A 34) (ishl 1 (t : Int))) (fun q A e => by rw [show hI h1 pl 9 = A 34 from x1.2.2.2.2 q A e 0 9 (Or.inl ⟨rfl, by decide, by decide⟩)])) (f1.trans (CLn.fx (X := X) (c := 0) (Or.inl ⟨rfl, by decide, by decide⟩)))
theorem E_part0 {d : Nat} {Q : Option PV → Hp → Prop} {X : TX} {pl : Nat} {h : Hp} {b t : Nat} {r : LN} (x : CLn X pl h b r) (c : ¬ isPart (tkl X r) = true) : WP (d + 8) mX6_tookPart 0 [some (.inr (.inr 201)), some (.inl (t : Int))] [] h Q = Q (some (.inl 0)) h := by
  have K := x.1.2.1
  have w_guard : ∀ (Q : Option PV → Hp → Prop), WP (d + 2 + 5) mX6_isWord 0 [some (.inr (.inr 201)), some (.inr (.inr 5)), none] [] h Q = Q (some (.inl (zb (tkl X r = 3)))) h := fun Q => C_isWord (d := d + 2) (Q := Q) x.1 x.2.1 (i := 3) (j := 4) (by decide) (by decide) rfl
  have w_needs : ∀ (Q : Option PV → Hp → Prop), WP (d + 2 + 5) mX6_isWord 0 [some (.inr (.inr 201)), some (.inr (.inr 6)), none] [] h Q = Q (some (.inl (zb (tkl X r = 4)))) h := fun Q => C_isWord (d := d + 2) (Q := Q) x.1 x.2.1 (i := 4) (j := 5) (by decide) (by decide) rfl
  have w_there : ∀ (Q : Option PV → Hp → Prop), WP (d + 2 + 5) mX6_isWord 0 [some (.inr (.inr 201)), some (.inr (.inr 7)), none] [] h Q = Q (some (.inl (zb (tkl X r = 5)))) h := fun Q => C_isWord (d := d + 2) (Q := Q) x.1 x.2.1 (i := 5) (j := 6) (by decide) (by decide) rfl
  unfold isPart at c
  simp only [Bool.or_eq_true, beq_iff_eq, not_or] at c
  obtain ⟨⟨c3, c4⟩, c5⟩ := c
  simp only [rX6_tookPart_0, rX6_tookPart_1, rX6_tookPart_3, rX6_tookPart_6, rX6_tookPart_30, rX6_tookPart_31, rX6_tookPart_33, rX6_tookPart_36, rX6_tookPart_66, rX6_tookPart_67, rX6_tookPart_69, rX6_tookPart_72, rX6_tookPart_96, rX6_tookPart_97, K, w_guard, w_needs, w_there, zb_f c3, zb_f c4, zb_f c5, psh_some, Int.toNat_natCast, Int.natCast_nonneg, true_and, and_true, and_self, if_true, if_false, or_true, true_or, or_false, false_or, ne_eq, not_true_eq_false, not_false_eq_true, Nat.reduceLeDiff, Nat.reduceEqDiff, Nat.reduceLT, Nat.reduceAdd, Nat.reduceMul, Nat.reduceSub, Int.reduceLT, Int.reduceLE, Int.reduceEq, Int.reduceToNat, Int.reduceAdd, Int.reduceSub, Int.reduceMul, Int.reduceNeg, Int.cast_ofNat_Int, false_and, and_false]
theorem E_flag {d : Nat} {Q : Option PV → Hp → Prop} {X : TX} {pl : Nat} {h : Hp} {b t : Nat} {r : LN} (ht : t < 6) (x : CLn X pl h b r) (c : isFlag (tkl X r) = true) (k : ∀ h', CLn X pl h' (b + 1) (gFlag X t r) → Fp (PW pl) h h' → Q (some (.inl 1)) h') : WP (d + 8) mX6_tookFlag 0 [some (.inr (.inr 201)), some (.inl (t : Int))] [] h Q := by
  obtain ⟨l6, w1⟩ := qt_6 ht
  have K := x.1.2.1
  have w_bold : ∀ (Q : Option PV → Hp → Prop), WP (d + 2 + 5) mX6_isWord 0 [some (.inr (.inr 201)), some (.inr (.inr 10)), none] [] h Q = Q (some (.inl (zb (tkl X r = 8)))) h := fun Q => C_isWord (d := d + 2) (Q := Q) x.1 x.2.1 (i := 8) (j := 9) (by decide) (by decide) rfl
  have w_odds : ∀ (Q : Option PV → Hp → Prop), WP (d + 2 + 5) mX6_isWord 0 [some (.inr (.inr 201)), some (.inr (.inr 11)), none] [] h Q = Q (some (.inl (zb (tkl X r = 9)))) h := fun Q => C_isWord (d := d + 2) (Q := Q) x.1 x.2.1 (i := 9) (j := 10) (by decide) (by decide) rfl
  unfold gFlag at k
  by_cases c3 : tkl X r = 8
  · rw [if_pos c3] at k
    simp only [rX6_tookFlag_0, rX6_tookFlag_1, rX6_tookFlag_3, rX6_tookFlag_6, rX6_tookFlag_9, rX6_tookFlag_10, K, w_bold, zb_t c3, psh_some, Int.toNat_natCast, Int.natCast_nonneg, true_and, and_true, and_self, if_true, if_false, or_true, true_or, or_false, false_or, ne_eq, not_true_eq_false, not_false_eq_true, Nat.reduceLeDiff, Nat.reduceEqDiff, Nat.reduceLT, Nat.reduceAdd, Nat.reduceMul, Nat.reduceSub, Int.reduceLT, Int.reduceLE, Int.reduceEq, Int.reduceToNat, Int.reduceAdd, Int.reduceSub, Int.reduceMul, Int.reduceNeg, Int.cast_ofNat_Int, false_and, and_false]
    refine E_adv (d := d + 1) x (by rw [c3]; decide) (by rw [c3]; decide) (by rw [c3]; decide) (fun h1 x1 f1 => ?_)
    obtain ⟨p3, pK, r0, r1, r2, r3, r4, r5, k1, k2, k3, k4, k5, k6⟩ := x1.2.2.2.1
    simp only [psh_none, rX6_tookFlag_13, rX6_tookFlag_14, rX6_tookFlag_17, rX6_tookFlag_20, rX6_tookFlag_21, rX6_tookFlag_22, rX6_tookFlag_24, x1.1.2.1, x1.2.2.1, pK, r4, Int.toNat_natCast, Int.natCast_nonneg, true_and, and_true, and_self, if_true, if_false, or_true, true_or, or_false, false_or, ne_eq, not_true_eq_false, not_false_eq_true, Nat.reduceLeDiff, Nat.reduceEqDiff, Nat.reduceLT, Nat.reduceAdd, Nat.reduceMul, Nat.reduceSub, Int.reduceLT, Int.reduceLE, Int.reduceEq, Int.reduceToNat, Int.reduceAdd, Int.reduceSub, Int.reduceMul, Int.reduceNeg, Int.cast_ofNat_Int, false_and, and_false]
    refine E_takeNum (d := d) x1 (fun h2 v x2 e2 f2 => ?_)
    have k5 := x2.2.2.2.1.2.2.2.2.2.2.2.2.2.2.2.2.1
    have q2 : (200 ≤ pl + 5) = True := eq_true (Nat.le_trans (Nat.le_trans (by decide) p3) (Nat.le_add_right pl 5))
    simp only [psh_some, rX6_tookFlag_27, rX6_tookFlag_28, rX6_tookFlag_29, k5, l6, q2, Int.toNat_natCast, Int.natCast_nonneg, true_and, and_true, and_self, if_true, if_false, or_true, true_or, or_false, false_or, ne_eq, not_true_eq_false, not_false_eq_true, Nat.reduceLeDiff, Nat.reduceEqDiff, Nat.reduceLT, Nat.reduceAdd, Nat.reduceMul, Nat.reduceSub, Int.reduceLT, Int.reduceLE, Int.reduceEq, Int.reduceToNat, Int.reduceAdd, Int.reduceSub, Int.reduceMul, Int.reduceNeg, Int.cast_ofNat_Int, false_and, and_false]
    exact k _ (x2.up (c := 5) (j := t) (pn (by decide) (by decide) ht) (g := fun _ => nms X (tsl (mvn (nxs X) r))) e2) (f1.trans (f2.trans (CLn.fx (X := X) (c := 5) (pn (by decide) (by decide) ht))))
  rw [if_neg c3] at k
  have c4 : tkl X r = 9 := by
    unfold isFlag at c
    simp only [Bool.or_eq_true, beq_iff_eq] at c
    rcases c with c | c
    · exact absurd c c3
    · exact c
  simp only [rX6_tookFlag_0, rX6_tookFlag_1, rX6_tookFlag_3, rX6_tookFlag_6, rX6_tookFlag_30, rX6_tookFlag_31, rX6_tookFlag_33, rX6_tookFlag_36, rX6_tookFlag_39, rX6_tookFlag_40, K, w_bold, w_odds, zb_f c3, zb_t c4, psh_some, Int.toNat_natCast, Int.natCast_nonneg, true_and, and_true, and_self, if_true, if_false, or_true, true_or, or_false, false_or, ne_eq, not_true_eq_false, not_false_eq_true, Nat.reduceLeDiff, Nat.reduceEqDiff, Nat.reduceLT, Nat.reduceAdd, Nat.reduceMul, Nat.reduceSub, Int.reduceLT, Int.reduceLE, Int.reduceEq, Int.reduceToNat, Int.reduceAdd, Int.reduceSub, Int.reduceMul, Int.reduceNeg, Int.cast_ofNat_Int, false_and, and_false]
  refine E_adv (d := d + 1) x (by rw [c4]; decide) (by rw [c4]; decide) (by rw [c4]; decide) (fun h1 x1 f1 => ?_)
  obtain ⟨p3, pK, r0, r1, r2, r3, r4, r5, k1, k2, k3, k4, k5, k6⟩ := x1.2.2.2.1
  simp only [psh_none, rX6_tookFlag_43, rX6_tookFlag_44, rX6_tookFlag_47, rX6_tookFlag_50, rX6_tookFlag_51, rX6_tookFlag_52, rX6_tookFlag_54, x1.1.2.1, x1.2.2.1, pK, r5, Int.toNat_natCast, Int.natCast_nonneg, true_and, and_true, and_self, if_true, if_false, or_true, true_or, or_false, false_or, ne_eq, not_true_eq_false, not_false_eq_true, Nat.reduceLeDiff, Nat.reduceEqDiff, Nat.reduceLT, Nat.reduceAdd, Nat.reduceMul, Nat.reduceSub, Int.reduceLT, Int.reduceLE, Int.reduceEq, Int.reduceToNat, Int.reduceAdd, Int.reduceSub, Int.reduceMul, Int.reduceNeg, Int.cast_ofNat_Int, false_and, and_false]
  refine E_takeNum (d := d) x1 (fun h2 v x2 e2 f2 => ?_)
  have k6 := x2.2.2.2.1.2.2.2.2.2.2.2.2.2.2.2.2.2
  have q2 : (200 ≤ pl + 6) = True := eq_true (Nat.le_trans (Nat.le_trans (by decide) p3) (Nat.le_add_right pl 6))
  simp only [psh_some, rX6_tookFlag_57, rX6_tookFlag_58, rX6_tookFlag_59, k6, l6, q2, Int.toNat_natCast, Int.natCast_nonneg, true_and, and_true, and_self, if_true, if_false, or_true, true_or, or_false, false_or, ne_eq, not_true_eq_false, not_false_eq_true, Nat.reduceLeDiff, Nat.reduceEqDiff, Nat.reduceLT, Nat.reduceAdd, Nat.reduceMul, Nat.reduceSub, Int.reduceLT, Int.reduceLE, Int.reduceEq, Int.reduceToNat, Int.reduceAdd, Int.reduceSub, Int.reduceMul, Int.reduceNeg, Int.cast_ofNat_Int, false_and, and_false]
  exact k _ (x2.up (c := 6) (j := t) (pn (by decide) (by decide) ht) (g := fun _ => nms X (tsl (mvn (nxs X) r))) e2) (f1.trans (f2.trans (CLn.fx (X := X) (c := 6) (pn (by decide) (by decide) ht))))
theorem E_flag0 {d : Nat} {Q : Option PV → Hp → Prop} {X : TX} {pl : Nat} {h : Hp} {b t : Nat} {r : LN} (x : CLn X pl h b r) (c : ¬ isFlag (tkl X r) = true) : WP (d + 8) mX6_tookFlag 0 [some (.inr (.inr 201)), some (.inl (t : Int))] [] h Q = Q (some (.inl 0)) h := by
  have K := x.1.2.1
  have w_bold : ∀ (Q : Option PV → Hp → Prop), WP (d + 2 + 5) mX6_isWord 0 [some (.inr (.inr 201)), some (.inr (.inr 10)), none] [] h Q = Q (some (.inl (zb (tkl X r = 8)))) h := fun Q => C_isWord (d := d + 2) (Q := Q) x.1 x.2.1 (i := 8) (j := 9) (by decide) (by decide) rfl
  have w_odds : ∀ (Q : Option PV → Hp → Prop), WP (d + 2 + 5) mX6_isWord 0 [some (.inr (.inr 201)), some (.inr (.inr 11)), none] [] h Q = Q (some (.inl (zb (tkl X r = 9)))) h := fun Q => C_isWord (d := d + 2) (Q := Q) x.1 x.2.1 (i := 9) (j := 10) (by decide) (by decide) rfl
  unfold isFlag at c
  simp only [Bool.or_eq_true, beq_iff_eq, not_or] at c
  obtain ⟨c3, c4⟩ := c
  simp only [rX6_tookFlag_0, rX6_tookFlag_1, rX6_tookFlag_3, rX6_tookFlag_6, rX6_tookFlag_30, rX6_tookFlag_31, rX6_tookFlag_33, rX6_tookFlag_36, rX6_tookFlag_60, rX6_tookFlag_61, K, w_bold, w_odds, zb_f c3, zb_f c4, psh_some, Int.toNat_natCast, Int.natCast_nonneg, true_and, and_true, and_self, if_true, if_false, or_true, true_or, or_false, false_or, ne_eq, not_true_eq_false, not_false_eq_true, Nat.reduceLeDiff, Nat.reduceEqDiff, Nat.reduceLT, Nat.reduceAdd, Nat.reduceMul, Nat.reduceSub, Int.reduceLT, Int.reduceLE, Int.reduceEq, Int.reduceToNat, Int.reduceAdd, Int.reduceSub, Int.reduceMul, Int.reduceNeg, Int.cast_ofNat_Int, false_and, and_false]
theorem E_parts {d : Nat} {Q : Option PV → Hp → Prop} {X : TX} {pl t : Nat} (ht : t < 6) : ∀ (m i : Nat) (h : Hp) (b : Nat) (r : LN), i ≤ b → X.2 ≤ b + m → CLn X pl h b r → (∀ h' y z, CLn X pl h' b (pParts X t m r) → Fp (PW pl) h h' → WP (d + 9) mX6_readThing 72 [some (.inr (.inr 201)), some (.inl (t : Int)), y, z] [] h' Q) → WP (d + 9) mX6_readThing 49 [some (.inr (.inr 201)), some (.inl (t : Int)), some (.inl 1), some (.inl (i : Int))] [] h Q := by
  intro m
  have out : ∀ (i : Nat) (h : Hp) (b : Nat) (r : LN), CLn X pl h b r → ¬ isPart (tkl X r) = true → (∀ y z, WP (d + 9) mX6_readThing 72 [some (.inr (.inr 201)), some (.inl (t : Int)), y, z] [] h Q) → WP (d + 9) mX6_readThing 49 [some (.inr (.inr 201)), some (.inl (t : Int)), some (.inl 1), some (.inl (i : Int))] [] h Q := fun i h b r x c k => by
    have K := x.1.2.1
    rw [rX6_readThing_49]
    by_cases hi : i < 900
    · simp only [rX6_readThing_50, rX6_readThing_53, rX6_readThing_56, rX6_readThing_57, rX6_readThing_60, rX6_readThing_61, rX6_readThing_62, rX6_readThing_65, rX6_readThing_66, rX6_readThing_69, K, (i_9 hi).1, E_part0 x c, psh_some, i_p1 (i_9 hi).2, Int.toNat_natCast, Int.natCast_nonneg, true_and, and_true, and_self, if_true, if_false, or_true, true_or, or_false, false_or, ne_eq, not_true_eq_false, not_false_eq_true, Nat.reduceLeDiff, Nat.reduceEqDiff, Nat.reduceLT, Nat.reduceAdd, Nat.reduceMul, Nat.reduceSub, Int.reduceLT, Int.reduceLE, Int.reduceEq, Int.reduceToNat, Int.reduceAdd, Int.reduceSub, Int.reduceMul, Int.reduceNeg, Int.cast_ofNat_Int, false_and, and_false]
      rw [rX6_readThing_49]
      by_cases hi2 : i + 1 < 900
      · simp only [rX6_readThing_50, rX6_readThing_53, rX6_readThing_56, rX6_readThing_57, (i_9 hi2).1, Int.toNat_natCast, Int.natCast_nonneg, true_and, and_true, and_self, if_true, if_false, or_true, true_or, or_false, false_or, ne_eq, not_true_eq_false, not_false_eq_true, Nat.reduceLeDiff, Nat.reduceEqDiff, Nat.reduceLT, Nat.reduceAdd, Nat.reduceMul, Nat.reduceSub, Int.reduceLT, Int.reduceLE, Int.reduceEq, Int.reduceToNat, Int.reduceAdd, Int.reduceSub, Int.reduceMul, Int.reduceNeg, Int.cast_ofNat_Int, false_and, and_false]
        exact k _ _
      · simp only [rX6_readThing_50, rX6_readThing_53, rX6_readThing_56, rX6_readThing_57, i_10 hi2, Int.toNat_natCast, Int.natCast_nonneg, true_and, and_true, and_self, if_true, if_false, or_true, true_or, or_false, false_or, ne_eq, not_true_eq_false, not_false_eq_true, Nat.reduceLeDiff, Nat.reduceEqDiff, Nat.reduceLT, Nat.reduceAdd, Nat.reduceMul, Nat.reduceSub, Int.reduceLT, Int.reduceLE, Int.reduceEq, Int.reduceToNat, Int.reduceAdd, Int.reduceSub, Int.reduceMul, Int.reduceNeg, Int.cast_ofNat_Int, false_and, and_false]
        exact k _ _
    · simp only [rX6_readThing_50, rX6_readThing_53, rX6_readThing_56, rX6_readThing_57, i_10 hi, Int.toNat_natCast, Int.natCast_nonneg, true_and, and_true, and_self, if_true, if_false, or_true, true_or, or_false, false_or, ne_eq, not_true_eq_false, not_false_eq_true, Nat.reduceLeDiff, Nat.reduceEqDiff, Nat.reduceLT, Nat.reduceAdd, Nat.reduceMul, Nat.reduceSub, Int.reduceLT, Int.reduceLE, Int.reduceEq, Int.reduceToNat, Int.reduceAdd, Int.reduceSub, Int.reduceMul, Int.reduceNeg, Int.cast_ofNat_Int, false_and, and_false]
      exact k _ _
  induction m with
  | zero =>
    intro i h b r hi hm x k
    refine out i h b r x (fun c => ?_) (fun y z => k h y z x (Fp.refl _ h))
    unfold isPart at c
    simp only [Bool.or_eq_true, beq_iff_eq] at c
    have := x.lt (by omega) (by omega)
    omega
  | succ m ih =>
    intro i h b r hi hm x k
    by_cases c : isPart (tkl X r) = true
    · have e : pParts X t (m + 1) r = pParts X t m (gPart X t r) := if_pos c
      rw [e] at k
      have bl : b < X.2 := by
        have c2 := c
        unfold isPart at c2
        simp only [Bool.or_eq_true, beq_iff_eq] at c2
        exact x.lt (by omega) (by omega)
      have h9 := x.1.2.2.2.2.2.2.2.1
      have hi9 : i < 900 := by omega
      obtain ⟨l9, l1⟩ := i_9 hi9
      rw [rX6_readThing_49]
      simp only [rX6_readThing_50, rX6_readThing_53, rX6_readThing_56, rX6_readThing_57, rX6_readThing_60, rX6_readThing_61, rX6_readThing_62, x.1.2.1, l9, Int.toNat_natCast, Int.natCast_nonneg, true_and, and_true, and_self, if_true, if_false, or_true, true_or, or_false, false_or, ne_eq, not_true_eq_false, not_false_eq_true, Nat.reduceLeDiff, Nat.reduceEqDiff, Nat.reduceLT, Nat.reduceAdd, Nat.reduceMul, Nat.reduceSub, Int.reduceLT, Int.reduceLE, Int.reduceEq, Int.reduceToNat, Int.reduceAdd, Int.reduceSub, Int.reduceMul, Int.reduceNeg, Int.cast_ofNat_Int, false_and, and_false]
      refine E_part ht x c (fun h1 x1 f1 => ?_)
      simp only [psh_some, rX6_readThing_65, rX6_readThing_66, rX6_readThing_69, i_p1 l1, Int.toNat_natCast, Int.natCast_nonneg, true_and, and_true, and_self, if_true, if_false, or_true, true_or, or_false, false_or, ne_eq, not_true_eq_false, not_false_eq_true, Nat.reduceLeDiff, Nat.reduceEqDiff, Nat.reduceLT, Nat.reduceAdd, Nat.reduceMul, Nat.reduceSub, Int.reduceLT, Int.reduceLE, Int.reduceEq, Int.reduceToNat, Int.reduceAdd, Int.reduceSub, Int.reduceMul, Int.reduceNeg, Int.cast_ofNat_Int, false_and, and_false]
      exact ih (i + 1) h1 (b + 1) _ (Nat.succ_le_succ hi) (by omega) x1 (fun h2 y z x2 f2 => k h2 y z (x2.weak (Nat.le_succ b)) (f1.trans f2))
    · have e : pParts X t (m + 1) r = r := if_neg c
      rw [e] at k
      exact out i h b r x c (fun y z => k h y z x (Fp.refl _ h))
theorem E_flags {d : Nat} {Q : Option PV → Hp → Prop} {X : TX} {pl t : Nat} (ht : t < 6) : ∀ (m i : Nat) (h : Hp) (b : Nat) (r : LN), i ≤ b → X.2 ≤ b + m → CLn X pl h b r → (∀ h' y z, CLn X pl h' b (pFlags X t m r) → Fp (PW pl) h h' → WP (d + 9) mX6_readGoer 82 [some (.inr (.inr 201)), some (.inl (t : Int)), y, z] [] h' Q) → WP (d + 9) mX6_readGoer 59 [some (.inr (.inr 201)), some (.inl (t : Int)), some (.inl 1), some (.inl (i : Int))] [] h Q := by
  intro m
  have out : ∀ (i : Nat) (h : Hp) (b : Nat) (r : LN), CLn X pl h b r → ¬ isFlag (tkl X r) = true → (∀ y z, WP (d + 9) mX6_readGoer 82 [some (.inr (.inr 201)), some (.inl (t : Int)), y, z] [] h Q) → WP (d + 9) mX6_readGoer 59 [some (.inr (.inr 201)), some (.inl (t : Int)), some (.inl 1), some (.inl (i : Int))] [] h Q := fun i h b r x c k => by
    have K := x.1.2.1
    rw [rX6_readGoer_59]
    by_cases hi : i < 900
    · simp only [rX6_readGoer_60, rX6_readGoer_63, rX6_readGoer_66, rX6_readGoer_67, rX6_readGoer_70, rX6_readGoer_71, rX6_readGoer_72, rX6_readGoer_75, rX6_readGoer_76, rX6_readGoer_79, K, (i_9 hi).1, E_flag0 x c, psh_some, i_p1 (i_9 hi).2, Int.toNat_natCast, Int.natCast_nonneg, true_and, and_true, and_self, if_true, if_false, or_true, true_or, or_false, false_or, ne_eq, not_true_eq_false, not_false_eq_true, Nat.reduceLeDiff, Nat.reduceEqDiff, Nat.reduceLT, Nat.reduceAdd, Nat.reduceMul, Nat.reduceSub, Int.reduceLT, Int.reduceLE, Int.reduceEq, Int.reduceToNat, Int.reduceAdd, Int.reduceSub, Int.reduceMul, Int.reduceNeg, Int.cast_ofNat_Int, false_and, and_false]
      rw [rX6_readGoer_59]
      by_cases hi2 : i + 1 < 900
      · simp only [rX6_readGoer_60, rX6_readGoer_63, rX6_readGoer_66, rX6_readGoer_67, (i_9 hi2).1, Int.toNat_natCast, Int.natCast_nonneg, true_and, and_true, and_self, if_true, if_false, or_true, true_or, or_false, false_or, ne_eq, not_true_eq_false, not_false_eq_true, Nat.reduceLeDiff, Nat.reduceEqDiff, Nat.reduceLT, Nat.reduceAdd, Nat.reduceMul, Nat.reduceSub, Int.reduceLT, Int.reduceLE, Int.reduceEq, Int.reduceToNat, Int.reduceAdd, Int.reduceSub, Int.reduceMul, Int.reduceNeg, Int.cast_ofNat_Int, false_and, and_false]
        exact k _ _
      · simp only [rX6_readGoer_60, rX6_readGoer_63, rX6_readGoer_66, rX6_readGoer_67, i_10 hi2, Int.toNat_natCast, Int.natCast_nonneg, true_and, and_true, and_self, if_true, if_false, or_true, true_or, or_false, false_or, ne_eq, not_true_eq_false, not_false_eq_true, Nat.reduceLeDiff, Nat.reduceEqDiff, Nat.reduceLT, Nat.reduceAdd, Nat.reduceMul, Nat.reduceSub, Int.reduceLT, Int.reduceLE, Int.reduceEq, Int.reduceToNat, Int.reduceAdd, Int.reduceSub, Int.reduceMul, Int.reduceNeg, Int.cast_ofNat_Int, false_and, and_false]
        exact k _ _
    · simp only [rX6_readGoer_60, rX6_readGoer_63, rX6_readGoer_66, rX6_readGoer_67, i_10 hi, Int.toNat_natCast, Int.natCast_nonneg, true_and, and_true, and_self, if_true, if_false, or_true, true_or, or_false, false_or, ne_eq, not_true_eq_false, not_false_eq_true, Nat.reduceLeDiff, Nat.reduceEqDiff, Nat.reduceLT, Nat.reduceAdd, Nat.reduceMul, Nat.reduceSub, Int.reduceLT, Int.reduceLE, Int.reduceEq, Int.reduceToNat, Int.reduceAdd, Int.reduceSub, Int.reduceMul, Int.reduceNeg, Int.cast_ofNat_Int, false_and, and_false]
      exact k _ _
  induction m with
  | zero =>
    intro i h b r hi hm x k
    refine out i h b r x (fun c => ?_) (fun y z => k h y z x (Fp.refl _ h))
    unfold isFlag at c
    simp only [Bool.or_eq_true, beq_iff_eq] at c
    have := x.lt (by omega) (by omega)
    omega
  | succ m ih =>
    intro i h b r hi hm x k
    by_cases c : isFlag (tkl X r) = true
    · have e : pFlags X t (m + 1) r = pFlags X t m (gFlag X t r) := if_pos c
      rw [e] at k
      have bl : b < X.2 := by
        have c2 := c
        unfold isFlag at c2
        simp only [Bool.or_eq_true, beq_iff_eq] at c2
        exact x.lt (by omega) (by omega)
      have h9 := x.1.2.2.2.2.2.2.2.1
      have hi9 : i < 900 := by omega
      obtain ⟨l9, l1⟩ := i_9 hi9
      rw [rX6_readGoer_59]
      simp only [rX6_readGoer_60, rX6_readGoer_63, rX6_readGoer_66, rX6_readGoer_67, rX6_readGoer_70, rX6_readGoer_71, rX6_readGoer_72, x.1.2.1, l9, Int.toNat_natCast, Int.natCast_nonneg, true_and, and_true, and_self, if_true, if_false, or_true, true_or, or_false, false_or, ne_eq, not_true_eq_false, not_false_eq_true, Nat.reduceLeDiff, Nat.reduceEqDiff, Nat.reduceLT, Nat.reduceAdd, Nat.reduceMul, Nat.reduceSub, Int.reduceLT, Int.reduceLE, Int.reduceEq, Int.reduceToNat, Int.reduceAdd, Int.reduceSub, Int.reduceMul, Int.reduceNeg, Int.cast_ofNat_Int, false_and, and_false]
      refine E_flag ht x c (fun h1 x1 f1 => ?_)
      simp only [psh_some, rX6_readGoer_75, rX6_readGoer_76, rX6_readGoer_79, i_p1 l1, Int.toNat_natCast, Int.natCast_nonneg, true_and, and_true, and_self, if_true, if_false, or_true, true_or, or_false, false_or, ne_eq, not_true_eq_false, not_false_eq_true, Nat.reduceLeDiff, Nat.reduceEqDiff, Nat.reduceLT, Nat.reduceAdd, Nat.reduceMul, Nat.reduceSub, Int.reduceLT, Int.reduceLE, Int.reduceEq, Int.reduceToNat, Int.reduceAdd, Int.reduceSub, Int.reduceMul, Int.reduceNeg, Int.cast_ofNat_Int, false_and, and_false]
      exact ih (i + 1) h1 (b + 1) _ (Nat.succ_le_succ hi) (by omega) x1 (fun h2 y z x2 f2 => k h2 y z (x2.weak (Nat.le_succ b)) (f1.trans f2))
    · have e : pFlags X t (m + 1) r = r := if_neg c
      rw [e] at k
      exact out i h b r x c (fun y z => k h y z x (Fp.refl _ h))
theorem E_thing {d : Nat} {Q : Option PV → Hp → Prop} {X : TX} {pl : Nat} {h : Hp} {b : Nat} {r : LN} (x : CLn X pl h b r) (iv : Inv X AI r) (c : tkl X r = 1) (k : ∀ h', CLn X pl h' b (pThing X r) → Fp (PW pl) h h' → Q none h') : WP (d + 9) mX6_readThing 0 [some (.inr (.inr 201)), none, none, none] [] h Q := by
  cases r with
  | inr e => exact absurd c (by show ¬ (-1 : Int) = 1; decide)
  | inl y =>
    obtain ⟨q, A⟩ := y
    obtain ⟨a, a188, aq⟩ := iv q A rfl
    have b1 := (a.1 1 (by decide)).1 (by decide) (by decide)
    have e1 : hI h pl 10 = A 1 := x.2.2.2.2 q A rfl 0 10 (Or.inl ⟨rfl, by decide, by decide⟩)
    have K := x.1.2.1
    have pe : pThing X (.inl (q, A)) = if A 1 = 6 then mvn (fls X 4) (.inl (q, A)) else mpl (fun A => upA A 1 (w32 (A 1 + 1))) (pParts X (A 1).toNat 900 (stl X 99 (fun v B => upA B (9 + (A 1).toNat) v) (mvn (eats X 2) (mvn (nxs X) (.inl (q, A)))))) := rfl
    rw [pe] at k
    have h9 := x.1.2.2.2.2.2.2.2.1
    by_cases c6 : A 1 = 6
    · rw [if_pos c6] at k
      rw [c6] at e1
      have pK := x.2.2.2.1.2.1
      simp only [rX6_readThing_0, rX6_readThing_1, rX6_readThing_4, rX6_readThing_7, rX6_readThing_8, rX6_readThing_9, rX6_readThing_11, rX6_readThing_14, rX6_readThing_15, rX6_readThing_16, K, x.2.2.1, pK, e1, Int.toNat_natCast, Int.natCast_nonneg, true_and, and_true, and_self, if_true, if_false, or_true, true_or, or_false, false_or, ne_eq, not_true_eq_false, not_false_eq_true, Nat.reduceLeDiff, Nat.reduceEqDiff, Nat.reduceLT, Nat.reduceAdd, Nat.reduceMul, Nat.reduceSub, Int.reduceLT, Int.reduceLE, Int.reduceEq, Int.reduceToNat, Int.reduceAdd, Int.reduceSub, Int.reduceMul, Int.reduceNeg, Int.cast_ofNat_Int, false_and, and_false]
      refine E_fail x (by decide) (fun h1 x1 f1 => ?_)
      simp only [psh_none, rX6_readThing_19]
      exact k h1 x1 f1
    · rw [if_neg c6] at k
      obtain ⟨t, et⟩ : ∃ t : Nat, A 1 = (t : Int) := ⟨(A 1).toNat, by omega⟩
      have ht : t < 6 := by omega
      have tn : (A 1).toNat = t := by omega
      rw [tn] at k
      rw [et] at e1
      obtain ⟨l6, w1⟩ := qt_6 ht
      have pK := x.2.2.2.1.2.1
      simp only [rX6_readThing_0, rX6_readThing_1, rX6_readThing_4, rX6_readThing_7, rX6_readThing_8, rX6_readThing_9, rX6_readThing_11, rX6_readThing_20, rX6_readThing_21, K, x.2.2.1, pK, e1, l6, Int.toNat_natCast, Int.natCast_nonneg, true_and, and_true, and_self, if_true, if_false, or_true, true_or, or_false, false_or, ne_eq, not_true_eq_false, not_false_eq_true, Nat.reduceLeDiff, Nat.reduceEqDiff, Nat.reduceLT, Nat.reduceAdd, Nat.reduceMul, Nat.reduceSub, Int.reduceLT, Int.reduceLE, Int.reduceEq, Int.reduceToNat, Int.reduceAdd, Int.reduceSub, Int.reduceMul, Int.reduceNeg, Int.cast_ofNat_Int, false_and, and_false]
      refine E_adv (d := d + 2) x (by rw [c]; decide) (by rw [c]; decide) (by rw [c]; decide) (fun h1 x1 f1 => ?_)
      simp only [psh_none, rX6_readThing_24, rX6_readThing_25, rX6_readThing_27, x1.1.2.1, Int.toNat_natCast, Int.natCast_nonneg, true_and, and_true, and_self, if_true, if_false, or_true, true_or, or_false, false_or, ne_eq, not_true_eq_false, not_false_eq_true, Nat.reduceLeDiff, Nat.reduceEqDiff, Nat.reduceLT, Nat.reduceAdd, Nat.reduceMul, Nat.reduceSub, Int.reduceLT, Int.reduceLE, Int.reduceEq, Int.reduceToNat, Int.reduceAdd, Int.reduceSub, Int.reduceMul, Int.reduceNeg, Int.cast_ofNat_Int, false_and, and_false]
      refine E_takeWord (d := d + 1) x1 (i := 2) (j := 3) (by decide) (by decide) rfl (fun h2 x2 f2 => ?_)
      have pK2 := x2.2.2.2.1.2.1
      have r0 := x2.2.2.2.1.2.2.1
      simp only [psh_none, rX6_readThing_30, rX6_readThing_31, rX6_readThing_34, rX6_readThing_37, rX6_readThing_38, rX6_readThing_39, rX6_readThing_41, x2.1.2.1, x2.2.2.1, pK2, r0, Int.toNat_natCast, Int.natCast_nonneg, true_and, and_true, and_self, if_true, if_false, or_true, true_or, or_false, false_or, ne_eq, not_true_eq_false, not_false_eq_true, Nat.reduceLeDiff, Nat.reduceEqDiff, Nat.reduceLT, Nat.reduceAdd, Nat.reduceMul, Nat.reduceSub, Int.reduceLT, Int.reduceLE, Int.reduceEq, Int.reduceToNat, Int.reduceAdd, Int.reduceSub, Int.reduceMul, Int.reduceNeg, Int.cast_ofNat_Int, false_and, and_false]
      refine E_takeNum (d := d + 1) x2 (fun h3 v x3 e3 f3 => ?_)
      have p3 := x3.2.2.2.1.1
      have k1 := x3.2.2.2.1.2.2.2.2.2.2.2.2.1
      have q2 : (200 ≤ pl + 1) = True := eq_true (Nat.le_trans (Nat.le_trans (by decide) p3) (Nat.le_add_right pl 1))
      simp only [psh_some, rX6_readThing_44, rX6_readThing_45, rX6_readThing_46, rX6_readThing_47, rX6_readThing_48, k1, l6, q2, Int.toNat_natCast, Int.natCast_nonneg, true_and, and_true, and_self, if_true, if_false, or_true, true_or, or_false, false_or, ne_eq, not_true_eq_false, not_false_eq_true, Nat.reduceLeDiff, Nat.reduceEqDiff, Nat.reduceLT, Nat.reduceAdd, Nat.reduceMul, Nat.reduceSub, Int.reduceLT, Int.reduceLE, Int.reduceEq, Int.reduceToNat, Int.reduceAdd, Int.reduceSub, Int.reduceMul, Int.reduceNeg, Int.cast_ofNat_Int, false_and, and_false]
      have x4 := x3.up (c := 1) (j := t) (pn (by decide) (by decide) ht) (g := fun _ => nms X (tsl (mvn (eats X ((2 : Nat) : Int)) (mvn (nxs X) (.inl (q, A)))))) e3
      have f4 := f1.trans (f2.trans (f3.trans (CLn.fx (X := X) (pl := pl) (h := h3) (c := 1) (j := t) (v := v) (pn (by decide) (by decide) ht))))
      refine E_parts ht 900 0 _ (b + 1) _ (Nat.zero_le _) (by clear l6 q2; omega) x4 (fun h5 y z x5 f5 => ?_)
      have pK5 := x5.2.2.2.1.2.1
      have q3 : (200 ≤ pl) = True := eq_true (Nat.le_trans (by decide) x5.2.2.2.1.1)
      simp only [rX6_readThing_72, rX6_readThing_73, rX6_readThing_76, rX6_readThing_77, rX6_readThing_80, rX6_readThing_81, rX6_readThing_82, rX6_readThing_85, x5.1.2.1, x5.2.2.1, pK5, q3, Int.toNat_natCast, Int.natCast_nonneg, true_and, and_true, and_self, if_true, if_false, or_true, true_or, or_false, false_or, ne_eq, not_true_eq_false, not_false_eq_true, Nat.reduceLeDiff, Nat.reduceEqDiff, Nat.reduceLT, Nat.reduceAdd, Nat.reduceMul, Nat.reduceSub, Int.reduceLT, Int.reduceLE, Int.reduceEq, Int.reduceToNat, Int.reduceAdd, Int.reduceSub, Int.reduceMul, Int.reduceNeg, Int.cast_ofNat_Int, false_and, and_false]
      exact k _ ((x5.up (c := 0) (j := 10) (Or.inl ⟨rfl, by decide, by decide⟩) (g := fun A => w32 (A 1 + 1)) (fun q A e => by rw [show hI h5 pl 10 = A 1 from x5.2.2.2.2 q A e 0 10 (Or.inl ⟨rfl, by decide, by decide⟩)])).weak (Nat.le_succ b)) (f4.trans (f5.trans (CLn.fx (X := X) (c := 0) (Or.inl ⟨rfl, by decide, by decide⟩))))
theorem E_goer {d : Nat} {Q : Option PV → Hp → Prop} {X : TX} {pl : Nat} {h : Hp} {b : Nat} {r : LN} (x : CLn X pl h b r) (iv : Inv X AI r) (c : tkl X r = 6) (k : ∀ h', CLn X pl h' b (pGoer X r) → Fp (PW pl) h h' → Q none h') : WP (d + 9) mX6_readGoer 0 [some (.inr (.inr 201)), none, none, none] [] h Q := by
  cases r with
  | inr e => exact absurd c (by show ¬ (-1 : Int) = 6; decide)
  | inl y =>
    obtain ⟨q, A⟩ := y
    obtain ⟨a, a188, aq⟩ := iv q A rfl
    have b1 := (a.1 2 (by decide)).1 (by decide) (by decide)
    have e1 : hI h pl 11 = A 2 := x.2.2.2.2 q A rfl 0 11 (Or.inl ⟨rfl, by decide, by decide⟩)
    have K := x.1.2.1
    have pe : pGoer X (.inl (q, A)) = if A 2 = 6 then mvn (fls X 4) (.inl (q, A)) else mpl (fun A => upA A 2 (w32 (A 2 + 1))) (pFlags X (A 2).toNat 900 (mpl (fun B => upA B (27 + (A 2).toNat) 1) (stl X 99 (fun v B => upA B (35 + (A 2).toNat) v) (mvn (eats X 7) (mvn (nxs X) (.inl (q, A))))))) := rfl
    rw [pe] at k
    have h9 := x.1.2.2.2.2.2.2.2.1
    by_cases c6 : A 2 = 6
    · rw [if_pos c6] at k
      rw [c6] at e1
      have pK := x.2.2.2.1.2.1
      simp only [rX6_readGoer_0, rX6_readGoer_1, rX6_readGoer_4, rX6_readGoer_7, rX6_readGoer_8, rX6_readGoer_9, rX6_readGoer_11, rX6_readGoer_14, rX6_readGoer_15, rX6_readGoer_16, K, x.2.2.1, pK, e1, Int.toNat_natCast, Int.natCast_nonneg, true_and, and_true, and_self, if_true, if_false, or_true, true_or, or_false, false_or, ne_eq, not_true_eq_false, not_false_eq_true, Nat.reduceLeDiff, Nat.reduceEqDiff, Nat.reduceLT, Nat.reduceAdd, Nat.reduceMul, Nat.reduceSub, Int.reduceLT, Int.reduceLE, Int.reduceEq, Int.reduceToNat, Int.reduceAdd, Int.reduceSub, Int.reduceMul, Int.reduceNeg, Int.cast_ofNat_Int, false_and, and_false]
      refine E_fail x (by decide) (fun h1 x1 f1 => ?_)
      simp only [psh_none, rX6_readGoer_19]
      exact k h1 x1 f1
    · rw [if_neg c6] at k
      obtain ⟨t, et⟩ : ∃ t : Nat, A 2 = (t : Int) := ⟨(A 2).toNat, by omega⟩
      have ht : t < 6 := by omega
      have tn : (A 2).toNat = t := by omega
      rw [tn] at k
      rw [et] at e1
      obtain ⟨l6, w1⟩ := qt_6 ht
      have pK := x.2.2.2.1.2.1
      simp only [rX6_readGoer_0, rX6_readGoer_1, rX6_readGoer_4, rX6_readGoer_7, rX6_readGoer_8, rX6_readGoer_9, rX6_readGoer_11, rX6_readGoer_20, rX6_readGoer_21, K, x.2.2.1, pK, e1, l6, Int.toNat_natCast, Int.natCast_nonneg, true_and, and_true, and_self, if_true, if_false, or_true, true_or, or_false, false_or, ne_eq, not_true_eq_false, not_false_eq_true, Nat.reduceLeDiff, Nat.reduceEqDiff, Nat.reduceLT, Nat.reduceAdd, Nat.reduceMul, Nat.reduceSub, Int.reduceLT, Int.reduceLE, Int.reduceEq, Int.reduceToNat, Int.reduceAdd, Int.reduceSub, Int.reduceMul, Int.reduceNeg, Int.cast_ofNat_Int, false_and, and_false]
      refine E_adv (d := d + 2) x (by rw [c]; decide) (by rw [c]; decide) (by rw [c]; decide) (fun h1 x1 f1 => ?_)
      simp only [psh_none, rX6_readGoer_24, rX6_readGoer_25, rX6_readGoer_27, x1.1.2.1, Int.toNat_natCast, Int.natCast_nonneg, true_and, and_true, and_self, if_true, if_false, or_true, true_or, or_false, false_or, ne_eq, not_true_eq_false, not_false_eq_true, Nat.reduceLeDiff, Nat.reduceEqDiff, Nat.reduceLT, Nat.reduceAdd, Nat.reduceMul, Nat.reduceSub, Int.reduceLT, Int.reduceLE, Int.reduceEq, Int.reduceToNat, Int.reduceAdd, Int.reduceSub, Int.reduceMul, Int.reduceNeg, Int.cast_ofNat_Int, false_and, and_false]
      refine E_takeWord (d := d + 1) x1 (i := 7) (j := 8) (by decide) (by decide) rfl (fun h2 x2 f2 => ?_)
      have pK2 := x2.2.2.2.1.2.1
      have r3 := x2.2.2.2.1.2.2.2.2.2.1
      simp only [psh_none, rX6_readGoer_30, rX6_readGoer_31, rX6_readGoer_34, rX6_readGoer_37, rX6_readGoer_38, rX6_readGoer_39, rX6_readGoer_41, x2.1.2.1, x2.2.2.1, pK2, r3, Int.toNat_natCast, Int.natCast_nonneg, true_and, and_true, and_self, if_true, if_false, or_true, true_or, or_false, false_or, ne_eq, not_true_eq_false, not_false_eq_true, Nat.reduceLeDiff, Nat.reduceEqDiff, Nat.reduceLT, Nat.reduceAdd, Nat.reduceMul, Nat.reduceSub, Int.reduceLT, Int.reduceLE, Int.reduceEq, Int.reduceToNat, Int.reduceAdd, Int.reduceSub, Int.reduceMul, Int.reduceNeg, Int.cast_ofNat_Int, false_and, and_false]
      refine E_takeNum (d := d + 1) x2 (fun h3 v x3 e3 f3 => ?_)
      have p3 := x3.2.2.2.1.1
      have x4 := x3.up (c := 4) (j := t) (pn (by decide) (by decide) ht) (g := fun _ => nms X (tsl (mvn (eats X ((7 : Nat) : Int)) (mvn (nxs X) (.inl (q, A)))))) e3
      have x5 := x4.up (c := 6) (j := t) (pn (by decide) (by decide) ht) (v := 1) (g := fun _ => 1) (fun _ _ _ => rfl)
      have k4 := x3.2.2.2.1.2.2.2.2.2.2.2.2.2.2.2.1
      have k6 := x4.2.2.2.1.2.2.2.2.2.2.2.2.2.2.2.2.2
      have pK4 := x4.2.2.2.1.2.1
      have r5 := x4.2.2.2.1.2.2.2.2.2.2.2.1
      have q2 : (200 ≤ pl + 4) = True := eq_true (Nat.le_trans (Nat.le_trans (by decide) p3) (Nat.le_add_right pl 4))
      have q6 : (200 ≤ pl + 6) = True := eq_true (Nat.le_trans (Nat.le_trans (by decide) p3) (Nat.le_add_right pl 6))
      simp only [psh_some, rX6_readGoer_44, rX6_readGoer_45, rX6_readGoer_46, rX6_readGoer_49, rX6_readGoer_52, rX6_readGoer_53, rX6_readGoer_54, rX6_readGoer_55, rX6_readGoer_56, rX6_readGoer_57, rX6_readGoer_58, x4.1.2.1, x4.2.2.1, pK4, r5, k4, k6, l6, q2, q6, Int.toNat_natCast, Int.natCast_nonneg, true_and, and_true, and_self, if_true, if_false, or_true, true_or, or_false, false_or, ne_eq, not_true_eq_false, not_false_eq_true, Nat.reduceLeDiff, Nat.reduceEqDiff, Nat.reduceLT, Nat.reduceAdd, Nat.reduceMul, Nat.reduceSub, Int.reduceLT, Int.reduceLE, Int.reduceEq, Int.reduceToNat, Int.reduceAdd, Int.reduceSub, Int.reduceMul, Int.reduceNeg, Int.cast_ofNat_Int, false_and, and_false]
      have f4 := f1.trans (f2.trans (f3.trans ((CLn.fx (X := X) (pl := pl) (h := h3) (c := 4) (j := t) (v := v) (pn (by decide) (by decide) ht)).trans (CLn.fx (X := X) (pl := pl) (c := 6) (j := t) (v := 1) (pn (by decide) (by decide) ht)))))
      refine E_flags ht 900 0 _ (b + 1) _ (Nat.zero_le _) (by clear l6 q2 q6; omega) x5 (fun h5 y z x5 f5 => ?_)
      have pK5 := x5.2.2.2.1.2.1
      have q3 : (200 ≤ pl) = True := eq_true (Nat.le_trans (by decide) x5.2.2.2.1.1)
      simp only [rX6_readGoer_82, rX6_readGoer_83, rX6_readGoer_86, rX6_readGoer_87, rX6_readGoer_90, rX6_readGoer_91, rX6_readGoer_92, rX6_readGoer_95, x5.1.2.1, x5.2.2.1, pK5, q3, Int.toNat_natCast, Int.natCast_nonneg, true_and, and_true, and_self, if_true, if_false, or_true, true_or, or_false, false_or, ne_eq, not_true_eq_false, not_false_eq_true, Nat.reduceLeDiff, Nat.reduceEqDiff, Nat.reduceLT, Nat.reduceAdd, Nat.reduceMul, Nat.reduceSub, Int.reduceLT, Int.reduceLE, Int.reduceEq, Int.reduceToNat, Int.reduceAdd, Int.reduceSub, Int.reduceMul, Int.reduceNeg, Int.cast_ofNat_Int, false_and, and_false]
      exact k _ ((x5.up (c := 0) (j := 11) (Or.inl ⟨rfl, by decide, by decide⟩) (g := fun A => w32 (A 2 + 1)) (fun q A e => by rw [show hI h5 pl 11 = A 2 from x5.2.2.2.2 q A e 0 11 (Or.inl ⟨rfl, by decide, by decide⟩)])).weak (Nat.le_succ b)) (f4.trans (f5.trans (CLn.fx (X := X) (c := 0) (Or.inl ⟨rfl, by decide, by decide⟩))))
