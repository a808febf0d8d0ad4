/-! the reference reads lines: things, goers, laws -/
theorem RLn.bad {X : TX} {h : Hp} {b : Nat} {w : LN} {f : (Nat → Int) → (Nat → Int)} (x : RLn X h b w) (z : tkl X w = -1) : RLn X h b (mpl f w) := by
  cases w with
  | inl y => have := (tk_rng X y.1).1; have z : tk X y.1 = -1 := z; omega
  | inr e => exact x
theorem N_thing {d : Nat} {Q : Option PV → Hp → Prop} {X : TX} {h : Hp} {b : Nat} {r : LN} (x : RLn X h b r) (iv : Inv X AI r) (c : tkl X r = 1) (k : ∀ h', RLn X h' b (pThing X r) → Fp RX h h' → Q none h') : WP (d + 9) mX12_readThing 0 [some (.inr (.inr 294)), none] [] h Q := by
  cases r with
  | inr e => exact absurd c (by show ¬ (-1 : Int) = 1; decide)
  | inl y =>
    obtain ⟨q, A⟩ := y
    obtain ⟨a, a188, aq⟩ := iv q A rfl
    have b1 := (a.1 1 (by decide)).1 (by decide) (by decide)
    have e1 : hI h 298 1 = A 1 := x.2.2 q A rfl 1 (by decide)
    have md := x.1.2.1
    have w0 : hI h 294 11 = 0 := x.2.1.2.2.1
    have pe : pThing X (.inl (q, A)) = if A 1 = 6 then mvn (fls X 4) (.inl (q, A)) else mpl (fun A => upA A 1 (w32 (A 1 + 1))) (pParts X (A 1).toNat 900 (stl X 99 (fun v B => upA B (9 + (A 1).toNat) v) (mvn (eats X 2) (mvn (nxs X) (.inl (q, A)))))) := rfl
    rw [pe] at k
    by_cases c6 : A 1 = 6
    · rw [if_pos c6] at k
      rw [c6] at e1
      simp only [rX12_readThing_0, rX12_readThing_1, rX12_readThing_4, rX12_readThing_5, rX12_readThing_6, rX12_readThing_7, rX12_readThing_8, rX12_readThing_10, rX12_readThing_13, rX12_readThing_14, rX12_readThing_15, Md_K280 md, Md_R284 md, Md_K284 md, e1, Int.toNat_natCast, Int.natCast_nonneg, true_and, and_true, and_self, if_true, if_false, or_true, true_or, or_false, false_or, ne_eq, not_true_eq_false, not_false_eq_true, Nat.reduceLeDiff, Nat.reduceEqDiff, Nat.reduceLT, Nat.reduceAdd, Nat.reduceMul, Nat.reduceSub, Int.reduceLT, Int.reduceLE, Int.reduceEq, Int.reduceToNat, Int.reduceAdd, Int.reduceSub, Int.reduceMul, Int.reduceNeg, Int.cast_ofNat_Int, false_and, and_false]
      refine N_fails x (by decide) (fun h1 x1 f1 => ?_)
      have w1 : (hI h1 294 11 = 0) = False := eq_false (x1.2.1.bad (fun q z => by cases z))
      simp only [psh_none, rX12_readThing_18, rX12_readThing_19, rX12_readThing_22, rX12_readThing_25, Md_K280 x1.1.2.1, w1, Int.toNat_natCast, Int.natCast_nonneg, true_and, and_true, and_self, if_true, if_false, or_true, true_or, or_false, false_or, ne_eq, not_true_eq_false, not_false_eq_true, Nat.reduceLeDiff, Nat.reduceEqDiff, Nat.reduceLT, Nat.reduceAdd, Nat.reduceMul, Nat.reduceSub, Int.reduceLT, Int.reduceLE, Int.reduceEq, Int.reduceToNat, Int.reduceAdd, Int.reduceSub, Int.reduceMul, Int.reduceNeg, Int.cast_ofNat_Int, false_and, and_false]
      exact k h1 x1 f1
    · rw [if_neg c6] at k
      obtain ⟨t, et⟩ : ∃ t : Nat, A 1 = (t : Int) := ⟨(A 1).toNat, by omega⟩
      have ht : t < 6 := by omega
      have tn : (A 1).toNat = t := by omega
      rw [tn] at k
      rw [et] at e1
      have c7 : (((t : Int)) = 6) = False := eq_false (by omega)
      obtain ⟨_, _, _, _, _, w6, w7⟩ := t_t6 ht
      simp only [rX12_readThing_0, rX12_readThing_1, rX12_readThing_4, rX12_readThing_5, rX12_readThing_6, rX12_readThing_7, rX12_readThing_8, rX12_readThing_10, rX12_readThing_18, rX12_readThing_19, rX12_readThing_22, rX12_readThing_25, rX12_readThing_26, rX12_readThing_27, Md_K280 md, Md_R284 md, Md_K284 md, e1, c7, w0, Int.toNat_natCast, Int.natCast_nonneg, true_and, and_true, and_self, if_true, if_false, or_true, true_or, or_false, false_or, ne_eq, not_true_eq_false, not_false_eq_true, Nat.reduceLeDiff, Nat.reduceEqDiff, Nat.reduceLT, Nat.reduceAdd, Nat.reduceMul, Nat.reduceSub, Int.reduceLT, Int.reduceLE, Int.reduceEq, Int.reduceToNat, Int.reduceAdd, Int.reduceSub, Int.reduceMul, Int.reduceNeg, Int.cast_ofNat_Int, false_and, and_false]
      refine N_next (d := d + 2) x (by rw [c]; decide) (by rw [c]; decide) (fun h1 x1 f1 => ?_)
      have mid : ∀ h', RLn X h' b (mvn (eats X 2) (mvn (nxs X) (.inl (q, A)))) → Fp RX h h' → WP (d + 9) mX12_readThing 43 [some (.inr (.inr 294)), some (.inl (t : Int))] [] h' Q := fun h2 x2 f2 => by
        have m2 := x2.1.2.1
        simp only [rX12_readThing_43, rX12_readThing_44, rX12_readThing_47, rX12_readThing_49, rX12_readThing_50, rX12_readThing_51, rX12_readThing_52, rX12_readThing_53, rX12_readThing_55, Md_K280 m2, Md_R284 m2, w6, Int.toNat_natCast, Int.natCast_nonneg, true_and, and_true, and_self, if_true, if_false, or_true, true_or, or_false, false_or, ne_eq, not_true_eq_false, not_false_eq_true, Nat.reduceLeDiff, Nat.reduceEqDiff, Nat.reduceLT, Nat.reduceAdd, Nat.reduceMul, Nat.reduceSub, Int.reduceLT, Int.reduceLE, Int.reduceEq, Int.reduceToNat, Int.reduceAdd, Int.reduceSub, Int.reduceMul, Int.reduceNeg, Int.cast_ofNat_Int, false_and, and_false]
        refine N_takes (d := d + 1) x2 (fun h3 v x3 e3 f3 => ?_)
        have m3 := x3.1.2.1
        simp only [psh_some, rX12_readThing_58, Md_K284 m3, w7, Int.toNat_natCast, Int.natCast_nonneg, true_and, and_true, and_self, if_true, if_false, or_true, true_or, or_false, false_or, ne_eq, not_true_eq_false, not_false_eq_true, Nat.reduceLeDiff, Nat.reduceEqDiff, Nat.reduceLT, Nat.reduceAdd, Nat.reduceMul, Nat.reduceSub, Int.reduceLT, Int.reduceLE, Int.reduceEq, Int.reduceToNat, Int.reduceAdd, Int.reduceSub, Int.reduceMul, Int.reduceNeg, Int.cast_ofNat_Int, false_and, and_false]
        have x4 := x3.up (9 + t) (g := fun _ => nms X (tsl (mvn (eats X 2) (mvn (nxs X) (.inl (q, A)))))) e3
        have f4 := f2.trans (f3.trans (RLn.fx (h := h3) (9 + t) v))
        refine N_parts ht 900 _ b _ (by have := x.1.2.2.2.1; omega) x4 (fun h5 x5 f5 => ?_)
        have m5 := x5.1.2.1
        rcases x5.ok with z | z
        · simp only [rX12_readThing_77, rX12_readThing_78, rX12_readThing_81, rX12_readThing_84, rX12_readThing_85, rX12_readThing_88, rX12_readThing_89, rX12_readThing_90, rX12_readThing_91, rX12_readThing_92, rX12_readThing_93, rX12_readThing_94, Md_K280 m5, Md_R284 m5, Md_K284 m5, z.1, Int.toNat_natCast, Int.natCast_nonneg, true_and, and_true, and_self, if_true, if_false, or_true, true_or, or_false, false_or, ne_eq, not_true_eq_false, not_false_eq_true, Nat.reduceLeDiff, Nat.reduceEqDiff, Nat.reduceLT, Nat.reduceAdd, Nat.reduceMul, Nat.reduceSub, Int.reduceLT, Int.reduceLE, Int.reduceEq, Int.reduceToNat, Int.reduceAdd, Int.reduceSub, Int.reduceMul, Int.reduceNeg, Int.cast_ofNat_Int, false_and, and_false]
          exact k _ (x5.up 1 (g := fun A => w32 (A 1 + 1)) (fun q A e => by rw [x5.2.2 q A e 1 (by decide)])) (f4.trans (f5.trans (RLn.fx _ _)))
        · have z1 := eq_false z.1
          simp only [rX12_readThing_77, rX12_readThing_78, rX12_readThing_81, rX12_readThing_84, rX12_readThing_85, rX12_readThing_88, rX12_readThing_89, rX12_readThing_90, rX12_readThing_91, rX12_readThing_92, rX12_readThing_93, rX12_readThing_94, Md_K280 m5, z1, Int.toNat_natCast, Int.natCast_nonneg, true_and, and_true, and_self, if_true, if_false, or_true, true_or, or_false, false_or, ne_eq, not_true_eq_false, not_false_eq_true, Nat.reduceLeDiff, Nat.reduceEqDiff, Nat.reduceLT, Nat.reduceAdd, Nat.reduceMul, Nat.reduceSub, Int.reduceLT, Int.reduceLE, Int.reduceEq, Int.reduceToNat, Int.reduceAdd, Int.reduceSub, Int.reduceMul, Int.reduceNeg, Int.cast_ofNat_Int, false_and, and_false]
          exact k h5 (x5.bad z.2) (f4.trans f5)
      by_cases c2 : tkl X (mvn (nxs X) (.inl (q, A))) = 2
      · simp only [psh_none, rX12_readThing_30, rX12_readThing_31, rX12_readThing_32, Md_K280 x1.1.2.1, Int.toNat_natCast, Int.natCast_nonneg, true_and, and_true, and_self, if_true, if_false, or_true, true_or, or_false, false_or, ne_eq, not_true_eq_false, not_false_eq_true, Nat.reduceLeDiff, Nat.reduceEqDiff, Nat.reduceLT, Nat.reduceAdd, Nat.reduceMul, Nat.reduceSub, Int.reduceLT, Int.reduceLE, Int.reduceEq, Int.reduceToNat, Int.reduceAdd, Int.reduceSub, Int.reduceMul, Int.reduceNeg, Int.cast_ofNat_Int, false_and, and_false]
        refine N_eats1 (d := d + 1) x1 (by decide) (by decide) c2 (fun h2 x2 f2 => ?_)
        simp only [psh_some, rX12_readThing_35, Int.toNat_natCast, Int.natCast_nonneg, true_and, and_true, and_self, if_true, if_false, or_true, true_or, or_false, false_or, ne_eq, not_true_eq_false, not_false_eq_true, Nat.reduceLeDiff, Nat.reduceEqDiff, Nat.reduceLT, Nat.reduceAdd, Nat.reduceMul, Nat.reduceSub, Int.reduceLT, Int.reduceLE, Int.reduceEq, Int.reduceToNat, Int.reduceAdd, Int.reduceSub, Int.reduceMul, Int.reduceNeg, Int.cast_ofNat_Int, false_and, and_false]
        exact mid h2 (by rw [mv_e1 c2]; exact x2.weak (by omega)) (f1.trans f2)
      · have e0 := fun (Q : Option PV → Hp → Prop) => R_eats0 (d := d + 1) (Q := Q) x1.1 x1.2.1 (z := 2) (by decide) c2
        simp only [psh_none, rX12_readThing_30, rX12_readThing_31, rX12_readThing_32, rX12_readThing_35, rX12_readThing_38, rX12_readThing_39, rX12_readThing_40, Md_K280 x1.1.2.1, e0, psh_some, Int.toNat_natCast, Int.natCast_nonneg, true_and, and_true, and_self, if_true, if_false, or_true, true_or, or_false, false_or, ne_eq, not_true_eq_false, not_false_eq_true, Nat.reduceLeDiff, Nat.reduceEqDiff, Nat.reduceLT, Nat.reduceAdd, Nat.reduceMul, Nat.reduceSub, Int.reduceLT, Int.reduceLE, Int.reduceEq, Int.reduceToNat, Int.reduceAdd, Int.reduceSub, Int.reduceMul, Int.reduceNeg, Int.cast_ofNat_Int, false_and, and_false]
        refine N_fails x1 (by decide) (fun h2 x2 f2 => ?_)
        simp only [psh_none]
        exact mid h2 (by rw [mv_e0 c2]; exact x2.weak (by omega)) (f1.trans f2)
theorem g_g6 {g : Nat} (h : g < 6) : w32 (35 + (g : Int)) = ((35 + g : Nat) : Int) ∧ (((35 + g : Nat) : Int) < 1089) = True ∧ w32 (27 + (g : Int)) = ((27 + g : Nat) : Int) ∧ (((27 + g : Nat) : Int) < 1089) = True ∧ w32 (41 + (g : Int)) = ((41 + g : Nat) : Int) ∧ (((41 + g : Nat) : Int) < 1089) = True :=
  ⟨by rw [w32_i (by omega) (by omega)]; omega, eq_true (by omega), by rw [w32_i (by omega) (by omega)]; omega, eq_true (by omega), by rw [w32_i (by omega) (by omega)]; omega, eq_true (by omega)⟩
theorem N_flags {d : Nat} {Q : Option PV → Hp → Prop} {X : TX} {g : Nat} (hg : g < 6) : ∀ (m : Nat) (h : Hp) (b : Nat) (r : LN) (y : Option PV), X.2 ≤ b + m → RLn X h b r → (∀ h' y, RLn X h' b (pFlags X g m r) → Fp RX h h' → WP (d + 9) mX12_readGoer 134 [some (.inr (.inr 294)), some (.inl (g : Int)), y] [] h' Q) → WP (d + 9) mX12_readGoer 70 [some (.inr (.inr 294)), some (.inl (g : Int)), y] [] h Q := by
  intro m
  obtain ⟨_, _, w3, w4, w5, w6⟩ := g_g6 hg
  have out : ∀ (h : Hp) (b : Nat) (r : LN) (y : Option PV), RLn X h b r → ¬ isFlag (tkl X r) = true → WP (d + 9) mX12_readGoer 134 [some (.inr (.inr 294)), some (.inl (g : Int)), y] [] h Q → WP (d + 9) mX12_readGoer 70 [some (.inr (.inr 294)), some (.inl (g : Int)), y] [] h Q := fun h b r y x c k => by
    have K := Md_K280 x.1.2.1
    unfold isFlag at c
    simp only [Bool.or_eq_true, beq_iff_eq, not_or] at c
    have s8 := fun (Q : Option PV → Hp → Prop) => R_is (d := d + 8) (Q := Q) x.1 x.2.1 (z := 8) (by decide)
    have s9 := fun (Q : Option PV → Hp → Prop) => R_is (d := d + 8) (Q := Q) x.1 x.2.1 (z := 9) (by decide)
    rw [rX12_readGoer_70]
    by_cases z : hI h 294 11 = 0
    · simp only [rX12_readGoer_71, rX12_readGoer_74, rX12_readGoer_77, rX12_readGoer_78, rX12_readGoer_80, rX12_readGoer_83, rX12_readGoer_86, rX12_readGoer_87, rX12_readGoer_89, rX12_readGoer_92, K, z, s8, s9, zb_f (show ¬ tks X (tsl r) = 8 from c.1), zb_f (show ¬ tks X (tsl r) = 9 from c.2), psh_some, Int.toNat_natCast, Int.natCast_nonneg, true_and, and_true, and_self, if_true, if_false, or_true, true_or, or_false, false_or, ne_eq, not_true_eq_false, not_false_eq_true, Nat.reduceLeDiff, Nat.reduceEqDiff, Nat.reduceLT, Nat.reduceAdd, Nat.reduceMul, Nat.reduceSub, Int.reduceLT, Int.reduceLE, Int.reduceEq, Int.reduceToNat, Int.reduceAdd, Int.reduceSub, Int.reduceMul, Int.reduceNeg, Int.cast_ofNat_Int, false_and, and_false]
      exact k
    · simp only [rX12_readGoer_71, rX12_readGoer_74, rX12_readGoer_77, rX12_readGoer_78, rX12_readGoer_80, rX12_readGoer_83, rX12_readGoer_86, rX12_readGoer_87, rX12_readGoer_89, rX12_readGoer_92, K, z, Int.toNat_natCast, Int.natCast_nonneg, true_and, and_true, and_self, if_true, if_false, or_true, true_or, or_false, false_or, ne_eq, not_true_eq_false, not_false_eq_true, Nat.reduceLeDiff, Nat.reduceEqDiff, Nat.reduceLT, Nat.reduceAdd, Nat.reduceMul, Nat.reduceSub, Int.reduceLT, Int.reduceLE, Int.reduceEq, Int.reduceToNat, Int.reduceAdd, Int.reduceSub, Int.reduceMul, Int.reduceNeg, Int.cast_ofNat_Int, false_and, and_false]
      exact k
  induction m with
  | zero =>
    intro h b r y hm x k
    refine out h b r y x (fun c => ?_) (k h y x (Fp.refl _ h))
    unfold isFlag at c
    simp only [Bool.or_eq_true, beq_iff_eq] at c
    have := x.lt (by omega) (by omega)
    omega
  | succ m ih =>
    intro h b r y hm x k
    by_cases c : isFlag (tkl X r) = true
    · have e : pFlags X g (m + 1) r = pFlags X g m (gFlag X g r) := if_pos c
      rw [e] at k
      have K := Md_K280 x.1.2.1
      have z : hI h 294 11 = 0 := by
        rcases x.ok with z | z
        · exact z.1
        · rw [z.2] at c; exact absurd c (by decide)
      have s8 := fun (Q : Option PV → Hp → Prop) => R_is (d := d + 8) (Q := Q) x.1 x.2.1 (z := 8) (by decide)
      have s9 := fun (Q : Option PV → Hp → Prop) => R_is (d := d + 8) (Q := Q) x.1 x.2.1 (z := 9) (by decide)
      unfold isFlag at c
      simp only [Bool.or_eq_true, beq_iff_eq] at c
      rw [rX12_readGoer_70]
      unfold gFlag at k
      by_cases c8 : tkl X r = 8
      · rw [if_pos c8] at k
        simp only [rX12_readGoer_71, rX12_readGoer_74, rX12_readGoer_77, rX12_readGoer_78, rX12_readGoer_80, rX12_readGoer_83, rX12_readGoer_86, rX12_readGoer_87, rX12_readGoer_89, rX12_readGoer_92, rX12_readGoer_95, rX12_readGoer_96, rX12_readGoer_98, rX12_readGoer_101, rX12_readGoer_104, rX12_readGoer_106, rX12_readGoer_109, rX12_readGoer_111, rX12_readGoer_112, rX12_readGoer_113, K, z, s8, s9, zb_t (show tks X (tsl r) = 8 from c8), psh_some, Int.toNat_natCast, Int.natCast_nonneg, true_and, and_true, and_self, if_true, if_false, or_true, true_or, or_false, false_or, ne_eq, not_true_eq_false, not_false_eq_true, Nat.reduceLeDiff, Nat.reduceEqDiff, Nat.reduceLT, Nat.reduceAdd, Nat.reduceMul, Nat.reduceSub, Int.reduceLT, Int.reduceLE, Int.reduceEq, Int.reduceToNat, Int.reduceAdd, Int.reduceSub, Int.reduceMul, Int.reduceNeg, Int.cast_ofNat_Int, false_and, and_false]
        refine N_next (d := d + 2) x (by rw [c8]; decide) (by rw [c8]; decide) (fun h1 x1 f1 => ?_)
        have m1 := x1.1.2.1
        simp only [psh_none, rX12_readGoer_116, rX12_readGoer_117, rX12_readGoer_120, rX12_readGoer_121, rX12_readGoer_122, rX12_readGoer_123, rX12_readGoer_124, rX12_readGoer_125, rX12_readGoer_127, Md_K280 m1, Md_R284 m1, w5, Int.toNat_natCast, Int.natCast_nonneg, true_and, and_true, and_self, if_true, if_false, or_true, true_or, or_false, false_or, ne_eq, not_true_eq_false, not_false_eq_true, Nat.reduceLeDiff, Nat.reduceEqDiff, Nat.reduceLT, Nat.reduceAdd, Nat.reduceMul, Nat.reduceSub, Int.reduceLT, Int.reduceLE, Int.reduceEq, Int.reduceToNat, Int.reduceAdd, Int.reduceSub, Int.reduceMul, Int.reduceNeg, Int.cast_ofNat_Int, false_and, and_false]
        refine N_takes (d := d + 1) x1 (fun h2 v x2 e2 f2 => ?_)
        have m2 := x2.1.2.1
        simp only [psh_some, rX12_readGoer_130, rX12_readGoer_131, Md_K284 m2, w6, Int.toNat_natCast, Int.natCast_nonneg, true_and, and_true, and_self, if_true, if_false, or_true, true_or, or_false, false_or, ne_eq, not_true_eq_false, not_false_eq_true, Nat.reduceLeDiff, Nat.reduceEqDiff, Nat.reduceLT, Nat.reduceAdd, Nat.reduceMul, Nat.reduceSub, Int.reduceLT, Int.reduceLE, Int.reduceEq, Int.reduceToNat, Int.reduceAdd, Int.reduceSub, Int.reduceMul, Int.reduceNeg, Int.cast_ofNat_Int, false_and, and_false]
        refine ih _ (b + 1) _ _ (by omega) (x2.up (41 + g) (g := fun _ => nms X (tsl (mvn (nxs X) r))) e2) (fun h3 y x3 f3 => k h3 y (x3.weak (Nat.le_succ b)) (f1.trans (f2.trans ((RLn.fx _ _).trans f3))))
      · have c9 : tkl X r = 9 := by omega
        rw [if_neg c8] at k
        simp only [rX12_readGoer_71, rX12_readGoer_74, rX12_readGoer_77, rX12_readGoer_78, rX12_readGoer_80, rX12_readGoer_83, rX12_readGoer_86, rX12_readGoer_87, rX12_readGoer_89, rX12_readGoer_92, rX12_readGoer_95, rX12_readGoer_96, rX12_readGoer_98, rX12_readGoer_101, rX12_readGoer_104, rX12_readGoer_106, rX12_readGoer_109, rX12_readGoer_111, rX12_readGoer_112, rX12_readGoer_113, K, z, s8, s9, zb_f (show ¬ tks X (tsl r) = 8 from c8), zb_t (show tks X (tsl r) = 9 from c9), psh_some, Int.toNat_natCast, Int.natCast_nonneg, true_and, and_true, and_self, if_true, if_false, or_true, true_or, or_false, false_or, ne_eq, not_true_eq_false, not_false_eq_true, Nat.reduceLeDiff, Nat.reduceEqDiff, Nat.reduceLT, Nat.reduceAdd, Nat.reduceMul, Nat.reduceSub, Int.reduceLT, Int.reduceLE, Int.reduceEq, Int.reduceToNat, Int.reduceAdd, Int.reduceSub, Int.reduceMul, Int.reduceNeg, Int.cast_ofNat_Int, false_and, and_false]
        refine N_next (d := d + 2) x (by rw [c9]; decide) (by rw [c9]; decide) (fun h1 x1 f1 => ?_)
        have m1 := x1.1.2.1
        simp only [psh_none, rX12_readGoer_116, rX12_readGoer_117, rX12_readGoer_120, rX12_readGoer_121, rX12_readGoer_122, rX12_readGoer_123, rX12_readGoer_124, rX12_readGoer_125, rX12_readGoer_127, Md_K280 m1, Md_R284 m1, w3, Int.toNat_natCast, Int.natCast_nonneg, true_and, and_true, and_self, if_true, if_false, or_true, true_or, or_false, false_or, ne_eq, not_true_eq_false, not_false_eq_true, Nat.reduceLeDiff, Nat.reduceEqDiff, Nat.reduceLT, Nat.reduceAdd, Nat.reduceMul, Nat.reduceSub, Int.reduceLT, Int.reduceLE, Int.reduceEq, Int.reduceToNat, Int.reduceAdd, Int.reduceSub, Int.reduceMul, Int.reduceNeg, Int.cast_ofNat_Int, false_and, and_false]
        refine N_takes (d := d + 1) x1 (fun h2 v x2 e2 f2 => ?_)
        have m2 := x2.1.2.1
        simp only [psh_some, rX12_readGoer_130, rX12_readGoer_131, Md_K284 m2, w4, Int.toNat_natCast, Int.natCast_nonneg, true_and, and_true, and_self, if_true, if_false, or_true, true_or, or_false, false_or, ne_eq, not_true_eq_false, not_false_eq_true, Nat.reduceLeDiff, Nat.reduceEqDiff, Nat.reduceLT, Nat.reduceAdd, Nat.reduceMul, Nat.reduceSub, Int.reduceLT, Int.reduceLE, Int.reduceEq, Int.reduceToNat, Int.reduceAdd, Int.reduceSub, Int.reduceMul, Int.reduceNeg, Int.cast_ofNat_Int, false_and, and_false]
        refine ih _ (b + 1) _ _ (by omega) (x2.up (27 + g) (g := fun _ => nms X (tsl (mvn (nxs X) r))) e2) (fun h3 y x3 f3 => k h3 y (x3.weak (Nat.le_succ b)) (f1.trans (f2.trans ((RLn.fx _ _).trans f3))))
    · have e : pFlags X g (m + 1) r = r := if_neg c
      rw [e] at k
      exact out h b r y x c (k h y x (Fp.refl _ h))
theorem N_goer {d : Nat} {Q : Option PV → Hp → Prop} {X : TX} {h : Hp} {b : Nat} {r : LN} (x : RLn X h b r) (iv : Inv X AI r) (c : tkl X r = 6) (k : ∀ h', RLn X h' b (pGoer X r) → Fp RX h h' → Q none h') : WP (d + 9) mX12_readGoer 0 [some (.inr (.inr 294)), none, none] [] h Q := by
  cases r with
  | inr e => exact absurd c (by show ¬ (-1 : Int) = 6; decide)
  | inl y =>
    obtain ⟨q, A⟩ := y
    obtain ⟨a, a188, aq⟩ := iv q A rfl
    have b1 := (a.1 2 (by decide)).1 (by decide) (by decide)
    have e1 : hI h 298 2 = A 2 := x.2.2 q A rfl 2 (by decide)
    have md := x.1.2.1
    have w0 : hI h 294 11 = 0 := x.2.1.2.2.1
    have pe : pGoer X (.inl (q, A)) = if A 2 = 6 then mvn (fls X 4) (.inl (q, A)) else mpl (fun A => upA A 2 (w32 (A 2 + 1))) (pFlags X (A 2).toNat 900 (mpl (fun B => upA B (27 + (A 2).toNat) 1) (stl X 99 (fun v B => upA B (35 + (A 2).toNat) v) (mvn (eats X 7) (mvn (nxs X) (.inl (q, A))))))) := rfl
    rw [pe] at k
    by_cases c6 : A 2 = 6
    · rw [if_pos c6] at k
      rw [c6] at e1
      simp only [rX12_readGoer_0, rX12_readGoer_1, rX12_readGoer_4, rX12_readGoer_5, rX12_readGoer_6, rX12_readGoer_7, rX12_readGoer_8, rX12_readGoer_10, rX12_readGoer_13, rX12_readGoer_14, rX12_readGoer_15, Md_K280 md, Md_R284 md, Md_K284 md, e1, Int.toNat_natCast, Int.natCast_nonneg, true_and, and_true, and_self, if_true, if_false, or_true, true_or, or_false, false_or, ne_eq, not_true_eq_false, not_false_eq_true, Nat.reduceLeDiff, Nat.reduceEqDiff, Nat.reduceLT, Nat.reduceAdd, Nat.reduceMul, Nat.reduceSub, Int.reduceLT, Int.reduceLE, Int.reduceEq, Int.reduceToNat, Int.reduceAdd, Int.reduceSub, Int.reduceMul, Int.reduceNeg, Int.cast_ofNat_Int, false_and, and_false]
      refine N_fails x (by decide) (fun h1 x1 f1 => ?_)
      have w1 : (hI h1 294 11 = 0) = False := eq_false (x1.2.1.bad (fun q z => by cases z))
      simp only [psh_none, rX12_readGoer_18, rX12_readGoer_19, rX12_readGoer_22, rX12_readGoer_25, Md_K280 x1.1.2.1, w1, Int.toNat_natCast, Int.natCast_nonneg, true_and, and_true, and_self, if_true, if_false, or_true, true_or, or_false, false_or, ne_eq, not_true_eq_false, not_false_eq_true, Nat.reduceLeDiff, Nat.reduceEqDiff, Nat.reduceLT, Nat.reduceAdd, Nat.reduceMul, Nat.reduceSub, Int.reduceLT, Int.reduceLE, Int.reduceEq, Int.reduceToNat, Int.reduceAdd, Int.reduceSub, Int.reduceMul, Int.reduceNeg, Int.cast_ofNat_Int, false_and, and_false]
      exact k h1 x1 f1
    · rw [if_neg c6] at k
      obtain ⟨t, et⟩ : ∃ t : Nat, A 2 = (t : Int) := ⟨(A 2).toNat, by omega⟩
      have ht : t < 6 := by omega
      have tn : (A 2).toNat = t := by omega
      rw [tn] at k
      rw [et] at e1
      have c7 : (((t : Int)) = 6) = False := eq_false (by omega)
      obtain ⟨w1, w2, w3, w4, _, _⟩ := g_g6 ht
      simp only [rX12_readGoer_0, rX12_readGoer_1, rX12_readGoer_4, rX12_readGoer_5, rX12_readGoer_6, rX12_readGoer_7, rX12_readGoer_8, rX12_readGoer_10, rX12_readGoer_18, rX12_readGoer_19, rX12_readGoer_22, rX12_readGoer_25, rX12_readGoer_26, rX12_readGoer_27, Md_K280 md, Md_R284 md, Md_K284 md, e1, c7, w0, Int.toNat_natCast, Int.natCast_nonneg, true_and, and_true, and_self, if_true, if_false, or_true, true_or, or_false, false_or, ne_eq, not_true_eq_false, not_false_eq_true, Nat.reduceLeDiff, Nat.reduceEqDiff, Nat.reduceLT, Nat.reduceAdd, Nat.reduceMul, Nat.reduceSub, Int.reduceLT, Int.reduceLE, Int.reduceEq, Int.reduceToNat, Int.reduceAdd, Int.reduceSub, Int.reduceMul, Int.reduceNeg, Int.cast_ofNat_Int, false_and, and_false]
      refine N_next (d := d + 2) x (by rw [c]; decide) (by rw [c]; decide) (fun h1 x1 f1 => ?_)
      have mid : ∀ h', RLn X h' b (mvn (eats X 7) (mvn (nxs X) (.inl (q, A)))) → Fp RX h h' → WP (d + 9) mX12_readGoer 44 [some (.inr (.inr 294)), some (.inl (t : Int)), none] [] h' Q := fun h2 x2 f2 => by
        have m2 := x2.1.2.1
        simp only [rX12_readGoer_44, rX12_readGoer_45, rX12_readGoer_48, rX12_readGoer_50, rX12_readGoer_51, rX12_readGoer_52, rX12_readGoer_53, rX12_readGoer_54, rX12_readGoer_56, Md_K280 m2, Md_R284 m2, w1, Int.toNat_natCast, Int.natCast_nonneg, true_and, and_true, and_self, if_true, if_false, or_true, true_or, or_false, false_or, ne_eq, not_true_eq_false, not_false_eq_true, Nat.reduceLeDiff, Nat.reduceEqDiff, Nat.reduceLT, Nat.reduceAdd, Nat.reduceMul, Nat.reduceSub, Int.reduceLT, Int.reduceLE, Int.reduceEq, Int.reduceToNat, Int.reduceAdd, Int.reduceSub, Int.reduceMul, Int.reduceNeg, Int.cast_ofNat_Int, false_and, and_false]
        refine N_takes (d := d + 1) x2 (fun h3 v x3 e3 f3 => ?_)
        have m3 := x3.1.2.1
        have x4 := x3.up (35 + t) (g := fun _ => nms X (tsl (mvn (eats X 7) (mvn (nxs X) (.inl (q, A)))))) e3
        have m4 := x4.1.2.1
        have x5 := x4.up (27 + t) (g := fun _ => 1) (fun _ _ _ => rfl)
        simp only [psh_some, rX12_readGoer_59, rX12_readGoer_60, rX12_readGoer_61, rX12_readGoer_64, rX12_readGoer_66, rX12_readGoer_67, rX12_readGoer_68, rX12_readGoer_69, Md_K280 m4, Md_R284 m4, Md_K284 m4, Md_K284 m3, w2, w3, w4, Int.toNat_natCast, Int.natCast_nonneg, true_and, and_true, and_self, if_true, if_false, or_true, true_or, or_false, false_or, ne_eq, not_true_eq_false, not_false_eq_true, Nat.reduceLeDiff, Nat.reduceEqDiff, Nat.reduceLT, Nat.reduceAdd, Nat.reduceMul, Nat.reduceSub, Int.reduceLT, Int.reduceLE, Int.reduceEq, Int.reduceToNat, Int.reduceAdd, Int.reduceSub, Int.reduceMul, Int.reduceNeg, Int.cast_ofNat_Int, false_and, and_false]
        have f4 := f2.trans (f3.trans ((RLn.fx (h := h3) (35 + t) v).trans (RLn.fx (27 + t) 1)))
        refine N_flags ht 900 _ b _ _ (by have := x.1.2.2.2.1; omega) x5 (fun h5 y x5 f5 => ?_)
        have m5 := x5.1.2.1
        rcases x5.ok with z | z
        · simp only [rX12_readGoer_134, rX12_readGoer_135, rX12_readGoer_138, rX12_readGoer_141, rX12_readGoer_142, rX12_readGoer_145, rX12_readGoer_146, rX12_readGoer_147, rX12_readGoer_148, rX12_readGoer_149, rX12_readGoer_150, rX12_readGoer_151, Md_K280 m5, Md_R284 m5, Md_K284 m5, z.1, Int.toNat_natCast, Int.natCast_nonneg, true_and, and_true, and_self, if_true, if_false, or_true, true_or, or_false, false_or, ne_eq, not_true_eq_false, not_false_eq_true, Nat.reduceLeDiff, Nat.reduceEqDiff, Nat.reduceLT, Nat.reduceAdd, Nat.reduceMul, Nat.reduceSub, Int.reduceLT, Int.reduceLE, Int.reduceEq, Int.reduceToNat, Int.reduceAdd, Int.reduceSub, Int.reduceMul, Int.reduceNeg, Int.cast_ofNat_Int, false_and, and_false]
          exact k _ (x5.up 2 (g := fun A => w32 (A 2 + 1)) (fun q A e => by rw [x5.2.2 q A e 2 (by decide)])) (f4.trans (f5.trans (RLn.fx _ _)))
        · have z1 := eq_false z.1
          simp only [rX12_readGoer_134, rX12_readGoer_135, rX12_readGoer_138, rX12_readGoer_141, rX12_readGoer_142, rX12_readGoer_145, rX12_readGoer_146, rX12_readGoer_147, rX12_readGoer_148, rX12_readGoer_149, rX12_readGoer_150, rX12_readGoer_151, Md_K280 m5, z1, Int.toNat_natCast, Int.natCast_nonneg, true_and, and_true, and_self, if_true, if_false, or_true, true_or, or_false, false_or, ne_eq, not_true_eq_false, not_false_eq_true, Nat.reduceLeDiff, Nat.reduceEqDiff, Nat.reduceLT, Nat.reduceAdd, Nat.reduceMul, Nat.reduceSub, Int.reduceLT, Int.reduceLE, Int.reduceEq, Int.reduceToNat, Int.reduceAdd, Int.reduceSub, Int.reduceMul, Int.reduceNeg, Int.cast_ofNat_Int, false_and, and_false]
          exact k h5 (x5.bad z.2) (f4.trans f5)
      by_cases c2 : tkl X (mvn (nxs X) (.inl (q, A))) = 7
      · simp only [psh_none, rX12_readGoer_30, rX12_readGoer_31, rX12_readGoer_33, Md_K280 x1.1.2.1, Int.toNat_natCast, Int.natCast_nonneg, true_and, and_true, and_self, if_true, if_false, or_true, true_or, or_false, false_or, ne_eq, not_true_eq_false, not_false_eq_true, Nat.reduceLeDiff, Nat.reduceEqDiff, Nat.reduceLT, Nat.reduceAdd, Nat.reduceMul, Nat.reduceSub, Int.reduceLT, Int.reduceLE, Int.reduceEq, Int.reduceToNat, Int.reduceAdd, Int.reduceSub, Int.reduceMul, Int.reduceNeg, Int.cast_ofNat_Int, false_and, and_false]
        refine N_eats1 (d := d + 1) x1 (by decide) (by decide) c2 (fun h2 x2 f2 => ?_)
        simp only [psh_some, rX12_readGoer_36, Int.toNat_natCast, Int.natCast_nonneg, true_and, and_true, and_self, if_true, if_false, or_true, true_or, or_false, false_or, ne_eq, not_true_eq_false, not_false_eq_true, Nat.reduceLeDiff, Nat.reduceEqDiff, Nat.reduceLT, Nat.reduceAdd, Nat.reduceMul, Nat.reduceSub, Int.reduceLT, Int.reduceLE, Int.reduceEq, Int.reduceToNat, Int.reduceAdd, Int.reduceSub, Int.reduceMul, Int.reduceNeg, Int.cast_ofNat_Int, false_and, and_false]
        exact mid h2 (by rw [mv_e1 c2]; exact x2.weak (by omega)) (f1.trans f2)
      · have e0 := fun (Q : Option PV → Hp → Prop) => R_eats0 (d := d + 1) (Q := Q) x1.1 x1.2.1 (z := 7) (by decide) c2
        simp only [psh_none, rX12_readGoer_30, rX12_readGoer_31, rX12_readGoer_33, rX12_readGoer_36, rX12_readGoer_39, rX12_readGoer_40, rX12_readGoer_41, Md_K280 x1.1.2.1, e0, psh_some, Int.toNat_natCast, Int.natCast_nonneg, true_and, and_true, and_self, if_true, if_false, or_true, true_or, or_false, false_or, ne_eq, not_true_eq_false, not_false_eq_true, Nat.reduceLeDiff, Nat.reduceEqDiff, Nat.reduceLT, Nat.reduceAdd, Nat.reduceMul, Nat.reduceSub, Int.reduceLT, Int.reduceLE, Int.reduceEq, Int.reduceToNat, Int.reduceAdd, Int.reduceSub, Int.reduceMul, Int.reduceNeg, Int.cast_ofNat_Int, false_and, and_false]
        refine N_fails x1 (by decide) (fun h2 x2 f2 => ?_)
        simp only [psh_none]
        exact mid h2 (by rw [mv_e0 c2]; exact x2.weak (by omega)) (f1.trans f2)
