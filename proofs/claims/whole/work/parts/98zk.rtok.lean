/-! the reference's tokens -/
def RT (a k : Nat) : Prop := a = 294 ∧ (k = 6 ∨ k = 7 ∨ k = 9 ∨ k = 10 ∨ k = 11 ∨ k = 12)
def F6 (a k : Nat) : Prop := a = 294 ∧ k = 6
def F7 (a k : Nat) : Prop := a = 294 ∧ k = 7
def F9 (a k : Nat) : Prop := a = 294 ∧ k = 9
def F710 (a k : Nat) : Prop := a = 294 ∧ (k = 7 ∨ k = 10)
theorem F6_s (a k : Nat) (p : F6 a k) : RT a k := by unfold F6 at p; unfold RT; omega
theorem F7_s (a k : Nat) (p : F7 a k) : RT a k := by unfold F7 at p; unfold RT; omega
theorem F9_s (a k : Nat) (p : F9 a k) : RT a k := by unfold F9 at p; unfold RT; omega
theorem F710_s (a k : Nat) (p : F710 a k) : RT a k := by unfold F710 at p; unfold RT; omega
def RGd (X : TX) (h : Hp) : Prop := Sg h ∧ MdOk h ∧ hI h 294 8 = (X.2 : Int) ∧ X.2 ≤ 900 ∧ ∀ k, k < X.2 → hI h 297 k = X.1 k ∧ 0 ≤ X.1 k ∧ X.1 k ≤ 255
theorem RGd.fp {P : Nat → Nat → Prop} {X : TX} {h h' : Hp} (g : RGd X h) (f : Fp P h h') (hs : ∀ a k, P a k → 294 ≤ a ∧ a ≠ 297 ∧ (a = 294 → k ≠ 8)) : RGd X h' := by
  obtain ⟨sg, m, I8, hX, T⟩ := g
  exact ⟨sg.fp f (fun a k p => Nat.le_trans (by decide) (hs a k p).1), m.fr f, (f.I (fun p => (hs _ _ p).2.2 rfl rfl)).trans I8, hX, fun k hk => ⟨(f.I (fun p => (hs _ _ p).2.1 rfl)).trans (T k hk).1, (T k hk).2⟩⟩
theorem RT_s (a k : Nat) (p : RT a k) : 294 ≤ a ∧ a ≠ 297 ∧ (a = 294 → k ≠ 8) := by unfold RT at p; omega
theorem RGd.rt {X : TX} {h h' : Hp} (g : RGd X h) (f : Fp RT h h') : RGd X h' := g.fp f RT_s
def see (X : TX) (a : Nat) : Int := if a < X.2 then X.1 a else -1
theorem S_rsee {d : Nat} {Q : Option PV → Hp → Prop} {X : TX} {h : Hp} {a : Nat} (g : RGd X h) : WP d mX12_see 0 [some (.inr (.inr 294)), some (.inl (a : Int))] [] h Q = Q (some (.inl (see X a))) h := by
  obtain ⟨_, m, I8, hX, T⟩ := g
  unfold see
  by_cases c : a < X.2
  · have l := a_lt (show ¬ X.2 ≤ a by omega) hX
    have t := (T a c).1
    simp only [rX12_see_0, rX12_see_1, rX12_see_2, rX12_see_5, rX12_see_8, rX12_see_9, rX12_see_12, rX12_see_13, rX12_see_14, rX12_see_17, rX12_see_18, Md_K280 m, Md_R283 m, Md_K283 m, I8, l.1, l.2.1, t, c, Int.toNat_natCast, Int.natCast_nonneg, true_and, and_true, and_self, if_true, if_false, or_true, true_or, or_false, false_or, ne_eq, not_true_eq_false, not_false_eq_true, Nat.reduceLeDiff, Nat.reduceEqDiff, Nat.reduceLT, Nat.reduceAdd, Nat.reduceMul, Nat.reduceSub, Int.reduceLT, Int.reduceLE, Int.reduceEq, Int.reduceToNat, Int.reduceAdd, Int.reduceSub, Int.reduceMul, Int.reduceNeg, Int.cast_ofNat_Int, false_and, and_false]
  · have l := a_ge (show X.2 ≤ a by omega)
    simp only [rX12_see_0, rX12_see_1, rX12_see_2, rX12_see_5, rX12_see_8, rX12_see_9, rX12_see_12, rX12_see_13, rX12_see_14, rX12_see_17, rX12_see_18, Md_K280 m, I8, l, c, Int.toNat_natCast, Int.natCast_nonneg, true_and, and_true, and_self, if_true, if_false, or_true, true_or, or_false, false_or, ne_eq, not_true_eq_false, not_false_eq_true, Nat.reduceLeDiff, Nat.reduceEqDiff, Nat.reduceLT, Nat.reduceAdd, Nat.reduceMul, Nat.reduceSub, Int.reduceLT, Int.reduceLE, Int.reduceEq, Int.reduceToNat, Int.reduceAdd, Int.reduceSub, Int.reduceMul, Int.reduceNeg, Int.cast_ofNat_Int, false_and, and_false]
theorem see_lt {X : TX} {a : Nat} (h : a < X.2) : see X a = X.1 a := if_pos h
theorem see_ge {X : TX} {a : Nat} (h : X.2 = a + 0) : see X a = -1 := if_neg (by omega)
theorem R_nbl {d : Nat} {Q : Option PV → Hp → Prop} {X : TX} {y : Option PV} : ∀ n b h, RGd X h → X.2 = b + n → hI h 294 6 = (b : Int) → (∀ h', Fp F6 h h' → hI h' 294 6 = ((skp cB X.1 n b : Nat) : Int) → WP (d + 1) mX12_next 47 [some (.inr (.inr 294)), y] [] h' Q) → WP (d + 1) mX12_next 8 [some (.inr (.inr 294)), y] [] h Q := by
  intro n
  induction n with
  | zero =>
    intro b h g e hb k
    have m := g.2.1
    have sv := fun (Q : Option PV → Hp → Prop) => S_rsee (d := d) (Q := Q) (a := b) g
    rw [see_ge e] at sv
    rw [rX12_next_8]
    simp only [rX12_next_9, rX12_next_10, rX12_next_13, rX12_next_16, rX12_next_18, rX12_next_21, rX12_next_22, rX12_next_23, rX12_next_26, rX12_next_29, rX12_next_31, rX12_next_34, rX12_next_35, rX12_next_36, rX12_next_39, rX12_next_40, rX12_next_41, rX12_next_44, Md_K280 m, hb, sv, psh_some, Int.toNat_natCast, Int.natCast_nonneg, true_and, and_true, and_self, if_true, if_false, or_true, true_or, or_false, false_or, ne_eq, not_true_eq_false, not_false_eq_true, Nat.reduceLeDiff, Nat.reduceEqDiff, Nat.reduceLT, Nat.reduceAdd, Nat.reduceMul, Nat.reduceSub, Int.reduceLT, Int.reduceLE, Int.reduceEq, Int.reduceToNat, Int.reduceAdd, Int.reduceSub, Int.reduceMul, Int.reduceNeg, Int.cast_ofNat_Int, false_and, and_false]
    exact k h (Fp.refl _ h) hb
  | succ n ih =>
    intro b h g e hb k
    obtain ⟨l, l9, lb, l1⟩ := p_lt e g.2.2.2.1
    have m := g.2.1
    have sv := fun (Q : Option PV → Hp → Prop) => S_rsee (d := d) (Q := Q) (a := b) g
    rw [see_lt lb] at sv
    rw [rX12_next_8]
    have f : Fp F6 h (wI h 294 6 ((b + 1 : Nat) : Int)) := (Fp.refl F6 h).wI ⟨rfl, rfl⟩ _
    have again : cB (X.1 b) → WP (d + 1) mX12_next 8 [some (.inr (.inr 294)), y] [] (wI h 294 6 ((b + 1 : Nat) : Int)) Q := fun c => by
      refine ih (b + 1) _ (g.rt (f.mono F6_s)) (p_s e) (by rw [hI_wI, if_pos ⟨rfl, rfl⟩]) (fun h' f' e' => k h' (f.trans f') ?_)
      rw [e']; rw [skp_p c]
    by_cases c1 : X.1 b = 10
    · simp only [rX12_next_9, rX12_next_10, rX12_next_13, rX12_next_16, rX12_next_18, rX12_next_21, rX12_next_22, rX12_next_23, rX12_next_26, rX12_next_29, rX12_next_31, rX12_next_34, rX12_next_35, rX12_next_36, rX12_next_39, rX12_next_40, rX12_next_41, rX12_next_44, Md_K280 m, hb, sv, psh_some, c1, hK_wI, hI_wI, hR_wI, i_p1 l1, Int.toNat_natCast, Int.natCast_nonneg, true_and, and_true, and_self, if_true, if_false, or_true, true_or, or_false, false_or, ne_eq, not_true_eq_false, not_false_eq_true, Nat.reduceLeDiff, Nat.reduceEqDiff, Nat.reduceLT, Nat.reduceAdd, Nat.reduceMul, Nat.reduceSub, Int.reduceLT, Int.reduceLE, Int.reduceEq, Int.reduceToNat, Int.reduceAdd, Int.reduceSub, Int.reduceMul, Int.reduceNeg, Int.cast_ofNat_Int, false_and, and_false]
      exact again (Or.inl c1)
    · by_cases c2 : X.1 b = 32
      · have c3 : ((32 : Int) = 10) = False := eq_false (by decide)
        simp only [rX12_next_9, rX12_next_10, rX12_next_13, rX12_next_16, rX12_next_18, rX12_next_21, rX12_next_22, rX12_next_23, rX12_next_26, rX12_next_29, rX12_next_31, rX12_next_34, rX12_next_35, rX12_next_36, rX12_next_39, rX12_next_40, rX12_next_41, rX12_next_44, Md_K280 m, hb, sv, psh_some, c2, c3, hK_wI, hI_wI, hR_wI, i_p1 l1, Int.toNat_natCast, Int.natCast_nonneg, true_and, and_true, and_self, if_true, if_false, or_true, true_or, or_false, false_or, ne_eq, not_true_eq_false, not_false_eq_true, Nat.reduceLeDiff, Nat.reduceEqDiff, Nat.reduceLT, Nat.reduceAdd, Nat.reduceMul, Nat.reduceSub, Int.reduceLT, Int.reduceLE, Int.reduceEq, Int.reduceToNat, Int.reduceAdd, Int.reduceSub, Int.reduceMul, Int.reduceNeg, Int.cast_ofNat_Int, false_and, and_false]
        exact again (Or.inr c2)
      · simp only [rX12_next_9, rX12_next_10, rX12_next_13, rX12_next_16, rX12_next_18, rX12_next_21, rX12_next_22, rX12_next_23, rX12_next_26, rX12_next_29, rX12_next_31, rX12_next_34, rX12_next_35, rX12_next_36, rX12_next_39, rX12_next_40, rX12_next_41, rX12_next_44, Md_K280 m, hb, sv, psh_some, c1, c2, Int.toNat_natCast, Int.natCast_nonneg, true_and, and_true, and_self, if_true, if_false, or_true, true_or, or_false, false_or, ne_eq, not_true_eq_false, not_false_eq_true, Nat.reduceLeDiff, Nat.reduceEqDiff, Nat.reduceLT, Nat.reduceAdd, Nat.reduceMul, Nat.reduceSub, Int.reduceLT, Int.reduceLE, Int.reduceEq, Int.reduceToNat, Int.reduceAdd, Int.reduceSub, Int.reduceMul, Int.reduceNeg, Int.cast_ofNat_Int, false_and, and_false]
        refine k h (Fp.refl _ h) ?_
        rw [hb]; rw [skp_n (show ¬ cB (X.1 b) by omega)]
theorem R_nlt {d : Nat} {Q : Option PV → Hp → Prop} {X : TX} {y : Option PV} : ∀ n b h, RGd X h → X.2 = b + n → hI h 294 7 = (b : Int) → (∀ h', Fp F7 h h' → hI h' 294 7 = ((skp cL X.1 n b : Nat) : Int) → WP (d + 1) mX12_next 116 [some (.inr (.inr 294)), y] [] h' Q) → WP (d + 1) mX12_next 89 [some (.inr (.inr 294)), y] [] h Q := by
  intro n
  induction n with
  | zero =>
    intro b h g e hb k
    have m := g.2.1
    have sv := fun (Q : Option PV → Hp → Prop) => S_rsee (d := d) (Q := Q) (a := b) g
    rw [see_ge e] at sv
    have z : zb (97 ≤ (-1 : Int) ∧ (-1 : Int) ≤ 122) = 0 := zb_f (by omega)
    rw [rX12_next_89]
    simp only [rX12_next_90, rX12_next_91, rX12_next_94, rX12_next_97, rX12_next_100, rX12_next_103, rX12_next_104, rX12_next_105, rX12_next_108, rX12_next_109, rX12_next_110, rX12_next_113, Md_K280 m, hb, sv, S_rSmall, z, psh_some, Int.toNat_natCast, Int.natCast_nonneg, true_and, and_true, and_self, if_true, if_false, or_true, true_or, or_false, false_or, ne_eq, not_true_eq_false, not_false_eq_true, Nat.reduceLeDiff, Nat.reduceEqDiff, Nat.reduceLT, Nat.reduceAdd, Nat.reduceMul, Nat.reduceSub, Int.reduceLT, Int.reduceLE, Int.reduceEq, Int.reduceToNat, Int.reduceAdd, Int.reduceSub, Int.reduceMul, Int.reduceNeg, Int.cast_ofNat_Int, false_and, and_false]
    exact k h (Fp.refl _ h) hb
  | succ n ih =>
    intro b h g e hb k
    obtain ⟨l, l9, lb, l1⟩ := p_lt e g.2.2.2.1
    have m := g.2.1
    have sv := fun (Q : Option PV → Hp → Prop) => S_rsee (d := d) (Q := Q) (a := b) g
    rw [see_lt lb] at sv
    rw [rX12_next_89]
    have f : Fp F7 h (wI h 294 7 ((b + 1 : Nat) : Int)) := (Fp.refl F7 h).wI ⟨rfl, rfl⟩ _
    by_cases c : cL (X.1 b)
    · have z : zb (97 ≤ X.1 b ∧ X.1 b ≤ 122) = 1 := zb_t c
      simp only [rX12_next_90, rX12_next_91, rX12_next_94, rX12_next_97, rX12_next_100, rX12_next_103, rX12_next_104, rX12_next_105, rX12_next_108, rX12_next_109, rX12_next_110, rX12_next_113, Md_K280 m, hb, sv, S_rSmall, z, psh_some, hK_wI, hI_wI, hR_wI, i_p1 l1, Int.toNat_natCast, Int.natCast_nonneg, true_and, and_true, and_self, if_true, if_false, or_true, true_or, or_false, false_or, ne_eq, not_true_eq_false, not_false_eq_true, Nat.reduceLeDiff, Nat.reduceEqDiff, Nat.reduceLT, Nat.reduceAdd, Nat.reduceMul, Nat.reduceSub, Int.reduceLT, Int.reduceLE, Int.reduceEq, Int.reduceToNat, Int.reduceAdd, Int.reduceSub, Int.reduceMul, Int.reduceNeg, Int.cast_ofNat_Int, false_and, and_false]
      refine ih (b + 1) _ (g.rt (f.mono F7_s)) (p_s e) (by rw [hI_wI, if_pos ⟨rfl, rfl⟩]) (fun h' f' e' => k h' (f.trans f') ?_)
      rw [e']; rw [skp_p c]
    · have z : zb (97 ≤ X.1 b ∧ X.1 b ≤ 122) = 0 := zb_f c
      simp only [rX12_next_90, rX12_next_91, rX12_next_94, rX12_next_97, rX12_next_100, rX12_next_103, rX12_next_104, rX12_next_105, rX12_next_108, rX12_next_109, rX12_next_110, rX12_next_113, Md_K280 m, hb, sv, S_rSmall, z, psh_some, Int.toNat_natCast, Int.natCast_nonneg, true_and, and_true, and_self, if_true, if_false, or_true, true_or, or_false, false_or, ne_eq, not_true_eq_false, not_false_eq_true, Nat.reduceLeDiff, Nat.reduceEqDiff, Nat.reduceLT, Nat.reduceAdd, Nat.reduceMul, Nat.reduceSub, Int.reduceLT, Int.reduceLE, Int.reduceEq, Int.reduceToNat, Int.reduceAdd, Int.reduceSub, Int.reduceMul, Int.reduceNeg, Int.cast_ofNat_Int, false_and, and_false]
      refine k h (Fp.refl _ h) ?_
      rw [hb]; rw [skp_n c]
theorem R_nnm {d : Nat} {Q : Option PV → Hp → Prop} {X : TX} {y : Option PV} {a : Nat} : ∀ n b v h, RGd X h → X.2 = b + n → a ≤ b → nOk a b v → hI h 294 6 = (a : Int) → hI h 294 7 = (b : Int) → hI h 294 10 = v → (∀ h', Fp F710 h h' → hI h' 294 7 = ((skp cD X.1 n b : Nat) : Int) → hI h' 294 10 = nmL X.1 a n b v → WP (d + 1) mX12_next 209 [some (.inr (.inr 294)), y] [] h' Q) → WP (d + 1) mX12_next 146 [some (.inr (.inr 294)), y] [] h Q := by
  intro n
  induction n with
  | zero =>
    intro b v h g e _ _ ha hb hv k
    have m := g.2.1
    have sv := fun (Q : Option PV → Hp → Prop) => S_rsee (d := d) (Q := Q) (a := b) g
    rw [see_ge e] at sv
    have z : zb (48 ≤ (-1 : Int) ∧ (-1 : Int) ≤ 57) = 0 := zb_f (by omega)
    rw [rX12_next_146]
    simp only [rX12_next_147, rX12_next_148, rX12_next_151, rX12_next_154, rX12_next_157, rX12_next_160, rX12_next_161, rX12_next_164, rX12_next_165, rX12_next_168, rX12_next_169, rX12_next_170, rX12_next_173, rX12_next_174, rX12_next_176, rX12_next_177, rX12_next_180, rX12_next_181, rX12_next_182, rX12_next_183, rX12_next_186, rX12_next_189, rX12_next_190, rX12_next_192, rX12_next_193, rX12_next_196, rX12_next_197, rX12_next_198, rX12_next_201, rX12_next_202, rX12_next_203, rX12_next_206, Md_K280 m, hb, sv, S_rDigit, z, psh_some, Int.toNat_natCast, Int.natCast_nonneg, true_and, and_true, and_self, if_true, if_false, or_true, true_or, or_false, false_or, ne_eq, not_true_eq_false, not_false_eq_true, Nat.reduceLeDiff, Nat.reduceEqDiff, Nat.reduceLT, Nat.reduceAdd, Nat.reduceMul, Nat.reduceSub, Int.reduceLT, Int.reduceLE, Int.reduceEq, Int.reduceToNat, Int.reduceAdd, Int.reduceSub, Int.reduceMul, Int.reduceNeg, Int.cast_ofNat_Int, false_and, and_false]
    exact k h (Fp.refl _ h) hb hv
  | succ n ih =>
    intro b v h g e hab hn ha hb hv k
    obtain ⟨l, l9, lb, l1⟩ := p_lt e g.2.2.2.1
    have d0 := n_d (m := 0) hab l1
    have d3 := n_3 hab
    have m := g.2.1
    have sv := fun (Q : Option PV → Hp → Prop) => S_rsee (d := d) (Q := Q) (a := b) g
    rw [see_lt lb] at sv
    rw [rX12_next_146]
    by_cases c : cD (X.1 b)
    · have z : zb (48 ≤ X.1 b ∧ X.1 b ≤ 57) = 1 := zb_t c
      have ns := nOk_s hn c hab
      have e9 := n_w hn c
      by_cases c3 : b < a + 3
      · rw [if_pos c3] at ns
        simp only [rX12_next_147, rX12_next_148, rX12_next_151, rX12_next_154, rX12_next_157, rX12_next_160, rX12_next_161, rX12_next_164, rX12_next_165, rX12_next_168, rX12_next_169, rX12_next_170, rX12_next_173, rX12_next_174, rX12_next_176, rX12_next_177, rX12_next_180, rX12_next_181, rX12_next_182, rX12_next_183, rX12_next_186, rX12_next_189, rX12_next_190, rX12_next_192, rX12_next_193, rX12_next_196, rX12_next_197, rX12_next_198, rX12_next_201, rX12_next_202, rX12_next_203, rX12_next_206, Md_K280 m, ha, hb, hv, sv, S_rDigit, z, e9, d0, d3, c3, psh_some, hK_wI, hI_wI, hR_wI, i_p1 l1, Int.toNat_natCast, Int.natCast_nonneg, true_and, and_true, and_self, if_true, if_false, or_true, true_or, or_false, false_or, ne_eq, not_true_eq_false, not_false_eq_true, Nat.reduceLeDiff, Nat.reduceEqDiff, Nat.reduceLT, Nat.reduceAdd, Nat.reduceMul, Nat.reduceSub, Int.reduceLT, Int.reduceLE, Int.reduceEq, Int.reduceToNat, Int.reduceAdd, Int.reduceSub, Int.reduceMul, Int.reduceNeg, Int.cast_ofNat_Int, false_and, and_false]
        have f : Fp F710 h (wI (wI h 294 10 (10 * v + X.1 b - 48)) 294 7 ((b + 1 : Nat) : Int)) := ((Fp.refl F710 h).wI ⟨rfl, Or.inr rfl⟩ _).wI ⟨rfl, Or.inl rfl⟩ _
        refine ih (b + 1) (10 * v + X.1 b - 48) _ (g.rt (f.mono F710_s)) (p_s e) (Nat.le_succ_of_le hab) ns (by simp only [hI_wI, ha, Int.toNat_natCast, Int.natCast_nonneg, true_and, and_true, and_self, if_true, if_false, or_true, true_or, or_false, false_or, ne_eq, not_true_eq_false, not_false_eq_true, Nat.reduceLeDiff, Nat.reduceEqDiff, Nat.reduceLT, Nat.reduceAdd, Nat.reduceMul, Nat.reduceSub, Int.reduceLT, Int.reduceLE, Int.reduceEq, Int.reduceToNat, Int.reduceAdd, Int.reduceSub, Int.reduceMul, Int.reduceNeg, Int.cast_ofNat_Int, false_and, and_false]) (by simp only [hI_wI, Int.toNat_natCast, Int.natCast_nonneg, true_and, and_true, and_self, if_true, if_false, or_true, true_or, or_false, false_or, ne_eq, not_true_eq_false, not_false_eq_true, Nat.reduceLeDiff, Nat.reduceEqDiff, Nat.reduceLT, Nat.reduceAdd, Nat.reduceMul, Nat.reduceSub, Int.reduceLT, Int.reduceLE, Int.reduceEq, Int.reduceToNat, Int.reduceAdd, Int.reduceSub, Int.reduceMul, Int.reduceNeg, Int.cast_ofNat_Int, false_and, and_false]) (by simp only [hI_wI, Int.toNat_natCast, Int.natCast_nonneg, true_and, and_true, and_self, if_true, if_false, or_true, true_or, or_false, false_or, ne_eq, not_true_eq_false, not_false_eq_true, Nat.reduceLeDiff, Nat.reduceEqDiff, Nat.reduceLT, Nat.reduceAdd, Nat.reduceMul, Nat.reduceSub, Int.reduceLT, Int.reduceLE, Int.reduceEq, Int.reduceToNat, Int.reduceAdd, Int.reduceSub, Int.reduceMul, Int.reduceNeg, Int.cast_ofNat_Int, false_and, and_false]) (fun h' f' e1 e2 => k h' (f.trans f') ?_ ?_)
        · rw [e1]; rw [skp_p c]
        · rw [e2]
          show _ = if cD (X.1 b) then nmL X.1 a n (b + 1) (if b < a + 3 then 10 * v + X.1 b - 48 else v) else v
          rw [if_pos c, if_pos c3]
      · rw [if_neg c3] at ns
        simp only [rX12_next_147, rX12_next_148, rX12_next_151, rX12_next_154, rX12_next_157, rX12_next_160, rX12_next_161, rX12_next_164, rX12_next_165, rX12_next_168, rX12_next_169, rX12_next_170, rX12_next_173, rX12_next_174, rX12_next_176, rX12_next_177, rX12_next_180, rX12_next_181, rX12_next_182, rX12_next_183, rX12_next_186, rX12_next_189, rX12_next_190, rX12_next_192, rX12_next_193, rX12_next_196, rX12_next_197, rX12_next_198, rX12_next_201, rX12_next_202, rX12_next_203, rX12_next_206, Md_K280 m, ha, hb, hv, sv, S_rDigit, z, d0, d3, c3, psh_some, hK_wI, hI_wI, hR_wI, i_p1 l1, Int.toNat_natCast, Int.natCast_nonneg, true_and, and_true, and_self, if_true, if_false, or_true, true_or, or_false, false_or, ne_eq, not_true_eq_false, not_false_eq_true, Nat.reduceLeDiff, Nat.reduceEqDiff, Nat.reduceLT, Nat.reduceAdd, Nat.reduceMul, Nat.reduceSub, Int.reduceLT, Int.reduceLE, Int.reduceEq, Int.reduceToNat, Int.reduceAdd, Int.reduceSub, Int.reduceMul, Int.reduceNeg, Int.cast_ofNat_Int, false_and, and_false]
        have f : Fp F710 h (wI h 294 7 ((b + 1 : Nat) : Int)) := (Fp.refl F710 h).wI ⟨rfl, Or.inl rfl⟩ _
        refine ih (b + 1) v _ (g.rt (f.mono F710_s)) (p_s e) (Nat.le_succ_of_le hab) ns (by simp only [hI_wI, ha, Int.toNat_natCast, Int.natCast_nonneg, true_and, and_true, and_self, if_true, if_false, or_true, true_or, or_false, false_or, ne_eq, not_true_eq_false, not_false_eq_true, Nat.reduceLeDiff, Nat.reduceEqDiff, Nat.reduceLT, Nat.reduceAdd, Nat.reduceMul, Nat.reduceSub, Int.reduceLT, Int.reduceLE, Int.reduceEq, Int.reduceToNat, Int.reduceAdd, Int.reduceSub, Int.reduceMul, Int.reduceNeg, Int.cast_ofNat_Int, false_and, and_false]) (by simp only [hI_wI, Int.toNat_natCast, Int.natCast_nonneg, true_and, and_true, and_self, if_true, if_false, or_true, true_or, or_false, false_or, ne_eq, not_true_eq_false, not_false_eq_true, Nat.reduceLeDiff, Nat.reduceEqDiff, Nat.reduceLT, Nat.reduceAdd, Nat.reduceMul, Nat.reduceSub, Int.reduceLT, Int.reduceLE, Int.reduceEq, Int.reduceToNat, Int.reduceAdd, Int.reduceSub, Int.reduceMul, Int.reduceNeg, Int.cast_ofNat_Int, false_and, and_false]) (by simp only [hI_wI, hv, Int.toNat_natCast, Int.natCast_nonneg, true_and, and_true, and_self, if_true, if_false, or_true, true_or, or_false, false_or, ne_eq, not_true_eq_false, not_false_eq_true, Nat.reduceLeDiff, Nat.reduceEqDiff, Nat.reduceLT, Nat.reduceAdd, Nat.reduceMul, Nat.reduceSub, Int.reduceLT, Int.reduceLE, Int.reduceEq, Int.reduceToNat, Int.reduceAdd, Int.reduceSub, Int.reduceMul, Int.reduceNeg, Int.cast_ofNat_Int, false_and, and_false]) (fun h' f' e1 e2 => k h' (f.trans f') ?_ ?_)
        · rw [e1]; rw [skp_p c]
        · rw [e2]
          show _ = if cD (X.1 b) then nmL X.1 a n (b + 1) (if b < a + 3 then 10 * v + X.1 b - 48 else v) else v
          rw [if_pos c, if_neg c3]
    · have z : zb (48 ≤ X.1 b ∧ X.1 b ≤ 57) = 0 := zb_f c
      simp only [rX12_next_147, rX12_next_148, rX12_next_151, rX12_next_154, rX12_next_157, rX12_next_160, rX12_next_161, rX12_next_164, rX12_next_165, rX12_next_168, rX12_next_169, rX12_next_170, rX12_next_173, rX12_next_174, rX12_next_176, rX12_next_177, rX12_next_180, rX12_next_181, rX12_next_182, rX12_next_183, rX12_next_186, rX12_next_189, rX12_next_190, rX12_next_192, rX12_next_193, rX12_next_196, rX12_next_197, rX12_next_198, rX12_next_201, rX12_next_202, rX12_next_203, rX12_next_206, Md_K280 m, hb, sv, S_rDigit, z, psh_some, Int.toNat_natCast, Int.natCast_nonneg, true_and, and_true, and_self, if_true, if_false, or_true, true_or, or_false, false_or, ne_eq, not_true_eq_false, not_false_eq_true, Nat.reduceLeDiff, Nat.reduceEqDiff, Nat.reduceLT, Nat.reduceAdd, Nat.reduceMul, Nat.reduceSub, Int.reduceLT, Int.reduceLE, Int.reduceEq, Int.reduceToNat, Int.reduceAdd, Int.reduceSub, Int.reduceMul, Int.reduceNeg, Int.cast_ofNat_Int, false_and, and_false]
      refine k h (Fp.refl _ h) ?_ ?_
      · rw [hb]; rw [skp_n c]
      · rw [hv]; unfold nmL; rw [if_neg c]
/-- which sign -/
def sgf (w : List Int) (x : Int) : Nat → Nat → Int → Int
  | 0, _, v => v
  | n + 1, k, v => sgf w x n (k + 1) (if x = w.getD k 0 then 30 + (k : Int) else v)
theorem sgf_is (x : Int) : sgf (sbyz.getD 25 []) x 12 0 26 = sgn x := by
  have u : sgf (sbyz.getD 25 []) x 12 0 26 = if x = 62 then 41 else if x = 60 then 40 else if x = 61 then 39 else if x = 93 then 38 else if x = 91 then 37 else if x = 41 then 36 else if x = 40 then 35 else if x = 42 then 34 else if x = 45 then 33 else if x = 43 then 32 else if x = 58 then 31 else if x = 59 then 30 else 26 := rfl
  rw [u]
  unfold sgn
  by_cases h : x = 59 ∨ x = 58 ∨ x = 43 ∨ x = 45 ∨ x = 42 ∨ x = 40 ∨ x = 41 ∨ x = 91 ∨ x = 93 ∨ x = 61 ∨ x = 60 ∨ x = 62
  · rcases h with rfl | rfl | rfl | rfl | rfl | rfl | rfl | rfl | rfl | rfl | rfl | rfl <;> rfl
  · simp only [not_or] at h
    obtain ⟨a, b, c, d, e, f, g, i, j, k, l, m⟩ := h
    simp only [a, b, c, d, e, f, g, i, j, k, l, m, if_false]
theorem k_12 {k n : Nat} (h : 12 = k + (n + 1)) : ((k : Int) < 12) = True ∧ k ≤ 1000 ∧ (k : Int) < 12 ∧ w32 (30 + (k : Int)) = 30 + (k : Int) := ⟨eq_true (by omega), by omega, by omega, w32_i (by omega) (by omega)⟩
theorem k_13 {k : Nat} (h : 12 = k + 0) : ((k : Int) < 12) = False := eq_false (by omega)
theorem R_nsg {d : Nat} {Q : Option PV → Hp → Prop} {X : TX} {a : Nat} : ∀ n k v h, RGd X h → 12 = k + n → hI h 294 6 = (a : Int) → a < X.2 → hI h 294 9 = v → (∀ h', Fp F9 h h' → hI h' 294 9 = sgf (sbyz.getD 25 []) (X.1 a) n k v → Q none h') → WP (d + 5) mX12_next 254 [some (.inr (.inr 294)), some (.inl (k : Int))] [] h Q := by
  intro n
  induction n with
  | zero =>
    intro k v h g e ha la hv q
    have st : StrAt h 26 (sbyz.getD 25 []) := g.1.at 25 (by decide)
    have KS := st.1
    have sl := fun (Q : Option PV → Hp → Prop) => S_len (d := d + 3) (Q := Q) st
    rw [show (sbyz.getD 25 []).length = 12 from rfl] at sl
    rw [rX12_next_254]
    simp only [rX12_next_255, rX12_next_257, rX12_next_260, rX12_next_263, rX12_next_264, rX12_next_265, rX12_next_268, rX12_next_271, rX12_next_273, rX12_next_274, rX12_next_277, rX12_next_280, rX12_next_281, rX12_next_283, rX12_next_284, rX12_next_285, rX12_next_288, rX12_next_291, rX12_next_294, KS, sl, psh_some, k_13 e, Int.toNat_natCast, Int.natCast_nonneg, true_and, and_true, and_self, if_true, if_false, or_true, true_or, or_false, false_or, ne_eq, not_true_eq_false, not_false_eq_true, Nat.reduceLeDiff, Nat.reduceEqDiff, Nat.reduceLT, Nat.reduceAdd, Nat.reduceMul, Nat.reduceSub, Int.reduceLT, Int.reduceLE, Int.reduceEq, Int.reduceToNat, Int.reduceAdd, Int.reduceSub, Int.reduceMul, Int.reduceNeg, Int.cast_ofNat_Int, false_and, and_false]
    exact q h (Fp.refl _ h) hv
  | succ n ih =>
    intro k v h g e ha la hv q
    have st : StrAt h 26 (sbyz.getD 25 []) := g.1.at 25 (by decide)
    have KS := st.1
    have m := g.2.1
    obtain ⟨l1, l2, l3, l4⟩ := k_12 e
    have sl := fun (Q : Option PV → Hp → Prop) => S_len (d := d + 3) (Q := Q) st
    rw [show (sbyz.getD 25 []).length = 12 from rfl] at sl
    have sc := fun (Q : Option PV → Hp → Prop) => S_chr (d := d) (Q := Q) st (z := (k : Int)) (Int.natCast_nonneg k) l3
    rw [Int.toNat_natCast] at sc
    have sv := fun (Q : Option PV → Hp → Prop) => S_rsee (d := d + 4) (Q := Q) (a := a) g
    rw [see_lt la] at sv
    rw [rX12_next_254]
    by_cases c : X.1 a = (sbyz.getD 25 []).getD k 0
    · have c' := eq_true c
      simp only [rX12_next_255, rX12_next_257, rX12_next_260, rX12_next_263, rX12_next_264, rX12_next_265, rX12_next_268, rX12_next_271, rX12_next_273, rX12_next_274, rX12_next_277, rX12_next_280, rX12_next_281, rX12_next_283, rX12_next_284, rX12_next_285, rX12_next_288, rX12_next_291, Md_K280 m, KS, sl, sc, ha, sv, psh_some, l1, c', l4, i_p1 l2, Int.toNat_natCast, Int.natCast_nonneg, true_and, and_true, and_self, if_true, if_false, or_true, true_or, or_false, false_or, ne_eq, not_true_eq_false, not_false_eq_true, Nat.reduceLeDiff, Nat.reduceEqDiff, Nat.reduceLT, Nat.reduceAdd, Nat.reduceMul, Nat.reduceSub, Int.reduceLT, Int.reduceLE, Int.reduceEq, Int.reduceToNat, Int.reduceAdd, Int.reduceSub, Int.reduceMul, Int.reduceNeg, Int.cast_ofNat_Int, false_and, and_false]
      have f : Fp F9 h (wI h 294 9 (30 + (k : Int))) := (Fp.refl F9 h).wI ⟨rfl, rfl⟩ _
      refine ih (k + 1) (30 + (k : Int)) _ (g.rt (f.mono F9_s)) (p_s e) (by simp only [hI_wI, ha, Int.toNat_natCast, Int.natCast_nonneg, true_and, and_true, and_self, if_true, if_false, or_true, true_or, or_false, false_or, ne_eq, not_true_eq_false, not_false_eq_true, Nat.reduceLeDiff, Nat.reduceEqDiff, Nat.reduceLT, Nat.reduceAdd, Nat.reduceMul, Nat.reduceSub, Int.reduceLT, Int.reduceLE, Int.reduceEq, Int.reduceToNat, Int.reduceAdd, Int.reduceSub, Int.reduceMul, Int.reduceNeg, Int.cast_ofNat_Int, false_and, and_false]) la (by simp only [hI_wI, Int.toNat_natCast, Int.natCast_nonneg, true_and, and_true, and_self, if_true, if_false, or_true, true_or, or_false, false_or, ne_eq, not_true_eq_false, not_false_eq_true, Nat.reduceLeDiff, Nat.reduceEqDiff, Nat.reduceLT, Nat.reduceAdd, Nat.reduceMul, Nat.reduceSub, Int.reduceLT, Int.reduceLE, Int.reduceEq, Int.reduceToNat, Int.reduceAdd, Int.reduceSub, Int.reduceMul, Int.reduceNeg, Int.cast_ofNat_Int, false_and, and_false]) (fun h' f' e' => q h' (f.trans f') ?_)
      rw [e']
      show _ = sgf _ _ n (k + 1) (if X.1 a = (sbyz.getD 25 []).getD k 0 then _ else v)
      rw [if_pos c]
    · have c' := eq_false c
      simp only [rX12_next_255, rX12_next_257, rX12_next_260, rX12_next_263, rX12_next_264, rX12_next_265, rX12_next_268, rX12_next_271, rX12_next_273, rX12_next_274, rX12_next_277, rX12_next_280, rX12_next_281, rX12_next_283, rX12_next_284, rX12_next_285, rX12_next_288, rX12_next_291, Md_K280 m, KS, sl, sc, ha, sv, psh_some, l1, c', i_p1 l2, Int.toNat_natCast, Int.natCast_nonneg, true_and, and_true, and_self, if_true, if_false, or_true, true_or, or_false, false_or, ne_eq, not_true_eq_false, not_false_eq_true, Nat.reduceLeDiff, Nat.reduceEqDiff, Nat.reduceLT, Nat.reduceAdd, Nat.reduceMul, Nat.reduceSub, Int.reduceLT, Int.reduceLE, Int.reduceEq, Int.reduceToNat, Int.reduceAdd, Int.reduceSub, Int.reduceMul, Int.reduceNeg, Int.cast_ofNat_Int, false_and, and_false]
      refine ih (k + 1) v h g (p_s e) ha la hv (fun h' f' e' => q h' f' ?_)
      rw [e']
      show _ = sgf _ _ n (k + 1) (if X.1 a = (sbyz.getD 25 []).getD k 0 then _ else v)
      rw [if_neg c]
