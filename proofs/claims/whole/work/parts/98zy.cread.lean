/-! the class reads a pool -/
theorem CFu.weak {X : TX} {pl : Nat} {h0 h : Hp} {b b' : Nat} {r : LN} (x : CFu X pl h0 h b r) (hb : b' ≤ b) : CFu X pl h0 h b' r := ⟨x.1.weak hb, x.2⟩
theorem CFu.w10 {X : TX} {pl : Nat} {h0 h : Hp} {b : Nat} {r : LN} (x : CFu X pl h0 h b r) (v : Int) : CFu X pl h0 (wI h 201 10 v) b r := by
  obtain ⟨⟨g, t, r2, sh, ph⟩, x2, x3, x4, x5⟩ := x
  have p3 := sh.1
  have f : Fp (fun a k => a = 201 ∧ k = 10) h (wI h 201 10 v) := Fp.wI (P := fun a k => a = 201 ∧ k = 10) (Fp.refl _ h) ⟨rfl, rfl⟩ _
  have J : ∀ i, i ≠ 10 → hI (wI h 201 10 v) 201 i = hI h 201 i := fun i hi => by rw [hI_wI, if_neg (fun z => hi z.2)]
  have O : ∀ a i, a ≠ 201 → hI (wI h 201 10 v) a i = hI h a i := fun a i ha => by rw [hI_wI, if_neg (fun z => ha z.1)]
  refine ⟨⟨g.fp f (fun a k p => by have p : a = 201 ∧ k = 10 := p; omega), ?_, r2, sh.fp f, fun q A e c j hc => (O _ _ (by omega)).trans (ph q A e c j hc)⟩, x2.wI (Or.inl rfl) _ _, x3, x4, fun q A e => ⟨(x5 q A e).1, fun l hl => ?_⟩⟩
  · cases r with
    | inl y =>
      obtain ⟨t1, t2, t3, t4, t5⟩ := t
      refine ⟨t1, t2, ?_, ?_, ?_⟩
      · rw [J 5 (by decide)]; exact t3
      · rw [J 7 (by decide), J 11 (by decide), J 12 (by decide)]; exact t4
      · rw [J 7 (by decide), J 11 (by decide), J 12 (by decide), J 6 (by decide), J 8 (by decide)]; exact t5
    | inr e =>
      obtain ⟨t1, t2, t3, t4⟩ := t
      exact ⟨t1, (J 7 (by decide)).trans t2, (J 11 (by decide)).trans t3, (J 12 (by decide)).trans t4⟩
  · obtain ⟨⟨a1, a2, a3⟩, b1⟩ := (x5 q A e).2 l hl
    have ne : hR h pl (6 + l) ≠ 201 := fun z => by rw [z] at a2; exact a2.elim (by decide) (by decide)
    exact ⟨⟨a1, a2, fun j hj => (O _ _ ne).trans (a3 j hj)⟩, b1⟩
theorem pw3 {pl : Nat} (h : 314 ≤ pl) : ¬ PW pl 201 3 := by unfold PW; omega
theorem ck_0 {k : Int} (h : k ≠ 25) : ¬ ck k = 0 ∧ ¬ ck k = 4 := by
  unfold ck
  by_cases a : k ≤ 23
  · rw [if_pos a]; decide
  · rw [if_neg a]
    by_cases b : k = 24
    · rw [if_pos b]; decide
    · rw [if_neg b, if_neg h]; decide
theorem pLines_b (X : TX) (m : Nat) (e : Int × Nat) : pLines X m (.inr e) = .inr e := by
  cases m with
  | zero => rfl
  | succ m => exact if_pos (Or.inr rfl)
theorem E_lines {d : Nat} {Q : Option PV → Hp → Prop} {X : TX} {pl : Nat} {h0 : Hp} {n : Int} (hX : X.2 ≤ 900) : ∀ (m i : Nat) (h : Hp) (b : Nat) (r : LN), i ≤ b → X.2 ≤ b + m → CFu X pl h0 h b r → hI h 201 3 = 0 → Inv X AI r → (∀ h', CFu X pl h0 h' 0 (pLines X m r) → hI h' 201 3 = 0 → (∀ q A, pLines X m r = .inl (q, A) → tk X q = 25) → Q none h') → WP (d + 152) mX6_read 59 [some (.inr (.inr 201)), some (.inl n), some (.inr (.inr pl)), some (.inl (i : Int))] [] h Q := by
  intro m
  have out : ∀ (i : Nat) (h : Hp) (b : Nat) (r : LN), CFu X pl h0 h b r → (hI h 201 7 = 0 ∨ hI h 201 7 = 4) → Q none h → WP (d + 152) mX6_read 59 [some (.inr (.inr 201)), some (.inl n), some (.inr (.inr pl)), some (.inl (i : Int))] [] h Q := fun i h b r x c k => by
    have K := x.1.1.2.1
    rw [rX6_read_59]
    by_cases hi : i < 900
    · rcases c with c | c
      · simp only [rX6_read_60, rX6_read_63, rX6_read_66, rX6_read_67, rX6_read_70, rX6_read_73, rX6_read_74, rX6_read_77, rX6_read_78, rX6_read_184, K, (i_9 hi).1, c, Int.toNat_natCast, Int.natCast_nonneg, true_and, and_true, and_self, if_true, if_false, or_true, true_or, or_false, false_or, ne_eq, not_true_eq_false, not_false_eq_true, Nat.reduceLeDiff, Nat.reduceEqDiff, Nat.reduceLT, Nat.reduceAdd, Nat.reduceMul, Nat.reduceSub, Int.reduceLT, Int.reduceLE, Int.reduceEq, Int.reduceToNat, Int.reduceAdd, Int.reduceSub, Int.reduceMul, Int.reduceNeg, Int.cast_ofNat_Int, false_and, and_false]
        exact k
      · simp only [rX6_read_60, rX6_read_63, rX6_read_66, rX6_read_67, rX6_read_70, rX6_read_73, rX6_read_74, rX6_read_77, rX6_read_78, rX6_read_184, K, (i_9 hi).1, c, Int.toNat_natCast, Int.natCast_nonneg, true_and, and_true, and_self, if_true, if_false, or_true, true_or, or_false, false_or, ne_eq, not_true_eq_false, not_false_eq_true, Nat.reduceLeDiff, Nat.reduceEqDiff, Nat.reduceLT, Nat.reduceAdd, Nat.reduceMul, Nat.reduceSub, Int.reduceLT, Int.reduceLE, Int.reduceEq, Int.reduceToNat, Int.reduceAdd, Int.reduceSub, Int.reduceMul, Int.reduceNeg, Int.cast_ofNat_Int, false_and, and_false]
        exact k
    · simp only [rX6_read_60, rX6_read_63, rX6_read_184, i_10 hi, Int.toNat_natCast, Int.natCast_nonneg, true_and, and_true, and_self, if_true, if_false, or_true, true_or, or_false, false_or, ne_eq, not_true_eq_false, not_false_eq_true, Nat.reduceLeDiff, Nat.reduceEqDiff, Nat.reduceLT, Nat.reduceAdd, Nat.reduceMul, Nat.reduceSub, Int.reduceLT, Int.reduceLE, Int.reduceEq, Int.reduceToNat, Int.reduceAdd, Int.reduceSub, Int.reduceMul, Int.reduceNeg, Int.cast_ofNat_Int, false_and, and_false]
      exact k
  induction m with
  | zero =>
    intro i h b r hi hm x z3 iv k
    have t := x.1.2.1
    cases r with
    | inr e => exact out i h b _ x (Or.inr t.2.1) (k h (x.weak (Nat.zero_le _)) z3 (fun q A z => by cases z))
    | inl y =>
      have e5 : tk X y.1 = 25 := by
        by_cases c : tk X y.1 = 25
        · exact c
        · have := x.1.lt (tk_rng X y.1).1 c; omega
      have k7 := (t.2.2.2.2 (by rw [e5]; decide)).1
      rw [e5] at k7
      exact out i h b _ x (Or.inl k7) (k h (x.weak (Nat.zero_le _)) z3 (fun q A z => by cases z; exact e5))
  | succ m ih =>
    intro i h b r hi hm x z3 iv k
    have t := x.1.2.1
    cases r with
    | inr e =>
      rw [pLines_b] at k
      exact out i h b _ x (Or.inr t.2.1) (k h (x.weak (Nat.zero_le _)) z3 (fun q A z => by cases z))
    | inl y =>
      by_cases c5 : tk X y.1 = 25
      · have k7 := (t.2.2.2.2 (by rw [c5]; decide)).1
        rw [c5] at k7
        have e : pLines X (m + 1) (.inl y) = .inl y := if_pos (Or.inl c5)
        rw [e] at k
        exact out i h b _ x (Or.inl k7) (k h (x.weak (Nat.zero_le _)) z3 (fun q A z => by cases z; exact c5))
      · have cn : ¬ (tkl X (.inl y) = 25 ∨ tkl X (.inl y) = -1) := by
          rintro (z | z)
          · exact c5 z
          · have := (tk_rng X y.1).1; have z : tk X y.1 = -1 := z; omega
        have e : pLines X (m + 1) (.inl y) = pLines X m (pEnd X (pRead X (.inl y))) := if_neg cn
        rw [e] at k
        by_cases c6 : tk X y.1 = 26
        · obtain ⟨u1, u2, u3⟩ := t.2.2.2.1 c6
          have er : pRead X (.inl y) = .inr (1, tAt X y.1) := by
            have q : tkl X (.inl y) = 26 := c6
            unfold pRead
            rw [q, if_neg (by decide), if_neg (by decide), if_neg (by decide), if_neg (by decide)]
            show (.inr (if tk X y.1 = 26 then 1 else 2, tAt X y.1) : LN) = _
            rw [if_pos c6]
          have ee : pLines X m (pEnd X (pRead X (.inl y))) = .inr (1, tAt X y.1) := by rw [er]; exact pLines_b X m _
          rw [ee] at k
          refine out i h b _ x (Or.inr u1) (k h ⟨⟨x.1.1, ⟨by show (1 : Int) ≠ 0; decide, u1, u2, u3⟩, x.1.2.2.1, x.1.2.2.2.1, fun q A z => by cases z⟩, x.2.1, x.2.2.1, x.2.2.2.1, fun q A z => by cases z⟩ z3 (fun q A z => by cases z))
        · obtain ⟨u1, u2, u3, u4, u5⟩ := t.2.2.2.2 c6
          have c0 : 0 ≤ tkl X (.inl y) := (tk_rng X y.1).1
          have bl := x.1.lt c0 c5
          have hi9 : i < 900 := by omega
          obtain ⟨l9, l1⟩ := i_9 hi9
          obtain ⟨k0, k4⟩ := ck_0 c5
          have v0 : (hI h 201 7 = 0) = False := eq_false (by rw [u1]; exact k0)
          have v4 : (hI h 201 7 = 4) = False := eq_false (by rw [u1]; exact k4)
          have p3 := x.1.2.2.2.1.1
          have K := x.1.1.2.1
          have w1 : ∀ (Q : Option PV → Hp → Prop), WP (d + 146 + 5) mX6_isWord 0 [some (.inr (.inr 201)), some (.inr (.inr 3)), none] [] h Q = Q (some (.inl (zb (tkl X (.inl y) = 1)))) h := fun Q => C_isWord (d := d + 146) (Q := Q) x.1.1 x.1.2.1 (i := 1) (j := 2) (by decide) (by decide) rfl
          have w6 : ∀ (Q : Option PV → Hp → Prop), WP (d + 146 + 5) mX6_isWord 0 [some (.inr (.inr 201)), some (.inr (.inr 8)), none] [] h Q = Q (some (.inl (zb (tkl X (.inl y) = 6)))) h := fun Q => C_isWord (d := d + 146) (Q := Q) x.1.1 x.1.2.1 (i := 6) (j := 7) (by decide) (by decide) rfl
          have w10 : ∀ (Q : Option PV → Hp → Prop), WP (d + 146 + 5) mX6_isWord 0 [some (.inr (.inr 201)), some (.inr (.inr 12)), none] [] h Q = Q (some (.inl (zb (tkl X (.inl y) = 10)))) h := fun Q => C_isWord (d := d + 146) (Q := Q) x.1.1 x.1.2.1 (i := 10) (j := 11) (by decide) (by decide) rfl
          have w11 : ∀ (Q : Option PV → Hp → Prop), WP (d + 146 + 5) mX6_isWord 0 [some (.inr (.inr 201)), some (.inr (.inr 24)), none] [] h Q = Q (some (.inl (zb (tkl X (.inl y) = 11)))) h := fun Q => C_isWord (d := d + 146) (Q := Q) x.1.1 x.1.2.1 (i := 11) (j := 23) (by decide) (by decide) rfl
          have step : ∀ h1 r1, CFu X pl h0 h1 b r1 → hI h1 201 3 = 0 → pRead X (.inl y) = r1 → WP (d + 152) mX6_read 174 [some (.inr (.inr 201)), some (.inl n), some (.inr (.inr pl)), some (.inl (i : Int))] [] h1 Q := fun h1 r1 x1 y3 er => by
            rw [er] at k
            have iv1 : Inv X AI r1 := by rw [← er]; exact pRead_inv hX iv
            simp only [rX6_read_174, rX6_read_175, x1.1.1.2.1, Int.toNat_natCast, Int.natCast_nonneg, true_and, and_true, and_self, if_true, if_false, or_true, true_or, or_false, false_or, ne_eq, not_true_eq_false, not_false_eq_true, Nat.reduceLeDiff, Nat.reduceEqDiff, Nat.reduceLT, Nat.reduceAdd, Nat.reduceMul, Nat.reduceSub, Int.reduceLT, Int.reduceLE, Int.reduceEq, Int.reduceToNat, Int.reduceAdd, Int.reduceSub, Int.reduceMul, Int.reduceNeg, Int.cast_ofNat_Int, false_and, and_false]
            refine E_end (d := d + 143) x1.1 (fun h2 x2 f2 => ?_)
            simp only [psh_none, rX6_read_178, rX6_read_181, i_p1 l1, Int.toNat_natCast, Int.natCast_nonneg, true_and, and_true, and_self, if_true, if_false, or_true, true_or, or_false, false_or, ne_eq, not_true_eq_false, not_false_eq_true, Nat.reduceLeDiff, Nat.reduceEqDiff, Nat.reduceLT, Nat.reduceAdd, Nat.reduceMul, Nat.reduceSub, Int.reduceLT, Int.reduceLE, Int.reduceEq, Int.reduceToNat, Int.reduceAdd, Int.reduceSub, Int.reduceMul, Int.reduceNeg, Int.cast_ofNat_Int, false_and, and_false]
            refine ih (i + 1) h2 (b + 1) _ (Nat.succ_le_succ hi) (by clear l9 v0 v4; omega) (x1.fp f2 x2 (kp_end X r1)) ((f2.I (pw3 p3)).trans y3) (pEnd_inv iv1) k
          rw [rX6_read_59]
          by_cases c1 : tkl X (.inl y) = 1
          · simp only [rX6_read_60, rX6_read_63, rX6_read_66, rX6_read_67, rX6_read_70, rX6_read_73, rX6_read_74, rX6_read_77, rX6_read_78, rX6_read_81, rX6_read_82, rX6_read_84, rX6_read_87, rX6_read_90, rX6_read_91, K, l9, v0, v4, w1, zb_t c1, psh_some, Int.toNat_natCast, Int.natCast_nonneg, true_and, and_true, and_self, if_true, if_false, or_true, true_or, or_false, false_or, ne_eq, not_true_eq_false, not_false_eq_true, Nat.reduceLeDiff, Nat.reduceEqDiff, Nat.reduceLT, Nat.reduceAdd, Nat.reduceMul, Nat.reduceSub, Int.reduceLT, Int.reduceLE, Int.reduceEq, Int.reduceToNat, Int.reduceAdd, Int.reduceSub, Int.reduceMul, Int.reduceNeg, Int.cast_ofNat_Int, false_and, and_false]
            refine E_thing (d := d + 142) x.1 iv c1 (fun h1 x1 f1 => ?_)
            simp only [psh_none, rX6_read_94]
            exact step h1 _ (x.fp f1 x1 (kp_thing iv)) ((f1.I (pw3 p3)).trans z3) (if_pos c1)
          by_cases c2 : tkl X (.inl y) = 6
          · simp only [rX6_read_60, rX6_read_63, rX6_read_66, rX6_read_67, rX6_read_70, rX6_read_73, rX6_read_74, rX6_read_77, rX6_read_78, rX6_read_81, rX6_read_82, rX6_read_84, rX6_read_87, rX6_read_97, rX6_read_98, rX6_read_100, rX6_read_103, rX6_read_106, rX6_read_107, K, l9, v0, v4, w1, w6, zb_f c1, zb_t c2, psh_some, Int.toNat_natCast, Int.natCast_nonneg, true_and, and_true, and_self, if_true, if_false, or_true, true_or, or_false, false_or, ne_eq, not_true_eq_false, not_false_eq_true, Nat.reduceLeDiff, Nat.reduceEqDiff, Nat.reduceLT, Nat.reduceAdd, Nat.reduceMul, Nat.reduceSub, Int.reduceLT, Int.reduceLE, Int.reduceEq, Int.reduceToNat, Int.reduceAdd, Int.reduceSub, Int.reduceMul, Int.reduceNeg, Int.cast_ofNat_Int, false_and, and_false]
            refine E_goer (d := d + 142) x.1 iv c2 (fun h1 x1 f1 => ?_)
            simp only [psh_none, rX6_read_110]
            exact step h1 _ (x.fp f1 x1 (kp_goer iv)) ((f1.I (pw3 p3)).trans z3) (by unfold pRead; rw [if_neg c1, if_pos c2])
          have q2 : (200 ≤ pl) = True := eq_true (Nat.le_trans (by decide) x.1.2.2.2.1.1)
          by_cases c3 : tkl X (.inl y) = 10
          · have x0 := x.w10 0
            simp only [rX6_read_60, rX6_read_63, rX6_read_66, rX6_read_67, rX6_read_70, rX6_read_73, rX6_read_74, rX6_read_77, rX6_read_78, rX6_read_81, rX6_read_82, rX6_read_84, rX6_read_87, rX6_read_97, rX6_read_98, rX6_read_100, rX6_read_103, rX6_read_113, rX6_read_114, rX6_read_116, rX6_read_119, rX6_read_122, rX6_read_123, rX6_read_124, rX6_read_127, rX6_read_128, rX6_read_131, rX6_read_132, K, l9, v0, v4, w1, w6, w10, zb_f c1, zb_f c2, zb_t c3, psh_some, hK_wI, hR_wI, x.1.2.2.1, Int.toNat_natCast, Int.natCast_nonneg, true_and, and_true, and_self, if_true, if_false, or_true, true_or, or_false, false_or, ne_eq, not_true_eq_false, not_false_eq_true, Nat.reduceLeDiff, Nat.reduceEqDiff, Nat.reduceLT, Nat.reduceAdd, Nat.reduceMul, Nat.reduceSub, Int.reduceLT, Int.reduceLE, Int.reduceEq, Int.reduceToNat, Int.reduceAdd, Int.reduceSub, Int.reduceMul, Int.reduceNeg, Int.cast_ofNat_Int, false_and, and_false]
            refine E_law (d := d + 1) (law := 0) (by decide) x0 iv (by rw [hI_wI, if_pos ⟨rfl, rfl⟩]; rfl) c0 c5 c6 (fun h5 k5 n5 x5 => ?_)
            simp only [psh_some, rX6_read_135, rX6_read_138, k5, q2, Int.toNat_natCast, Int.natCast_nonneg, true_and, and_true, and_self, if_true, if_false, or_true, true_or, or_false, false_or, ne_eq, not_true_eq_false, not_false_eq_true, Nat.reduceLeDiff, Nat.reduceEqDiff, Nat.reduceLT, Nat.reduceAdd, Nat.reduceMul, Nat.reduceSub, Int.reduceLT, Int.reduceLE, Int.reduceEq, Int.reduceToNat, Int.reduceAdd, Int.reduceSub, Int.reduceMul, Int.reduceNeg, Int.cast_ofNat_Int, false_and, and_false]
            refine step _ _ x5 ?_ (by unfold pRead; rw [if_neg c1, if_neg c2, if_pos c3])
            rw [hI_wR, n5, hI_wI, if_neg (fun z => absurd z.2 (by decide))]; exact z3
          by_cases c4 : tkl X (.inl y) = 11
          · have x0 := x.w10 1
            simp only [rX6_read_60, rX6_read_63, rX6_read_66, rX6_read_67, rX6_read_70, rX6_read_73, rX6_read_74, rX6_read_77, rX6_read_78, rX6_read_81, rX6_read_82, rX6_read_84, rX6_read_87, rX6_read_97, rX6_read_98, rX6_read_100, rX6_read_103, rX6_read_113, rX6_read_114, rX6_read_116, rX6_read_119, rX6_read_141, rX6_read_142, rX6_read_144, rX6_read_147, rX6_read_150, rX6_read_151, rX6_read_152, rX6_read_155, rX6_read_156, rX6_read_159, rX6_read_160, K, l9, v0, v4, w1, w6, w10, w11, zb_f c1, zb_f c2, zb_f c3, zb_t c4, psh_some, hK_wI, hR_wI, x.1.2.2.1, Int.toNat_natCast, Int.natCast_nonneg, true_and, and_true, and_self, if_true, if_false, or_true, true_or, or_false, false_or, ne_eq, not_true_eq_false, not_false_eq_true, Nat.reduceLeDiff, Nat.reduceEqDiff, Nat.reduceLT, Nat.reduceAdd, Nat.reduceMul, Nat.reduceSub, Int.reduceLT, Int.reduceLE, Int.reduceEq, Int.reduceToNat, Int.reduceAdd, Int.reduceSub, Int.reduceMul, Int.reduceNeg, Int.cast_ofNat_Int, false_and, and_false]
            refine E_law (d := d + 1) (law := 1) (by decide) x0 iv (by rw [hI_wI, if_pos ⟨rfl, rfl⟩]; rfl) c0 c5 c6 (fun h5 k5 n5 x5 => ?_)
            simp only [psh_some, rX6_read_163, rX6_read_166, k5, q2, Int.toNat_natCast, Int.natCast_nonneg, true_and, and_true, and_self, if_true, if_false, or_true, true_or, or_false, false_or, ne_eq, not_true_eq_false, not_false_eq_true, Nat.reduceLeDiff, Nat.reduceEqDiff, Nat.reduceLT, Nat.reduceAdd, Nat.reduceMul, Nat.reduceSub, Int.reduceLT, Int.reduceLE, Int.reduceEq, Int.reduceToNat, Int.reduceAdd, Int.reduceSub, Int.reduceMul, Int.reduceNeg, Int.cast_ofNat_Int, false_and, and_false]
            refine step _ _ x5 ?_ (by unfold pRead; rw [if_neg c1, if_neg c2, if_neg c3, if_pos c4])
            rw [hI_wR, n5, hI_wI, if_neg (fun z => absurd z.2 (by decide))]; exact z3
          simp only [rX6_read_60, rX6_read_63, rX6_read_66, rX6_read_67, rX6_read_70, rX6_read_73, rX6_read_74, rX6_read_77, rX6_read_78, rX6_read_81, rX6_read_82, rX6_read_84, rX6_read_87, rX6_read_97, rX6_read_98, rX6_read_100, rX6_read_103, rX6_read_113, rX6_read_114, rX6_read_116, rX6_read_119, rX6_read_141, rX6_read_142, rX6_read_144, rX6_read_147, rX6_read_169, rX6_read_170, rX6_read_171, K, l9, v0, v4, w1, w6, w10, w11, zb_f c1, zb_f c2, zb_f c3, zb_f c4, psh_some, Int.toNat_natCast, Int.natCast_nonneg, true_and, and_true, and_self, if_true, if_false, or_true, true_or, or_false, false_or, ne_eq, not_true_eq_false, not_false_eq_true, Nat.reduceLeDiff, Nat.reduceEqDiff, Nat.reduceLT, Nat.reduceAdd, Nat.reduceMul, Nat.reduceSub, Int.reduceLT, Int.reduceLE, Int.reduceEq, Int.reduceToNat, Int.reduceAdd, Int.reduceSub, Int.reduceMul, Int.reduceNeg, Int.cast_ofNat_Int, false_and, and_false]
          refine E_fail x.1 (by decide) (fun h1 x1 f1 => ?_)
          simp only [psh_none]
          exact step h1 _ (x.fp f1 x1 (kp_mv fl_mono _)) ((f1.I (pw3 p3)).trans z3) (by unfold pRead; rw [if_neg c1, if_neg c2, if_neg c3, if_neg c4])
/-- a new pool holds nothing -/
def Po1 (h : Hp) (pl : Nat) : Prop := PSh h pl ∧ hR h pl 6 = 90 ∧ hR h pl 7 = 90 ∧ (∀ c j, c ≤ 6 → hI h (pl + c) j = 0)
theorem E_read {d : Nat} {Q : Option PV → Hp → Prop} {X : TX} {pl : Nat} {h0 : Hp} (hX : X.2 ≤ 900) (sg : Sg h0) (K : hK h0 201 = (6, 0)) (R0 : hR h0 201 0 = 202) (R1 : hR h0 201 1 = 203) (K2 : hK h0 202 = (20, 900)) (K3 : hK h0 203 = (21, 900)) (T : ∀ k, k < X.2 → hI h0 202 k = w8 (X.1 k) ∧ 0 ≤ X.1 k ∧ X.1 k ≤ 255) (po : Po1 h0 pl) (hp : pl + 6 < 200 + hN h0) (k : ∀ h', CFu X pl h0 h' 0 (pPool X) → hI h' 201 3 = 0 → (∀ q A, pPool X = .inl (q, A) → tk X q = 25) → Q none h') : WP (d + 152) mX6_read 0 [some (.inr (.inr 201)), some (.inl (X.2 : Int)), some (.inr (.inr pl)), none] [] h0 Q := by
  obtain ⟨sh, r6, r7, z⟩ := po
  have p3 := sh.1
  simp only [rX6_read_0, rX6_read_1, rX6_read_2, rX6_read_5, rX6_read_6, rX6_read_7, rX6_read_10, rX6_read_11, rX6_read_12, rX6_read_15, rX6_read_16, rX6_read_17, rX6_read_20, rX6_read_21, rX6_read_22, rX6_read_25, rX6_read_26, rX6_read_27, rX6_read_30, rX6_read_31, K, hK_wR, hK_wI, Int.toNat_natCast, Int.natCast_nonneg, true_and, and_true, and_self, if_true, if_false, or_true, true_or, or_false, false_or, ne_eq, not_true_eq_false, not_false_eq_true, Nat.reduceLeDiff, Nat.reduceEqDiff, Nat.reduceLT, Nat.reduceAdd, Nat.reduceMul, Nat.reduceSub, Int.reduceLT, Int.reduceLE, Int.reduceEq, Int.reduceToNat, Int.reduceAdd, Int.reduceSub, Int.reduceMul, Int.reduceNeg, Int.cast_ofNat_Int, false_and, and_false]
  generalize hh : wI (wI (wI (wI (wI (wR h0 201 2 pl) 201 4 (X.2 : Int)) 201 3 0) 201 6 0) 201 11 0) 201 12 (-1) = h1
  have fa : Fa (CS pl) h0 h1 := by
    rw [← hh]
    exact ((((((Fa.refl (CS pl) h0).wR (Or.inl rfl) _ _).wI (Or.inl rfl) _ _).wI (Or.inl rfl) _ _).wI (Or.inl rfl) _ _).wI (Or.inl rfl) _ _).wI (Or.inl rfl) _ _
  have O : ∀ a i, a ≠ 201 → hI h1 a i = hI h0 a i := fun a i ha => by
    rw [← hh]
    simp only [hI_wI, hI_wR, ha, false_and, if_false]
  have KK : ∀ a, hK h1 a = hK h0 a := fun a => by rw [← hh]; rfl
  have RR : ∀ a i, (a ≠ 201 ∨ i ≠ 2) → hR h1 a i = hR h0 a i := fun a i ha => by
    rw [← hh]
    show (if a = 201 ∧ i = 2 then pl else hR h0 a i) = _
    rw [if_neg]
    rintro ⟨q1, q2⟩
    rcases ha with ha | ha
    · exact ha q1
    · exact ha q2
  have i2 : hR h1 201 2 = pl := by rw [← hh]; rfl
  have i4 : hI h1 201 4 = (X.2 : Int) := by rw [← hh]; rfl
  have i3 : hI h1 201 3 = 0 := by rw [← hh]; rfl
  have i6 : hI h1 201 6 = ((0 : Nat) : Int) := by rw [← hh]; rfl
  have i11 : hI h1 201 11 = 0 := by rw [← hh]; rfl
  have i12 : hI h1 201 12 = -1 := by rw [← hh]; rfl
  have nN : hN h1 = hN h0 := by rw [← hh]; rfl
  have nS : hS h1 = hS h0 := by rw [← hh]; rfl
  clear hh
  have g1 : CGd X h1 := ⟨sg.eq (fun a ha => ⟨KK a, fun i => ⟨O a i (by omega), RR a i (Or.inl (by omega))⟩⟩), (KK _).trans K, (RR _ _ (Or.inr (by decide))).trans R0, (RR _ _ (Or.inr (by decide))).trans R1, (KK _).trans K2, (KK _).trans K3, i4, hX, fun k hk => ⟨(O _ _ (by decide)).trans (T k hk).1, (T k hk).2⟩⟩
  refine C_adv0 (d := d + 145) (q := 0) g1 (Nat.zero_le _) i6 i11 i12 (fun h2 f2 t2 => ?_)
  have g2 := g1.pt f2
  have sh1 : PSh h1 pl := by
    unfold PSh at sh ⊢
    simp only [KK, RR pl _ (Or.inl (show pl ≠ 201 by omega))]
    exact sh
  have l2 : CLn X pl h2 0 (.inl (0, fun _ => 0)) := ⟨g2, ⟨Nat.le_refl _, Nat.zero_le _, t2⟩, (f2.R _ _).trans i2, sh1.fp f2, fun q A e c j hc => by
    have eA : (fun _ => 0) = A := by cases e; rfl
    have c6 : c ≤ 6 := by unfold pin at hc; omega
    rw [← eA, f2.I (by unfold PT; omega), O _ _ (by omega)]
    exact z c j c6⟩
  have x2 : CFu X pl h0 h2 0 (.inl (0, fun _ => 0)) := by
    refine ⟨l2, fa.trans (f2.fa (fun a k p => Or.inl p.1)), hp, ⟨by rw [f2.N, nN]; omega, by rw [f2.S, nS]; omega⟩, fun q A e => ?_⟩
    have eA : (fun _ => 0) = A := by cases e; rfl
    have rl : ∀ l, l < 2 → hR h2 pl (6 + l) = 90 := fun l hl => by
      rw [f2.R, RR _ _ (Or.inl (by omega))]
      have : l = 0 ∨ l = 1 := by omega
      rcases this with rfl | rfl
      · exact r6
      · exact r7
    refine ⟨⟨by rw [f2.N, nN]; omega, by rw [f2.S, nS]; omega⟩, fun l hl => ?_⟩
    rw [rl l hl, ← eA, law0]
    exact ⟨⟨g2.1.1, Or.inl (by decide), fun j hj => absurd hj (Nat.not_lt_zero j)⟩, Or.inl rfl⟩
  have j2 : hI h2 201 3 = 0 := (f2.I (by unfold PT; omega)).trans i3
  simp only [psh_none, rX6_read_34, rX6_read_35, rX6_read_37, g2.2.1, Int.toNat_natCast, Int.natCast_nonneg, true_and, and_true, and_self, if_true, if_false, or_true, true_or, or_false, false_or, ne_eq, not_true_eq_false, not_false_eq_true, Nat.reduceLeDiff, Nat.reduceEqDiff, Nat.reduceLT, Nat.reduceAdd, Nat.reduceMul, Nat.reduceSub, Int.reduceLT, Int.reduceLE, Int.reduceEq, Int.reduceToNat, Int.reduceAdd, Int.reduceSub, Int.reduceMul, Int.reduceNeg, Int.cast_ofNat_Int, false_and, and_false]
  refine E_takeWord (d := d + 144) l2 (i := 0) (j := 1) (by decide) (by decide) rfl (fun h3 l3 f3 => ?_)
  have x3 := x2.fp f3 l3 (kp_mv eat_mono _)
  simp only [psh_none, rX6_read_40, rX6_read_41, rX6_read_44, rX6_read_45, rX6_read_47, l3.1.2.1, l3.2.2.1, Int.toNat_natCast, Int.natCast_nonneg, true_and, and_true, and_self, if_true, if_false, or_true, true_or, or_false, false_or, ne_eq, not_true_eq_false, not_false_eq_true, Nat.reduceLeDiff, Nat.reduceEqDiff, Nat.reduceLT, Nat.reduceAdd, Nat.reduceMul, Nat.reduceSub, Int.reduceLT, Int.reduceLE, Int.reduceEq, Int.reduceToNat, Int.reduceAdd, Int.reduceSub, Int.reduceMul, Int.reduceNeg, Int.cast_ofNat_Int, false_and, and_false]
  refine E_takeNum (d := d + 144) l3 (fun h4 v l4 e4 f4 => ?_)
  have x4 := x3.fp f4 l4 (kp_mv tkN_mono _)
  have pK := l4.2.2.2.1.2.1
  have q2 : (200 ≤ pl) = True := eq_true (Nat.le_trans (by decide) p3)
  have l5 := l4.up (c := 0) (j := 8) (Or.inl ⟨rfl, by decide, by decide⟩) (g := fun _ => nms X (tsl (mvn (eats X ((0 : Nat) : Int)) (.inl (0, fun _ => 0))))) e4
  have f5 : Fp (PW pl) h4 (wI h4 pl 8 v) := CLn.fx (X := X) (c := 0) (Or.inl ⟨rfl, by decide, by decide⟩)
  have x5 := x4.fp f5 l5 (kp_mp (fun A k hk => up_lx (show (33 : Nat) < 188 by decide) (by decide) k hk) _)
  simp only [psh_some, rX6_read_50, rX6_read_53, rX6_read_54, pK, q2, l5.1.2.1, hK_wI, g2.2.1, (f4.K 201).trans ((f3.K 201).trans g2.2.1), Int.toNat_natCast, Int.natCast_nonneg, true_and, and_true, and_self, if_true, if_false, or_true, true_or, or_false, false_or, ne_eq, not_true_eq_false, not_false_eq_true, Nat.reduceLeDiff, Nat.reduceEqDiff, Nat.reduceLT, Nat.reduceAdd, Nat.reduceMul, Nat.reduceSub, Int.reduceLT, Int.reduceLE, Int.reduceEq, Int.reduceToNat, Int.reduceAdd, Int.reduceSub, Int.reduceMul, Int.reduceNeg, Int.cast_ofNat_Int, false_and, and_false]
  refine E_end (d := d + 143) l5 (fun h6 l6 f6 => ?_)
  have x6 := x5.fp f6 l6 (kp_end X _)
  simp only [psh_none, rX6_read_57, rX6_read_58, Int.toNat_natCast, Int.natCast_nonneg, true_and, and_true, and_self, if_true, if_false, or_true, true_or, or_false, false_or, ne_eq, not_true_eq_false, not_false_eq_true, Nat.reduceLeDiff, Nat.reduceEqDiff, Nat.reduceLT, Nat.reduceAdd, Nat.reduceMul, Nat.reduceSub, Int.reduceLT, Int.reduceLE, Int.reduceEq, Int.reduceToNat, Int.reduceAdd, Int.reduceSub, Int.reduceMul, Int.reduceNeg, Int.cast_ofNat_Int, false_and, and_false]
  refine E_lines (X := X) hX 900 0 h6 1 _ (Nat.zero_le _) (by clear q2; omega) x6 ?_ pStart_inv k
  rw [f6.I (pw3 p3), f5.I (pw3 p3), f4.I (pw3 p3), f3.I (pw3 p3)]
  exact j2
