/-! the class reads a law -/
theorem pm_lx {c j : Nat} (h : pin c j) : pm c j ≤ 46 ∧ ¬ (3 ≤ pm c j ∧ pm c j ≤ 8) := by
  have r := pm_rng h
  unfold pin at h
  by_cases z : c = 0
  · have := r.1 z; omega
  · have q := r.2 z
    have hc : c = 1 ∨ c = 2 ∨ c = 3 ∨ c = 4 ∨ c = 5 ∨ c = 6 := by omega
    rcases hc with hc | hc | hc | hc | hc | hc
    · have := q.1 hc; omega
    · have := q.2.1 hc; omega
    · have := q.2.2.1 hc; omega
    · have := q.2.2.2.1 hc; omega
    · have := q.2.2.2.2.1 hc; omega
    · have := q.2.2.2.2.2 hc; omega
/-- what holds of the pool's cells behind a new row of codes -/
theorem lay_keep {X : TX} {pl law s b : Nat} {h0 h h4 : Hp} {r : LN} (x : CFu X pl h0 h b r) (f : Fp (PW pl) h h4) (g : CGd X h4) (hl : law < 2) : CGd X (lay h4 pl law s) ∧ (∀ i, hI (lay h4 pl law s) 201 i = hI h4 201 i) ∧ hR (lay h4 pl law s) 201 2 = pl ∧ PSh (lay h4 pl law s) pl ∧ Fa (CS pl) h0 (lay h4 pl law s) ∧ (∀ c j, pin c j → hI (lay h4 pl law s) (pl + c) j = hI h4 (pl + c) j) := by
  obtain ⟨x1, x2, x3, x4, x5⟩ := x
  have p3 := x1.2.2.2.1.1
  have n1 := x2.1
  have n2 := f.N
  have hp : pl + 6 < 200 + hN h4 := by omega
  have hn : 114 ≤ hN h4 := by omega
  have lf := lay_fa (law := law) (s := s) (h := h4) (pl := pl) (by omega)
  obtain ⟨k1, k2, k3, k4⟩ := lay_pl (law := law) (s := s) (h := h4) (pl := pl) (by omega)
  have sh := x1.2.2.2.1.fp f
  refine ⟨g.fa lf hn (fun a ha z => by have z : a = pl := z; omega), fun i => lf.I (by omega) (by show ¬ 201 = pl; omega) i, (lf.R (by omega) (by show ¬ 201 = pl; omega) 2).trans ((f.R _ _).trans x1.2.2.1), ?_, ?_, fun c j hc => ?_⟩
  · obtain ⟨s0, s1, s2, s3, s4, s5, s6, s7, t1, t2, t3, t4, t5, t6⟩ := sh
    have kk : ∀ i, 1 ≤ i → i ≤ 6 → hK (lay h4 pl law s) (pl + i) = hK h4 (pl + i) := fun i h1 h2 => lf.K (by omega) (by show ¬ pl + i = pl; omega)
    exact ⟨s0, k1.trans s1, (k4 0 (by omega)).trans s2, (k4 1 (by omega)).trans s3, (k4 2 (by omega)).trans s4, (k4 3 (by omega)).trans s5, (k4 4 (by omega)).trans s6, (k4 5 (by omega)).trans s7, (kk 1 (by decide) (by decide)).trans t1, (kk 2 (by decide) (by decide)).trans t2, (kk 3 (by decide) (by decide)).trans t3, (kk 4 (by decide) (by decide)).trans t4, (kk 5 (by decide) (by decide)).trans t5, (kk 6 (by decide) (by decide)).trans t6⟩
  · have a := (x2.trans (f.fa (S := CS pl) (fun a k p => by unfold PW at p; unfold CS; omega)))
    exact a.trans (lf.mono (fun q z => Or.inr (Or.inr (by have z : q = pl := z; omega))))
  · by_cases z : c = 0
    · rw [z]; exact k2 j
    · unfold pin at hc
      exact lf.I (by omega) (by show ¬ pl + c = pl; omega) j
theorem CFu.lay_b {X : TX} {pl law s b q : Nat} {A : Nat → Int} {h0 h h4 : Hp} {e : Int × Nat} (x : CFu X pl h0 h b (.inl (q, A))) (f : Fp (PW pl) h h4) (g : CGd X h4) (hl : law < 2) (t : CTok X h4 b (.inr e)) (h1 : s + q ≤ X.2) (h2 : q + 1 ≤ X.2) : CFu X pl h0 (lay h4 pl law s) b (.inr e) := by
  obtain ⟨a1, a2, a3, a4, a5, _⟩ := lay_keep (s := s) (law := law) x f g hl
  obtain ⟨n1, n2⟩ := lay_N (h := h4) (pl := pl) (law := law) (s := s)
  obtain ⟨⟨m1, m2⟩, _⟩ := x.2.2.2.2 q A rfl
  refine ⟨⟨a1, t.eq a2, a3, a4, fun q A z => by cases z⟩, a5, x.2.2.1, ⟨by rw [n1, f.N]; omega, by rw [n2, f.S]; omega⟩, fun q A z => by cases z⟩
theorem CFu.lay_o {X : TX} {pl law b q q' : Nat} {A : Nat → Int} {cs : List Int} {h0 h h4 : Hp} (x : CFu X pl h0 h b (.inl (q, A))) (a : AI A) (f : Fp (PW pl) h h4) (ph : PHas h4 pl A) (g : CGd X h4) (hl : law < 2) (t : CTok X h4 b (.inl q')) (h1 : cs.length + q ≤ q') (h2 : q + 1 ≤ q') (rw' : ∀ j, j < cs.length → hI h4 203 j = enc (cs.getD j 0)) : CFu X pl h0 (lay h4 pl law cs.length) b (.inl (q', lawPut A law cs)) := by
  obtain ⟨a1, a2, a3, a4, a5, a6⟩ := lay_keep (s := cs.length) (law := law) x f g hl
  obtain ⟨n1, n2⟩ := lay_N (h := h4) (pl := pl) (law := law) (s := cs.length)
  obtain ⟨⟨m1, m2⟩, lw⟩ := x.2.2.2.2 q A rfl
  have p3 := x.1.2.2.2.1.1
  have hp := x.2.2.1
  have n3 := x.2.1.1
  have n4 := f.N
  have hq : q' ≤ X.2 := t.2.1
  refine ⟨⟨a1, t.eq a2, a3, a4, fun q1 A1 z c j hc => ?_⟩, a5, hp, ⟨by rw [n1, f.N]; omega, by rw [n2, f.S]; omega⟩, fun q1 A1 z => ?_⟩
  · have e1 : lawPut A law cs = A1 := by cases z; rfl
    obtain ⟨z1, z2⟩ := pm_lx hc
    rw [← e1, a6 c j hc, lp_o (by omega) (by omega) (by omega) (by omega) (by omega)]
    exact ph c j hc
  · have e1 : q' = q1 ∧ lawPut A law cs = A1 := by cases z; exact ⟨rfl, rfl⟩
    rw [← e1.1, ← e1.2]
    refine ⟨⟨by rw [n1, f.N]; omega, by rw [n2, f.S]; omega⟩, fun l hl2 => ?_⟩
    obtain ⟨k1, k2, k3, k4⟩ := lay_pl (law := law) (s := cs.length) (h := h4) (pl := pl) (by omega)
    by_cases c : l = law
    · subst c
      rw [k3, lawA_put hl, n1]
      obtain ⟨r1, r2⟩ := lay_row (law := l) (s := cs.length) (h := h4) (pl := pl) (by omega) (by omega)
      refine ⟨⟨r1, Or.inr (by omega), fun j hj => (r2 j hj).trans (rw' j hj)⟩, Or.inr ⟨by omega, by omega⟩⟩
    · have lf := lay_fa (law := law) (s := cs.length) (h := h4) (pl := pl) (by omega)
      obtain ⟨⟨b1, b2, b3⟩, b4⟩ := lw l hl2
      rw [k4 (6 + l) (by omega), f.R, lawA_puo hl hl2 c (a.2.1 l hl2).1, n1]
      have ne : ¬ hR h pl (6 + l) = pl := by omega
      have lt : hR h pl (6 + l) < 200 + hN h4 := by omega
      refine ⟨⟨(lf.K lt ne).trans ((f.K _).trans b1), b2, fun j hj => (lf.I lt ne j).trans ((f.I ?_).trans (b3 j hj))⟩, by omega⟩
      clear b1 b3
      unfold PW
      omega
theorem cp_1 {s : Nat} (h : s < 900) : ((s : Int) = 900) = False ∧ ((s : Int) ≤ 100000) = True ∧ ((s : Int) ≤ 900) = True ∧ ((900 : Int) ≤ (s : Int)) = False ∧ ((900 : Int) < (s : Int)) = False := ⟨eq_false (by omega), eq_true (by omega), eq_true (by omega), eq_false (by omega), eq_false (by omega)⟩
theorem S_copy {d : Nat} {Q : Option PV → Hp → Prop} {h : Hp} {s : Nat} (K : hK h 203 = (21, 900)) (hs : s < 900) (hn : 114 ≤ hN h) : WP (d + 1) mJ7_copyOf_59c91 0 [some (.inr (.inr 203)), some (.inl (s : Int)), none] [] h Q = Q (some (.inr (.inr (200 + hN h)))) (cpI (nw h 21 s s) 203 0 (200 + hN h) 0 s) := by
  obtain ⟨c1, c2, c3, c4, c5⟩ := cp_1 hs
  have c8 : ((s : Int) < 900) = True := eq_true (Int.ofNat_lt.mpr hs)
  have c6 : (200 ≤ 200 + hN h) = True := eq_true (Nat.le_add_right _ _)
  have c7 : (203 = 200 + hN h) = False := eq_false (by omega)
  simp only [rJ7_copyOf_59c91_0, rJ7_copyOf_59c91_1, rJ7_copyOf_59c91_2, rJ7_copyOf_59c91_3, rJ7_copyOf_59c91_14, rJ7_copyOf_59c91_15, rJ7_copyOf_59c91_17, rJ7_copyOf_59c91_18, rJ7_copyOf_59c91_19, rJ7_copyOf_59c91_20, rJ7_copyOf_59c91_21, rJ7_copyOf_59c91_22, rJ7_copyOf_59c91_23, rJ7_copyOf_59c91_24, rJ7_copyOf_59c91_25, rJ7_copyOf_59c91_28, rJ7_copyOf_59c91_31, rJ7_copyOf_59c91_32, rJ9_min_7cf53_0, rJ9_min_7cf53_1, rJ9_min_7cf53_2, rJ9_min_7cf53_5, rJ9_min_7cf53_6, rJ9_min_7cf53_9, rJ9_min_7cf53_10, K, c1, c2, c3, c4, c5, c6, c7, c8, psh_some, hK_nw, Int.zero_add, Int.le_refl, Int.toNat_natCast, Int.natCast_nonneg, true_and, and_true, and_self, if_true, if_false, or_true, true_or, or_false, false_or, ne_eq, not_true_eq_false, not_false_eq_true, Nat.reduceLeDiff, Nat.reduceEqDiff, Nat.reduceLT, Nat.reduceAdd, Nat.reduceMul, Nat.reduceSub, Int.reduceLT, Int.reduceLE, Int.reduceEq, Int.reduceToNat, Int.reduceAdd, Int.reduceSub, Int.reduceMul, Int.reduceNeg, Int.cast_ofNat_Int, false_and, and_false]
theorem PL_PW {pl : Nat} (a k : Nat) (p : PL a k) : PW pl a k := by unfold PL at p; unfold PW; omega
theorem st_0 {b q : Nat} (h : 1 ≤ q) : ([] : List Int).length + (q - 1 + 1) ≤ q := by simp; omega
theorem CTok.b0 {X : TX} {h : Hp} {b q : Nat} (t : CTok X h b (.inl q)) : CTok X h b (.inl q) := t
theorem E_lawG {d : Nat} {Q : Option PV → Hp → Prop} {X : TX} {pl law b : Nat} {h0 h : Hp} {r : LN} {S : PS → PS} (sp : CMt X law (d + 149) mX6_readSum [some (.inr (.inr 201)), some (.inl ((0 : Nat) : Int)), none, none] S) (sb : ∀ e, S (.inr e) = .inr e) (sr : ∀ q q' cs, S (.inl (q, [])) = .inl (q', cs) → q ≤ q' ∧ (q ≤ X.2 → q' ≤ X.2) ∧ cs.length + q ≤ q' ∧ trun (5 + law) cs [] = some [false]) (hl : law < 2) (x : CFu X pl h0 h b r) (iv : Inv X AI r) (l10 : hI h 201 10 = (law : Int)) (c : 0 ≤ tkl X r) (c5 : tkl X r ≠ 25) (c6 : tkl X r ≠ 26) (k : ∀ h5, hK h5 pl = (5, 0) → hI h5 201 3 = hI h 201 3 → CFu X pl h0 (wR h5 pl (6 + law) (200 + hN h)) b (pLawG X law S r) → Q (some (.inr (.inr (200 + hN h)))) h5) : WP (d + 150) mX6_readLaw 0 [some (.inr (.inr 201))] [] h Q := by
  cases r with
  | inr e => exact absurd c (by show ¬ (0 : Int) ≤ -1; decide)
  | inl y =>
    obtain ⟨q, A⟩ := y
    have K := x.1.1.2.1
    have p3 := x.1.2.2.2.1.1
    have h9 := x.1.1.2.2.2.2.2.2.2.1
    have hp := x.2.2.1
    have nn := x.2.1.1
    have iv0 := iv q A rfl
    have a := iv0.1
    have g0 : q + 1 ≤ tBh X q := tBh_gt c5
    have g1 : tBh X q ≤ X.2 := tBh_le iv0.2.2
    have hn : 114 ≤ hN h := by omega
    simp only [rX6_readLaw_0, rX6_readLaw_1, K, Int.toNat_natCast, Int.natCast_nonneg, true_and, and_true, and_self, if_true, if_false, or_true, true_or, or_false, false_or, ne_eq, not_true_eq_false, not_false_eq_true, Nat.reduceLeDiff, Nat.reduceEqDiff, Nat.reduceLT, Nat.reduceAdd, Nat.reduceMul, Nat.reduceSub, Int.reduceLT, Int.reduceLE, Int.reduceEq, Int.reduceToNat, Int.reduceAdd, Int.reduceSub, Int.reduceMul, Int.reduceNeg, Int.cast_ofNat_Int, false_and, and_false]
    refine E_adv (d := d + 143) x.1 c c5 c6 (fun h1 x1 f1 => ?_)
    simp only [psh_none, rX6_readLaw_4, rX6_readLaw_5, rX6_readLaw_7, x1.1.2.1, Int.toNat_natCast, Int.natCast_nonneg, true_and, and_true, and_self, if_true, if_false, or_true, true_or, or_false, false_or, ne_eq, not_true_eq_false, not_false_eq_true, Nat.reduceLeDiff, Nat.reduceEqDiff, Nat.reduceLT, Nat.reduceAdd, Nat.reduceMul, Nat.reduceSub, Int.reduceLT, Int.reduceLE, Int.reduceEq, Int.reduceToNat, Int.reduceAdd, Int.reduceSub, Int.reduceMul, Int.reduceNeg, Int.cast_ofNat_Int, false_and, and_false]
    refine E_takeSign (d := d + 142) (z := 58) x1 (by decide) (fun h2 x2 f2 => ?_)
    simp only [psh_none, rX6_readLaw_10, rX6_readLaw_11, rX6_readLaw_12, rX6_readLaw_15, rX6_readLaw_16, rX6_readLaw_17, x2.1.2.1, hK_wI, Int.toNat_natCast, Int.natCast_nonneg, true_and, and_true, and_self, if_true, if_false, or_true, true_or, or_false, false_or, ne_eq, not_true_eq_false, not_false_eq_true, Nat.reduceLeDiff, Nat.reduceEqDiff, Nat.reduceLT, Nat.reduceAdd, Nat.reduceMul, Nat.reduceSub, Int.reduceLT, Int.reduceLE, Int.reduceEq, Int.reduceToNat, Int.reduceAdd, Int.reduceSub, Int.reduceMul, Int.reduceNeg, Int.cast_ofNat_Int, false_and, and_false]
    have f12 := f1.trans f2
    have f3 : Fp (PW pl) h (wI h2 201 9 0) := f12.wI (Or.inl ⟨rfl, Or.inr (Or.inr (Or.inr (Or.inr (Or.inl rfl))))⟩) _
    have g3 : CGd X (wI h2 201 9 0) := x2.1.fp (P := fun a k => a = 201 ∧ k = 9) (Fp.wI (P := fun a k => a = 201 ∧ k = 9) (Fp.refl _ h2) ⟨rfl, rfl⟩ _) (fun a k p => by have p : a = 201 ∧ k = 9 := p; omega)
    have J : ∀ i, i ≠ 9 → hI (wI h2 201 9 0) 201 i = hI h2 201 i := fun i hi => by rw [hI_wI, if_neg (fun z => hi z.2)]
    have l3 : hI (wI h2 201 9 0) 201 10 = (law : Int) := (J 10 (by decide)).trans ((f12.I (by unfold PW; omega)).trans l10)
    have s3 : hI (wI h2 201 9 0) 201 9 = 0 := by rw [hI_wI, if_pos ⟨rfl, rfl⟩]
    have t2 := x2.2.1
    have fin : ∀ (h4 : Hp) (s : Nat), Fp PL (wI h2 201 9 0) h4 → CGd X h4 → hI h4 201 9 = (s : Int) → s < 900 → CFu X pl h0 (lay h4 pl law s) b (pLawG X law S (.inl (q, A))) → WP (d + 150) mX6_readLaw 20 [some (.inr (.inr 201))] [] h4 Q := fun h4 s f4 g4 e9 hs cf => by
      have n4 : hN h4 = hN h := f4.N.trans f3.N
      have pk : hK h4 pl = (5, 0) := (f4.K _).trans ((f3.K _).trans x.1.2.2.2.1.2.1)
      simp only [rX6_readLaw_20, rX6_readLaw_21, rX6_readLaw_24, rX6_readLaw_25, rX6_readLaw_28, g4.2.1, g4.2.2.2.1, e9, S_copy (d := d + 148) g4.2.2.2.2.2.1 hs (by rw [n4]; exact hn), psh_some, rX6_readLaw_31, Int.toNat_natCast, Int.natCast_nonneg, true_and, and_true, and_self, if_true, if_false, or_true, true_or, or_false, false_or, ne_eq, not_true_eq_false, not_false_eq_true, Nat.reduceLeDiff, Nat.reduceEqDiff, Nat.reduceLT, Nat.reduceAdd, Nat.reduceMul, Nat.reduceSub, Int.reduceLT, Int.reduceLE, Int.reduceEq, Int.reduceToNat, Int.reduceAdd, Int.reduceSub, Int.reduceMul, Int.reduceNeg, Int.cast_ofNat_Int, false_and, and_false]
      rw [n4]
      have cf : CFu X pl h0 (wR (cpI (nw h4 21 s s) 203 0 (200 + hN h4) 0 s) pl (6 + law) (200 + hN h4)) b (pLawG X law S (.inl (q, A))) := cf
      rw [n4] at cf
      refine k _ ?_ ?_ cf
      · rw [hK_cp, hK_nw, if_neg (by omega)]
        exact pk
      · rw [hI_cp, if_neg (by omega), hI_nw, if_neg (by omega), f4.I (by unfold PL; omega), f3.I (by unfold PW; omega)]
    cases hr : mvn (eats X (sgn 58)) (mvn (nxs X) (.inl (q, A))) with
    | inr e =>
      have pe := pLawG_b (X := X) (law := law) (S := S) (r := .inl (q, A)) hr
      rw [pe] at fin
      rw [hr] at t2
      refine sp _ _ (.inr e) b (X.2 - 1) ⟨g3, l3, ⟨t2.1, (J 7 (by decide)).trans t2.2.1, (J 11 (by decide)).trans t2.2.2.1, (J 12 (by decide)).trans t2.2.2.2⟩, ⟨0, s3, by omega⟩⟩ (fun h4 x4 f4 => ?_)
      rw [sb e] at x4
      obtain ⟨y1, y2, y3, s, y4, y5⟩ := x4
      have ss : s + q ≤ X.2 := by omega
      have s9 : s < 900 := by omega
      have q1 : q + 1 ≤ X.2 := by omega
      simp only [psh_none]
      exact fin h4 s f4 y1 y4 s9 (x.lay_b (f3.trans (f4.mono PL_PW)) y1 hl y3 ss q1)
    | inl y =>
      obtain ⟨q2, A2⟩ := y
      have pe := pLawG_o (X := X) (law := law) (S := S) (r := .inl (q, A)) hr
      rw [pe] at fin
      rw [hr] at t2
      obtain ⟨q1, e1, e2⟩ := mvn_inl hr
      obtain ⟨q0, e3, e4⟩ := mvn_inl e1
      have eA : q = q0 ∧ A = A2 := by cases e3; exact ⟨rfl, rfl⟩
      have e4 : tBh X q0 = q1 := by cases e4; rfl
      have m1 := eat_mono q1 q2 (by rw [← e4, ← eA.1]; exact g1) e2
      have q12 : q + 1 ≤ q2 := by rw [← eA.1] at e4; omega
      have ph2 : PHas h2 pl A := by rw [eA.2]; exact x2.2.2.2.2 q2 A2 hr
      rw [← eA.2] at fin
      obtain ⟨u1, u2, u3, u4, u5⟩ := t2
      refine sp _ _ (.inl (q2, [])) b (q2 - 1) ⟨g3, l3, ⟨by show b ≤ q2; have u1 : b + 1 + 1 ≤ q2 := u1; omega, u2, ?_, ?_, ?_⟩, ⟨st_0 (b := b) (by omega), s3, fun j hj => absurd hj (Nat.not_lt_zero j)⟩⟩ (fun h4 x4 f4 => ?_)
      · rw [J 5 (by decide)]; exact u3
      · rw [J 7 (by decide), J 11 (by decide), J 12 (by decide)]; exact u4
      · rw [J 7 (by decide), J 11 (by decide), J 12 (by decide), J 6 (by decide), J 8 (by decide)]; exact u5
      simp only [psh_none]
      cases hy : S (.inl (q2, [])) with
      | inr e =>
        rw [hy] at x4 fin
        obtain ⟨y1, y2, y3, s, y4, y5⟩ := x4
        have ss : s + q ≤ X.2 := by omega
        have s9 : s < 900 := by omega
        have q1 : q + 1 ≤ X.2 := by omega
        exact fin h4 s f4 y1 y4 s9 (x.lay_b (f3.trans (f4.mono PL_PW)) y1 hl y3 ss q1)
      | inl z =>
        obtain ⟨q3, cs⟩ := z
        rw [hy] at x4 fin
        obtain ⟨b1, b2, b3, b4⟩ := sr _ _ _ hy
        obtain ⟨y1, y2, y3, y4, y5, y6⟩ := x4
        have y3' : q3 ≤ X.2 := y3.2.1
        have s9 : cs.length < 900 := by omega
        have l1 : cs.length + q ≤ q3 := by omega
        have l2 : q + 1 ≤ q3 := by omega
        have ph4 : PHas h4 pl A := fun c j hc => by
          rw [f4.I (by unfold PL; unfold pin at hc; omega), hI_wI, if_neg (by omega)]
          exact ph2 c j hc
        exact fin h4 cs.length f4 y1 y5 s9 (x.lay_o a (f3.trans (f4.mono PL_PW)) ph4 y1 hl y3 l1 l2 y6)
theorem E_law {d : Nat} {Q : Option PV → Hp → Prop} {X : TX} {pl law b : Nat} {h0 h : Hp} {r : LN} (hl : law < 2) (x : CFu X pl h0 h b r) (iv : Inv X AI r) (l10 : hI h 201 10 = (law : Int)) (c : 0 ≤ tkl X r) (c5 : tkl X r ≠ 25) (c6 : tkl X r ≠ 26) (k : ∀ h5, hK h5 pl = (5, 0) → hI h5 201 3 = hI h 201 3 → CFu X pl h0 (wR h5 pl (6 + law) (200 + hN h)) b (pLaw X law r) → Q (some (.inr (.inr (200 + hN h)))) h5) : WP (d + 150) mX6_readLaw 0 [some (.inr (.inr 201))] [] h Q :=
  E_lawG (S := (lvl X law 6).1) ((L_lvl (X := X) hl 6 0 rfl).1 (d + 149) (by omega)) (lvl_typ (X := X) hl 6 (Nat.le_refl _)).1.1 (fun q q' cs e => law_read hl e) hl x iv l10 c c5 c6 k
