/-! the class's tokens: which it is, taking it -/
theorem C_fail {d : Nat} {Q : Option PV → Hp → Prop} {X : TX} {h : Hp} {b : Nat} {s : TS} {z : Int} (g : CGd X h) (t : CTok X h b s) (hz : z ≠ 0) (k : ∀ h', CGd X h' → Fp PT h h' → CTok X h' b (fls X z s) → Q none h') : WP d mX6_fail 0 [some (.inr (.inr 201)), some (.inl z)] [] h Q := by
  rw [S_fail g.2.1]
  have f : Fp PT h (cFl h z) := by
    unfold cFl
    split
    · exact (((Fp.refl PT h).wI (by unfold PT; omega) _).wI (by unfold PT; omega) _).wI (by unfold PT; omega) _
    · exact (Fp.refl PT h).wI (by unfold PT; omega) _
  refine k _ (g.pt f) f ?_
  cases s with
  | inl q =>
    obtain ⟨_, _, t1, t2, t3⟩ := t
    unfold fls CTok cFl
    by_cases c : tk X q = 26
    · obtain ⟨u1, u2, u3⟩ := t2 c
      simp only [u2, c, hI_wI, u3, Int.toNat_natCast, Int.natCast_nonneg, true_and, and_true, and_self, if_true, if_false, or_true, true_or, or_false, false_or, ne_eq, not_true_eq_false, not_false_eq_true, Nat.reduceLeDiff, Nat.reduceEqDiff, Nat.reduceLT, Nat.reduceAdd, Nat.reduceMul, Nat.reduceSub, Int.reduceLT, Int.reduceLE, Int.reduceEq, Int.reduceToNat, Int.reduceAdd, Int.reduceSub, Int.reduceMul, Int.reduceNeg, Int.cast_ofNat_Int, false_and, and_false]
    · obtain ⟨u1, u2, u3, _⟩ := t3 c
      simp only [u2, c, hI_wI, t1, hz, Int.toNat_natCast, Int.natCast_nonneg, true_and, and_true, and_self, if_true, if_false, or_true, true_or, or_false, false_or, ne_eq, not_true_eq_false, not_false_eq_true, Nat.reduceLeDiff, Nat.reduceEqDiff, Nat.reduceLT, Nat.reduceAdd, Nat.reduceMul, Nat.reduceSub, Int.reduceLT, Int.reduceLE, Int.reduceEq, Int.reduceToNat, Int.reduceAdd, Int.reduceSub, Int.reduceMul, Int.reduceNeg, Int.cast_ofNat_Int, false_and, and_false]
  | inr e =>
    obtain ⟨e1, e2⟩ := e
    obtain ⟨u1, u2, u3, u4⟩ := t
    have u1 : e1 ≠ 0 := u1
    have u3 : hI h 201 11 = e1 := u3
    unfold fls CTok cFl
    simp only [u3, u1, hI_wI, u4, Int.toNat_natCast, Int.natCast_nonneg, true_and, and_true, and_self, if_true, if_false, or_true, true_or, or_false, false_or, ne_eq, not_true_eq_false, not_false_eq_true, Nat.reduceLeDiff, Nat.reduceEqDiff, Nat.reduceLT, Nat.reduceAdd, Nat.reduceMul, Nat.reduceSub, Int.reduceLT, Int.reduceLE, Int.reduceEq, Int.reduceToNat, Int.reduceAdd, Int.reduceSub, Int.reduceMul, Int.reduceNeg, Int.cast_ofNat_Int, false_and, and_false]
theorem CTok.weak {X : TX} {h : Hp} {b b' : Nat} {s : TS} (t : CTok X h b s) (hb : b' ≤ b) : CTok X h b' s := by
  cases s with
  | inl q => exact ⟨Nat.le_trans hb t.1, t.2⟩
  | inr e => exact t
theorem C_adv {d : Nat} {Q : Option PV → Hp → Prop} {X : TX} {h : Hp} {b : Nat} {s : TS} (g : CGd X h) (t : CTok X h b s) (h0 : 0 ≤ tks X s) (h1 : tks X s ≠ 25) (h2 : tks X s ≠ 26) (k : ∀ h', CGd X h' → Fp PT h h' → CTok X h' (b + 1) (nxs X s) → Q none h') : WP (d + 6) mX6_advance 0 [some (.inr (.inr 201))] [] h Q := by
  cases s with
  | inl q =>
    obtain ⟨t0, t1, _, _, t3⟩ := t
    obtain ⟨_, u1, u2, u3, _⟩ := t3 h2
    have gt : q + 1 ≤ tBh X q := tBh_gt h1
    exact C_adv0 g (tBh_le t1) u3 u1 u2 (fun h' f t' => k h' (g.pt f) f ⟨Nat.le_trans (Nat.add_le_add_right t0 1) gt, tBh_le t1, t'⟩)
  | inr e => exact absurd h0 (by show ¬ (0 : Int) ≤ -1; decide)
theorem ck_3 {X : TX} {q : Nat} (h : ck (tk X q) = 3) (h2 : tk X q ≠ 26) : tAt X q < X.2 ∧ tk X q = sgn (X.1 (tAt X q)) := by
  by_cases c0 : X.2 ≤ tAt X q
  · have e : tk X q = 25 := by unfold tk; rw [if_pos c0]
    rw [e] at h; exact absurd h (by decide)
  · by_cases c1 : cL (X.1 (tAt X q))
    · rw [(tk_L c0 c1).2.1] at h; exact absurd h (by decide)
    · by_cases c2 : cD (X.1 (tAt X q))
      · have e := (tk_D c0 c1 c2).2
        split at e
        · exact absurd e h2
        · rw [e] at h; exact absurd h (by decide)
      · exact ⟨by omega, (tk_S c0 c1 c2).2⟩
theorem ck_not {k z : Int} (h : ck k ≠ 3) (hz : 30 ≤ z) : ¬ k = z := fun e => h (by unfold ck; rw [if_neg (by omega), if_neg (by omega), if_neg (by omega)])
theorem sgn_30 {z : Int} (h : sgn z ≠ 26) : 30 ≤ sgn z ∧ 0 ≤ z ∧ z ≤ 127 := by
  have a := sgn_ge z
  have b := sgi_sgn h
  refine ⟨by omega, ?_⟩
  rw [← b]
  unfold sgi
  repeat' split
  all_goals omega
theorem n900 {a m : Nat} (h : a < m) (hm : m ≤ 900) : ((a : Int) < 900) = True := eq_true (by omega)
theorem C_isSign {d : Nat} {Q : Option PV → Hp → Prop} {X : TX} {h : Hp} {b : Nat} {s : TS} {z : Int} (g : CGd X h) (t : CTok X h b s) (hz : sgn z ≠ 26) : WP d mX6_isSign 0 [some (.inr (.inr 201)), some (.inl z)] [] h Q = Q (some (.inl (zb (tks X s = sgn z)))) h := by
  obtain ⟨z1, z2, z3⟩ := sgn_30 hz
  have K := g.2.1
  cases s with
  | inl q =>
    obtain ⟨_, _, t1, t2, t3⟩ := t
    by_cases c : tk X q = 26
    · obtain ⟨u1, _⟩ := t2 c
      rw [zb_f (show ¬ tks X (.inl q) = sgn z from fun e => by rw [← e] at hz; exact hz c)]
      simp only [rX6_isSign_0, rX6_isSign_1, rX6_isSign_4, rX6_isSign_5, rX6_isSign_8, rX6_isSign_9, rX6_isSign_12, rX6_isSign_13, rX6_isSign_16, rX6_isSign_17, rX6_isSign_18, rX6_isSign_21, rX6_isSign_22, rX6_isSign_25, rX6_isSign_26, K, u1, Int.toNat_natCast, Int.natCast_nonneg, true_and, and_true, and_self, if_true, if_false, or_true, true_or, or_false, false_or, ne_eq, not_true_eq_false, not_false_eq_true, Nat.reduceLeDiff, Nat.reduceEqDiff, Nat.reduceLT, Nat.reduceAdd, Nat.reduceMul, Nat.reduceSub, Int.reduceLT, Int.reduceLE, Int.reduceEq, Int.reduceToNat, Int.reduceAdd, Int.reduceSub, Int.reduceMul, Int.reduceNeg, Int.cast_ofNat_Int, false_and, and_false]
    · obtain ⟨u1, _⟩ := t3 c
      by_cases c3 : ck (tk X q) = 3
      · obtain ⟨l, e⟩ := ck_3 c3 c
        have l9 := n900 l g.2.2.2.2.2.2.2.1
        obtain ⟨sg, _, R0, R1, K2, K3, I4, hX, T⟩ := g
        obtain ⟨x1, x2, x3⟩ := T _ l
        rw [c3] at u1
        have q1 : (w8 (X.1 (tAt X q)) = z) = (tks X (.inl q) = sgn z) := by
          rw [w8_eq x2 x3 z2 z3]
          exact propext ((sgn_is hz).symm.trans (by show sgn (X.1 (tAt X q)) = sgn z ↔ tk X q = sgn z; rw [e]))
        by_cases c4 : tks X (.inl q) = sgn z
        · have q2 := q1.trans (eq_true c4)
          rw [zb_t c4]
          simp only [rX6_isSign_0, rX6_isSign_1, rX6_isSign_4, rX6_isSign_5, rX6_isSign_8, rX6_isSign_9, rX6_isSign_12, rX6_isSign_13, rX6_isSign_16, rX6_isSign_17, rX6_isSign_18, rX6_isSign_21, rX6_isSign_22, rX6_isSign_25, rX6_isSign_26, K, R0, K2, u1, t1, x1, l9, q2, Int.toNat_natCast, Int.natCast_nonneg, true_and, and_true, and_self, if_true, if_false, or_true, true_or, or_false, false_or, ne_eq, not_true_eq_false, not_false_eq_true, Nat.reduceLeDiff, Nat.reduceEqDiff, Nat.reduceLT, Nat.reduceAdd, Nat.reduceMul, Nat.reduceSub, Int.reduceLT, Int.reduceLE, Int.reduceEq, Int.reduceToNat, Int.reduceAdd, Int.reduceSub, Int.reduceMul, Int.reduceNeg, Int.cast_ofNat_Int, false_and, and_false]
        · have q2 := q1.trans (eq_false c4)
          rw [zb_f c4]
          simp only [rX6_isSign_0, rX6_isSign_1, rX6_isSign_4, rX6_isSign_5, rX6_isSign_8, rX6_isSign_9, rX6_isSign_12, rX6_isSign_13, rX6_isSign_16, rX6_isSign_17, rX6_isSign_18, rX6_isSign_21, rX6_isSign_22, rX6_isSign_25, rX6_isSign_26, K, R0, K2, u1, t1, x1, l9, q2, Int.toNat_natCast, Int.natCast_nonneg, true_and, and_true, and_self, if_true, if_false, or_true, true_or, or_false, false_or, ne_eq, not_true_eq_false, not_false_eq_true, Nat.reduceLeDiff, Nat.reduceEqDiff, Nat.reduceLT, Nat.reduceAdd, Nat.reduceMul, Nat.reduceSub, Int.reduceLT, Int.reduceLE, Int.reduceEq, Int.reduceToNat, Int.reduceAdd, Int.reduceSub, Int.reduceMul, Int.reduceNeg, Int.cast_ofNat_Int, false_and, and_false]
      · rw [zb_f (show ¬ tks X (.inl q) = sgn z from ck_not c3 z1)]
        have u4 : (hI h 201 7 = 3) = False := eq_false (by rw [u1]; exact c3)
        simp only [rX6_isSign_0, rX6_isSign_1, rX6_isSign_4, rX6_isSign_5, rX6_isSign_8, rX6_isSign_9, rX6_isSign_12, rX6_isSign_13, rX6_isSign_16, rX6_isSign_17, rX6_isSign_18, rX6_isSign_21, rX6_isSign_22, rX6_isSign_25, rX6_isSign_26, K, u4, Int.toNat_natCast, Int.natCast_nonneg, true_and, and_true, and_self, if_true, if_false, or_true, true_or, or_false, false_or, ne_eq, not_true_eq_false, not_false_eq_true, Nat.reduceLeDiff, Nat.reduceEqDiff, Nat.reduceLT, Nat.reduceAdd, Nat.reduceMul, Nat.reduceSub, Int.reduceLT, Int.reduceLE, Int.reduceEq, Int.reduceToNat, Int.reduceAdd, Int.reduceSub, Int.reduceMul, Int.reduceNeg, Int.cast_ofNat_Int, false_and, and_false]
  | inr e =>
    have u1 := t.2.1
    rw [zb_f (show ¬ tks X (.inr e) = sgn z from fun e' => by have : (-1 : Int) = sgn z := e'; omega)]
    simp only [rX6_isSign_0, rX6_isSign_1, rX6_isSign_4, rX6_isSign_5, rX6_isSign_8, rX6_isSign_9, rX6_isSign_12, rX6_isSign_13, rX6_isSign_16, rX6_isSign_17, rX6_isSign_18, rX6_isSign_21, rX6_isSign_22, rX6_isSign_25, rX6_isSign_26, K, u1, Int.toNat_natCast, Int.natCast_nonneg, true_and, and_true, and_self, if_true, if_false, or_true, true_or, or_false, false_or, ne_eq, not_true_eq_false, not_false_eq_true, Nat.reduceLeDiff, Nat.reduceEqDiff, Nat.reduceLT, Nat.reduceAdd, Nat.reduceMul, Nat.reduceSub, Int.reduceLT, Int.reduceLE, Int.reduceEq, Int.reduceToNat, Int.reduceAdd, Int.reduceSub, Int.reduceMul, Int.reduceNeg, Int.cast_ofNat_Int, false_and, and_false]
/-- does the text go on as w from i on -/
def mtc (t : Nat → Int) (a : Nat) (w : List Int) : Nat → Nat → Int
  | 0, _ => 1
  | n + 1, i => if t (a + i) = w.getD i 0 then mtc t a w n (i + 1) else 0
theorem mtc_is (t : Nat → Int) (a : Nat) (w : List Int) : ∀ n i, mtc t a w n i = zb (∀ j, j < n → t (a + (i + j)) = w.getD (i + j) 0) := by
  intro n
  induction n with
  | zero => intro i; rw [zb_t (fun j hj => absurd hj (by omega))]; rfl
  | succ n ih =>
    intro i
    show (if t (a + i) = w.getD i 0 then mtc t a w n (i + 1) else 0) = _
    by_cases c : t (a + i) = w.getD i 0
    · rw [if_pos c, ih (i + 1)]
      refine zb_c ⟨fun z j hj => ?_, fun z j hj => ?_⟩
      · cases j with
        | zero => exact c
        | succ j => have := z j (by omega); rwa [show i + 1 + j = i + (j + 1) by omega] at this
      · have := z (j + 1) (by omega); rwa [show i + (j + 1) = i + 1 + j by omega] at this
    · rw [if_neg c, zb_f (fun z => c (by have := z 0 (by omega); rwa [Nat.add_zero] at this))]
theorem wd_is {X : TX} {a b : Nat} {w : List Int} : wdOf X a b = w ↔ b - a = w.length ∧ ∀ j, j < w.length → X.1 (a + (0 + j)) = w.getD (0 + j) 0 := by
  constructor
  · intro h
    have e : (wdOf X a b).length = b - a := by unfold wdOf; rw [List.length_map, List.length_range]
    rw [h] at e
    refine ⟨e.symm, fun j hj => ?_⟩
    rw [Nat.zero_add, ← h, List.getD, List.getElem?_eq_getElem (by rw [h]; exact hj)]
    unfold wdOf
    simp
  · rintro ⟨h1, h2⟩
    refine List.ext_getElem (by unfold wdOf; rw [List.length_map, List.length_range]; exact h1) (fun j h3 h4 => ?_)
    have := h2 j h4
    rw [Nat.zero_add, List.getD, List.getElem?_eq_getElem h4] at this
    have this : X.1 (a + j) = w[j] := this
    rw [← this]
    show ((List.range (b - a)).map (fun i => X.1 (a + i)))[j]'(by simpa [wdOf] using h3) = _
    rw [List.getElem_map, List.getElem_range]
theorem m_lt {i n m : Nat} (h : m = i + (n + 1)) (hm : m ≤ 200) : ((i : Int) < (m : Int)) = True ∧ i ≤ 1000 ∧ (i : Int) < (m : Int) := ⟨eq_true (by omega), by omega, by omega⟩
theorem m_ad {a i m b : Nat} (h : a + i < m) (hm : m ≤ 900) : w32 ((a : Int) + (i : Int)) = ((a + i : Nat) : Int) ∧ (((a + i : Nat) : Int) < 900) = True := ⟨by rw [w32_i (by omega) (by omega)]; omega, eq_true (by omega)⟩
theorem C_iwl {d : Nat} {Q : Option PV → Hp → Prop} {X : TX} {h : Hp} {s a : Nat} {w : List Int} (g : CGd X h) (x : StrAt h s w) (e5 : hI h 201 5 = (a : Int)) (la : a + w.length ≤ X.2) : ∀ n i, w.length = i + n → WP (d + 5) mX6_isWord 28 [some (.inr (.inr 201)), some (.inr (.inr s)), some (.inl (i : Int))] [] h Q = Q (some (.inl (mtc X.1 a w n i))) h := by
  intro n
  have K := g.2.1
  have KS := x.1
  induction n with
  | zero =>
    intro i hi
    have l := p_ge hi
    rw [rX6_isWord_28]
    simp only [rX6_isWord_29, rX6_isWord_30, rX6_isWord_33, rX6_isWord_36, rX6_isWord_37, rX6_isWord_40, rX6_isWord_41, rX6_isWord_44, rX6_isWord_45, rX6_isWord_46, rX6_isWord_47, rX6_isWord_48, rX6_isWord_49, rX6_isWord_52, rX6_isWord_55, rX6_isWord_56, rX6_isWord_57, rX6_isWord_60, rX6_isWord_63, rX6_isWord_64, K, KS, S_len x, psh_some, l, mtc, Int.toNat_natCast, Int.natCast_nonneg, true_and, and_true, and_self, if_true, if_false, or_true, true_or, or_false, false_or, ne_eq, not_true_eq_false, not_false_eq_true, Nat.reduceLeDiff, Nat.reduceEqDiff, Nat.reduceLT, Nat.reduceAdd, Nat.reduceMul, Nat.reduceSub, Int.reduceLT, Int.reduceLE, Int.reduceEq, Int.reduceToNat, Int.reduceAdd, Int.reduceSub, Int.reduceMul, Int.reduceNeg, Int.cast_ofNat_Int, false_and, and_false]
  | succ n ih =>
    intro i hi
    obtain ⟨l, l1, l2⟩ := m_lt hi x.2.2.2.2.1
    obtain ⟨m1, m2⟩ := m_ad (b := 0) (show a + i < X.2 by omega) g.2.2.2.2.2.2.2.1
    obtain ⟨x1, x2, x3⟩ := g.2.2.2.2.2.2.2.2 (a + i) (by omega)
    obtain ⟨_, c2, c3⟩ := x.2.2.2.2.2 i
    have R0 := g.2.2.1
    have K2 := g.2.2.2.2.1
    have ch := fun (Q : Option PV → Hp → Prop) => S_chr (d := d) (Q := Q) x (z := (i : Int)) (Int.natCast_nonneg i) l2
    rw [Int.toNat_natCast] at ch
    rw [rX6_isWord_28]
    have q1 := w8_eq x2 x3 c2 c3
    by_cases c : X.1 (a + i) = w.getD i 0
    · have q2 := q1.trans (eq_true c)
      simp only [rX6_isWord_29, rX6_isWord_30, rX6_isWord_33, rX6_isWord_36, rX6_isWord_37, rX6_isWord_40, rX6_isWord_41, rX6_isWord_44, rX6_isWord_45, rX6_isWord_46, rX6_isWord_47, rX6_isWord_48, rX6_isWord_49, rX6_isWord_52, rX6_isWord_55, rX6_isWord_56, rX6_isWord_57, rX6_isWord_60, rX6_isWord_63, rX6_isWord_64, K, KS, R0, K2, e5, S_len x, ch, psh_some, l, m1, m2, x1, q2, i_p1 l1, Int.toNat_natCast, Int.natCast_nonneg, true_and, and_true, and_self, if_true, if_false, or_true, true_or, or_false, false_or, ne_eq, not_true_eq_false, not_false_eq_true, Nat.reduceLeDiff, Nat.reduceEqDiff, Nat.reduceLT, Nat.reduceAdd, Nat.reduceMul, Nat.reduceSub, Int.reduceLT, Int.reduceLE, Int.reduceEq, Int.reduceToNat, Int.reduceAdd, Int.reduceSub, Int.reduceMul, Int.reduceNeg, Int.cast_ofNat_Int, false_and, and_false]
      rw [ih (i + 1) (p_s hi)]
      have u : mtc X.1 a w (n + 1) i = mtc X.1 a w n (i + 1) := by
        show (if X.1 (a + i) = w.getD i 0 then mtc X.1 a w n (i + 1) else 0) = _
        rw [if_pos c]
      rw [u]
    · have q2 := q1.trans (eq_false c)
      simp only [rX6_isWord_29, rX6_isWord_30, rX6_isWord_33, rX6_isWord_36, rX6_isWord_37, rX6_isWord_40, rX6_isWord_41, rX6_isWord_44, rX6_isWord_45, rX6_isWord_46, rX6_isWord_47, rX6_isWord_48, rX6_isWord_49, rX6_isWord_52, rX6_isWord_55, rX6_isWord_56, rX6_isWord_57, rX6_isWord_60, rX6_isWord_63, rX6_isWord_64, K, KS, R0, K2, e5, S_len x, ch, psh_some, l, m1, m2, x1, q2, Int.toNat_natCast, Int.natCast_nonneg, true_and, and_true, and_self, if_true, if_false, or_true, true_or, or_false, false_or, ne_eq, not_true_eq_false, not_false_eq_true, Nat.reduceLeDiff, Nat.reduceEqDiff, Nat.reduceLT, Nat.reduceAdd, Nat.reduceMul, Nat.reduceSub, Int.reduceLT, Int.reduceLE, Int.reduceEq, Int.reduceToNat, Int.reduceAdd, Int.reduceSub, Int.reduceMul, Int.reduceNeg, Int.cast_ofNat_Int, false_and, and_false]
      unfold mtc; rw [if_neg c]
theorem ck_1 {X : TX} {q : Nat} (h : ck (tk X q) = 1) : tAt X q < X.2 ∧ tk X q = kwN (wdOf X (tAt X q) (tBh X q)) := by
  by_cases c0 : X.2 ≤ tAt X q
  · have e : tk X q = 25 := by unfold tk; rw [if_pos c0]
    rw [e] at h; exact absurd h (by decide)
  · by_cases c1 : cL (X.1 (tAt X q))
    · exact ⟨by omega, by unfold tk; rw [if_neg c0, if_pos c1]⟩
    · by_cases c2 : cD (X.1 (tAt X q))
      · have e := (tk_D c0 c1 c2).2
        split at e
        · rw [e] at h; exact absurd h (by decide)
        · rw [e] at h; exact absurd h (by decide)
      · have e := (tk_S c0 c1 c2).2
        have r := sgn_ge (X.1 (tAt X q))
        rw [← e] at r
        unfold ck at h
        rw [if_neg (by omega), if_neg (by omega), if_neg (by omega)] at h
        exact absurd h (by decide)
theorem ck_n1 {k : Int} {i : Nat} (h : ck k ≠ 1) (hi : i < 23) : ¬ k = (i : Int) := fun e => h (by unfold ck; rw [if_pos (by omega)])
theorem b_sub {a b : Nat} {w : Nat} (h1 : a ≤ b) (h2 : b ≤ 900) : w32 ((b : Int) - (a : Int)) = ((b - a : Nat) : Int) ∧ (((b - a : Nat) : Int) = (w : Int)) = (b - a = w) := ⟨by rw [w32_i (by omega) (by omega)]; omega, propext (by omega)⟩
theorem C_isWord {d : Nat} {Q : Option PV → Hp → Prop} {X : TX} {h : Hp} {b : Nat} {s : TS} (g : CGd X h) (t : CTok X h b s) {i j : Nat} (hi : i < 23) (hj : j < 26) (e : KW.getD i [] = sbyz.getD j []) : WP (d + 5) mX6_isWord 0 [some (.inr (.inr 201)), some (.inr (.inr (1 + j))), none] [] h Q = Q (some (.inl (zb (tks X s = (i : Int))))) h := by
  have K := g.2.1
  have x := g.1.at j hj
  have KS := x.1
  cases s with
  | inl q =>
    obtain ⟨_, hq, t1, t2, t3⟩ := t
    by_cases c : tk X q = 26
    · obtain ⟨u1, _⟩ := t2 c
      rw [zb_f (show ¬ tks X (.inl q) = (i : Int) from fun e => by have : tk X q = (i : Int) := e; omega)]
      simp only [rX6_isWord_0, rX6_isWord_1, rX6_isWord_4, rX6_isWord_5, rX6_isWord_8, rX6_isWord_9, rX6_isWord_12, rX6_isWord_13, rX6_isWord_16, rX6_isWord_17, rX6_isWord_18, rX6_isWord_21, rX6_isWord_24, rX6_isWord_25, K, u1, Int.toNat_natCast, Int.natCast_nonneg, true_and, and_true, and_self, if_true, if_false, or_true, true_or, or_false, false_or, ne_eq, not_true_eq_false, not_false_eq_true, Nat.reduceLeDiff, Nat.reduceEqDiff, Nat.reduceLT, Nat.reduceAdd, Nat.reduceMul, Nat.reduceSub, Int.reduceLT, Int.reduceLE, Int.reduceEq, Int.reduceToNat, Int.reduceAdd, Int.reduceSub, Int.reduceMul, Int.reduceNeg, Int.cast_ofNat_Int, false_and, and_false]
    · obtain ⟨u1, _, _, u6, _⟩ := t3 c
      by_cases c1 : ck (tk X q) = 1
      · obtain ⟨l, ek⟩ := ck_1 c1
        have gt : q + 1 ≤ tBh X q := tBh_gt (fun z => by rw [z] at c1; exact absurd c1 (by decide))
        have ab : tAt X q ≤ tBh X q := by
          unfold tBh
          repeat' split
          · exact Nat.le_refl _
          · exact skp_ge _ _ _ _
          · exact skp_ge _ _ _ _
          · exact Nat.le_succ _
        have hb := tBh_le hq
        have h9 := g.2.2.2.2.2.2.2.1
        obtain ⟨s1, s2⟩ := b_sub (w := (sbyz.getD j []).length) ab (Nat.le_trans hb h9)
        rw [c1] at u1
        have main : tks X (.inl q) = (i : Int) ↔ tBh X q - tAt X q = (sbyz.getD j []).length ∧ ∀ m, m < (sbyz.getD j []).length → X.1 (tAt X q + (0 + m)) = (sbyz.getD j []).getD (0 + m) 0 := by
          show tk X q = (i : Int) ↔ _
          rw [ek, kwN_is hi, e]; exact wd_is
        by_cases c2 : tBh X q - tAt X q = (sbyz.getD j []).length
        · have s3 := s2.trans (eq_true c2)
          simp only [rX6_isWord_0, rX6_isWord_1, rX6_isWord_4, rX6_isWord_5, rX6_isWord_8, rX6_isWord_9, rX6_isWord_12, rX6_isWord_13, rX6_isWord_16, rX6_isWord_17, rX6_isWord_18, rX6_isWord_21, rX6_isWord_24, rX6_isWord_25, rX6_isWord_26, rX6_isWord_27, K, KS, S_len x, psh_some, u1, u6, t1, s1, s3, Int.toNat_natCast, Int.natCast_nonneg, true_and, and_true, and_self, if_true, if_false, or_true, true_or, or_false, false_or, ne_eq, not_true_eq_false, not_false_eq_true, Nat.reduceLeDiff, Nat.reduceEqDiff, Nat.reduceLT, Nat.reduceAdd, Nat.reduceMul, Nat.reduceSub, Int.reduceLT, Int.reduceLE, Int.reduceEq, Int.reduceToNat, Int.reduceAdd, Int.reduceSub, Int.reduceMul, Int.reduceNeg, Int.cast_ofNat_Int, false_and, and_false]
          have lp := C_iwl (d := d) (Q := Q) g x t1 (by omega) (sbyz.getD j []).length 0 (by omega)
          refine lp.trans ?_
          rw [mtc_is]
          rw [zb_c (main.trans ⟨fun z => z.2, fun z => ⟨c2, z⟩⟩)]
        · have s3 := s2.trans (eq_false c2)
          simp only [rX6_isWord_0, rX6_isWord_1, rX6_isWord_4, rX6_isWord_5, rX6_isWord_8, rX6_isWord_9, rX6_isWord_12, rX6_isWord_13, rX6_isWord_16, rX6_isWord_17, rX6_isWord_18, rX6_isWord_21, rX6_isWord_24, rX6_isWord_25, rX6_isWord_26, rX6_isWord_27, K, KS, S_len x, psh_some, u1, u6, t1, s1, s3, Int.toNat_natCast, Int.natCast_nonneg, true_and, and_true, and_self, if_true, if_false, or_true, true_or, or_false, false_or, ne_eq, not_true_eq_false, not_false_eq_true, Nat.reduceLeDiff, Nat.reduceEqDiff, Nat.reduceLT, Nat.reduceAdd, Nat.reduceMul, Nat.reduceSub, Int.reduceLT, Int.reduceLE, Int.reduceEq, Int.reduceToNat, Int.reduceAdd, Int.reduceSub, Int.reduceMul, Int.reduceNeg, Int.cast_ofNat_Int, false_and, and_false]
          rw [zb_f (fun z => c2 (main.mp z).1)]
      · rw [zb_f (show ¬ tks X (.inl q) = (i : Int) from ck_n1 c1 hi)]
        have u4 : (hI h 201 7 = 1) = False := eq_false (by rw [u1]; exact c1)
        simp only [rX6_isWord_0, rX6_isWord_1, rX6_isWord_4, rX6_isWord_5, rX6_isWord_8, rX6_isWord_9, rX6_isWord_12, rX6_isWord_13, rX6_isWord_16, rX6_isWord_17, rX6_isWord_18, rX6_isWord_21, rX6_isWord_24, rX6_isWord_25, K, u4, Int.toNat_natCast, Int.natCast_nonneg, true_and, and_true, and_self, if_true, if_false, or_true, true_or, or_false, false_or, ne_eq, not_true_eq_false, not_false_eq_true, Nat.reduceLeDiff, Nat.reduceEqDiff, Nat.reduceLT, Nat.reduceAdd, Nat.reduceMul, Nat.reduceSub, Int.reduceLT, Int.reduceLE, Int.reduceEq, Int.reduceToNat, Int.reduceAdd, Int.reduceSub, Int.reduceMul, Int.reduceNeg, Int.cast_ofNat_Int, false_and, and_false]
  | inr e' =>
    have u1 := t.2.1
    rw [zb_f (show ¬ tks X (.inr e') = (i : Int) from fun e => by have : (-1 : Int) = (i : Int) := e; omega)]
    simp only [rX6_isWord_0, rX6_isWord_1, rX6_isWord_4, rX6_isWord_5, rX6_isWord_8, rX6_isWord_9, rX6_isWord_12, rX6_isWord_13, rX6_isWord_16, rX6_isWord_17, rX6_isWord_18, rX6_isWord_21, rX6_isWord_24, rX6_isWord_25, K, u1, Int.toNat_natCast, Int.natCast_nonneg, true_and, and_true, and_self, if_true, if_false, or_true, true_or, or_false, false_or, ne_eq, not_true_eq_false, not_false_eq_true, Nat.reduceLeDiff, Nat.reduceEqDiff, Nat.reduceLT, Nat.reduceAdd, Nat.reduceMul, Nat.reduceSub, Int.reduceLT, Int.reduceLE, Int.reduceEq, Int.reduceToNat, Int.reduceAdd, Int.reduceSub, Int.reduceMul, Int.reduceNeg, Int.cast_ofNat_Int, false_and, and_false]
theorem C_takeSign {d : Nat} {Q : Option PV → Hp → Prop} {X : TX} {h : Hp} {b : Nat} {s : TS} {z : Int} (g : CGd X h) (t : CTok X h b s) (hz : sgn z ≠ 26) (k : ∀ h', CGd X h' → Fp PT h h' → CTok X h' b (eats X (sgn z) s) → Q none h') : WP (d + 7) mX6_takeSign 0 [some (.inr (.inr 201)), some (.inl z)] [] h Q := by
  have K := g.2.1
  have z1 := (sgn_30 hz).1
  unfold eats at k
  by_cases c : tks X s = sgn z
  · rw [if_pos c] at k
    simp only [rX6_takeSign_0, rX6_takeSign_1, rX6_takeSign_2, rX6_takeSign_5, rX6_takeSign_8, rX6_takeSign_9, K, C_isSign g t hz, zb_t c, psh_some, Int.toNat_natCast, Int.natCast_nonneg, true_and, and_true, and_self, if_true, if_false, or_true, true_or, or_false, false_or, ne_eq, not_true_eq_false, not_false_eq_true, Nat.reduceLeDiff, Nat.reduceEqDiff, Nat.reduceLT, Nat.reduceAdd, Nat.reduceMul, Nat.reduceSub, Int.reduceLT, Int.reduceLE, Int.reduceEq, Int.reduceToNat, Int.reduceAdd, Int.reduceSub, Int.reduceMul, Int.reduceNeg, Int.cast_ofNat_Int, false_and, and_false]
    refine C_adv (d := d) g t (by omega) (by omega) (by omega) ?_
    intro h' g' f' t'
    simp only [psh_none, rX6_takeSign_12, rX6_takeSign_15, rX6_takeSign_16, rX6_takeSign_17, rX6_takeSign_20]
    exact k h' g' f' (t'.weak (Nat.le_succ b))
  · rw [if_neg c] at k
    simp only [rX6_takeSign_0, rX6_takeSign_1, rX6_takeSign_2, rX6_takeSign_5, rX6_takeSign_15, rX6_takeSign_16, rX6_takeSign_17, K, C_isSign g t hz, zb_f c, psh_some, Int.toNat_natCast, Int.natCast_nonneg, true_and, and_true, and_self, if_true, if_false, or_true, true_or, or_false, false_or, ne_eq, not_true_eq_false, not_false_eq_true, Nat.reduceLeDiff, Nat.reduceEqDiff, Nat.reduceLT, Nat.reduceAdd, Nat.reduceMul, Nat.reduceSub, Int.reduceLT, Int.reduceLE, Int.reduceEq, Int.reduceToNat, Int.reduceAdd, Int.reduceSub, Int.reduceMul, Int.reduceNeg, Int.cast_ofNat_Int, false_and, and_false]
    refine C_fail g t (by decide) ?_
    intro h' g' f' t'
    simp only [psh_none, rX6_takeSign_20]
    exact k h' g' f' t'
theorem C_takeWord {d : Nat} {Q : Option PV → Hp → Prop} {X : TX} {h : Hp} {b : Nat} {s : TS} (g : CGd X h) (t : CTok X h b s) {i j : Nat} (hi : i < 23) (hj : j < 26) (e : KW.getD i [] = sbyz.getD j []) (k : ∀ h', CGd X h' → Fp PT h h' → CTok X h' b (eats X (i : Int) s) → Q none h') : WP (d + 7) mX6_takeWord 0 [some (.inr (.inr 201)), some (.inr (.inr (1 + j)))] [] h Q := by
  have K := g.2.1
  have iw := fun (Q : Option PV → Hp → Prop) => C_isWord (d := d + 1) (Q := Q) g t hi hj e
  unfold eats at k
  by_cases c : tks X s = (i : Int)
  · rw [if_pos c] at k
    simp only [rX6_takeWord_0, rX6_takeWord_1, rX6_takeWord_2, rX6_takeWord_5, rX6_takeWord_8, rX6_takeWord_9, K, iw, zb_t c, psh_some, Int.toNat_natCast, Int.natCast_nonneg, true_and, and_true, and_self, if_true, if_false, or_true, true_or, or_false, false_or, ne_eq, not_true_eq_false, not_false_eq_true, Nat.reduceLeDiff, Nat.reduceEqDiff, Nat.reduceLT, Nat.reduceAdd, Nat.reduceMul, Nat.reduceSub, Int.reduceLT, Int.reduceLE, Int.reduceEq, Int.reduceToNat, Int.reduceAdd, Int.reduceSub, Int.reduceMul, Int.reduceNeg, Int.cast_ofNat_Int, false_and, and_false]
    refine C_adv (d := d) g t (by omega) (by omega) (by omega) ?_
    intro h' g' f' t'
    simp only [psh_none, rX6_takeWord_12, rX6_takeWord_15, rX6_takeWord_16, rX6_takeWord_17, rX6_takeWord_20]
    exact k h' g' f' (t'.weak (Nat.le_succ b))
  · rw [if_neg c] at k
    simp only [rX6_takeWord_0, rX6_takeWord_1, rX6_takeWord_2, rX6_takeWord_5, rX6_takeWord_15, rX6_takeWord_16, rX6_takeWord_17, K, iw, zb_f c, psh_some, Int.toNat_natCast, Int.natCast_nonneg, true_and, and_true, and_self, if_true, if_false, or_true, true_or, or_false, false_or, ne_eq, not_true_eq_false, not_false_eq_true, Nat.reduceLeDiff, Nat.reduceEqDiff, Nat.reduceLT, Nat.reduceAdd, Nat.reduceMul, Nat.reduceSub, Int.reduceLT, Int.reduceLE, Int.reduceEq, Int.reduceToNat, Int.reduceAdd, Int.reduceSub, Int.reduceMul, Int.reduceNeg, Int.cast_ofNat_Int, false_and, and_false]
    refine C_fail g t (by decide) ?_
    intro h' g' f' t'
    simp only [psh_none, rX6_takeWord_20]
    exact k h' g' f' t'
/-- a number of at most m is taken -/
def tkN (X : TX) (m : Int) (s : TS) : TS := if tks X s = 24 then (if m < nms X s then fls X 3 s else nxs X s) else fls X 2 s
theorem CTok.num {X : TX} {h : Hp} {b : Nat} {s : TS} (t : CTok X h b s) : (hI h 201 7 = 2 ↔ tks X s = 24) ∧ (tks X s = 24 → hI h 201 8 = nms X s) := by
  cases s with
  | inl q =>
    obtain ⟨_, _, t1, t2, t3⟩ := t
    by_cases c : tk X q = 26
    · obtain ⟨u1, _⟩ := t2 c
      refine ⟨⟨fun z => by rw [u1] at z; exact absurd z (by decide), fun z => by have z : tk X q = 24 := z; omega⟩, fun z => by have z : tk X q = 24 := z; omega⟩
    · obtain ⟨u1, _, _, _, u8⟩ := t3 c
      refine ⟨⟨fun z => ?_, fun z => ?_⟩, u8⟩
      · rw [u1] at z
        show tk X q = 24
        unfold ck at z
        split at z
        · exact absurd z (by decide)
        · split at z
          · assumption
          · split at z <;> exact absurd z (by decide)
      · have z : tk X q = 24 := z
        rw [u1, z]; rfl
  | inr e =>
    have u1 := t.2.1
    exact ⟨⟨fun z => by rw [u1] at z; exact absurd z (by decide), fun z => absurd z (by show ¬ (-1 : Int) = 24; decide)⟩, fun z => absurd z (by show ¬ (-1 : Int) = 24; decide)⟩
theorem C_takeNum {d : Nat} {Q : Option PV → Hp → Prop} {X : TX} {h : Hp} {b : Nat} {s : TS} {m : Int} (g : CGd X h) (t : CTok X h b s) (k : ∀ h' v, CGd X h' → Fp PT h h' → CTok X h' b (tkN X m s) → (∀ q, tkN X m s = .inl q → v = nms X s) → Q (some (.inl v)) h') : WP (d + 7) mX6_takeNumber 0 [some (.inr (.inr 201)), some (.inl m), none] [] h Q := by
  have K := g.2.1
  obtain ⟨n1, n2⟩ := t.num
  unfold tkN at k
  by_cases c : tks X s = 24
  · rw [if_pos c] at k
    have e8 := n2 c
    have e7 := n1.mpr c
    by_cases c2 : m < nms X s
    · rw [if_pos c2] at k
      have c3 : (nms X s ≤ m) = False := eq_false (by omega)
      simp only [rX6_takeNumber_0, rX6_takeNumber_1, rX6_takeNumber_4, rX6_takeNumber_5, rX6_takeNumber_8, rX6_takeNumber_9, rX6_takeNumber_10, rX6_takeNumber_13, rX6_takeNumber_14, rX6_takeNumber_15, rX6_takeNumber_16, rX6_takeNumber_19, rX6_takeNumber_20, rX6_takeNumber_23, rX6_takeNumber_24, rX6_takeNumber_25, K, e7, e8, c2, c3, Int.toNat_natCast, Int.natCast_nonneg, true_and, and_true, and_self, if_true, if_false, or_true, true_or, or_false, false_or, ne_eq, not_true_eq_false, not_false_eq_true, Nat.reduceLeDiff, Nat.reduceEqDiff, Nat.reduceLT, Nat.reduceAdd, Nat.reduceMul, Nat.reduceSub, Int.reduceLT, Int.reduceLE, Int.reduceEq, Int.reduceToNat, Int.reduceAdd, Int.reduceSub, Int.reduceMul, Int.reduceNeg, Int.cast_ofNat_Int, false_and, and_false]
      refine C_fail g t (by decide) ?_
      intro h' g' f' t'
      simp only [psh_none, rX6_takeNumber_28, rX6_takeNumber_29]
      refine k h' 0 g' f' t' (fun q z => ?_)
      cases s with
      | inl q => cases z
      | inr e => cases z
    · rw [if_neg c2] at k
      have c3 : (nms X s ≤ m) = True := eq_true (by omega)
      simp only [rX6_takeNumber_0, rX6_takeNumber_1, rX6_takeNumber_4, rX6_takeNumber_5, rX6_takeNumber_8, rX6_takeNumber_9, rX6_takeNumber_10, rX6_takeNumber_13, rX6_takeNumber_14, rX6_takeNumber_15, rX6_takeNumber_16, rX6_takeNumber_19, rX6_takeNumber_20, rX6_takeNumber_30, rX6_takeNumber_31, rX6_takeNumber_34, rX6_takeNumber_35, rX6_takeNumber_36, K, e7, e8, c2, c3, Int.toNat_natCast, Int.natCast_nonneg, true_and, and_true, and_self, if_true, if_false, or_true, true_or, or_false, false_or, ne_eq, not_true_eq_false, not_false_eq_true, Nat.reduceLeDiff, Nat.reduceEqDiff, Nat.reduceLT, Nat.reduceAdd, Nat.reduceMul, Nat.reduceSub, Int.reduceLT, Int.reduceLE, Int.reduceEq, Int.reduceToNat, Int.reduceAdd, Int.reduceSub, Int.reduceMul, Int.reduceNeg, Int.cast_ofNat_Int, false_and, and_false]
      refine C_adv (d := d) g t (by omega) (by omega) (by omega) ?_
      intro h' g' f' t'
      simp only [psh_none, rX6_takeNumber_39, rX6_takeNumber_40]
      exact k h' _ g' f' (t'.weak (Nat.le_succ b)) (fun _ _ => rfl)
  · rw [if_neg c] at k
    have e7 : (hI h 201 7 = 2) = False := eq_false (fun z => c (n1.mp z))
    simp only [rX6_takeNumber_0, rX6_takeNumber_1, rX6_takeNumber_4, rX6_takeNumber_5, rX6_takeNumber_8, rX6_takeNumber_9, rX6_takeNumber_10, K, e7, Int.toNat_natCast, Int.natCast_nonneg, true_and, and_true, and_self, if_true, if_false, or_true, true_or, or_false, false_or, ne_eq, not_true_eq_false, not_false_eq_true, Nat.reduceLeDiff, Nat.reduceEqDiff, Nat.reduceLT, Nat.reduceAdd, Nat.reduceMul, Nat.reduceSub, Int.reduceLT, Int.reduceLE, Int.reduceEq, Int.reduceToNat, Int.reduceAdd, Int.reduceSub, Int.reduceMul, Int.reduceNeg, Int.cast_ofNat_Int, false_and, and_false]
    refine C_fail g t (by decide) ?_
    intro h' g' f' t'
    simp only [psh_none, rX6_takeNumber_13, rX6_takeNumber_14]
    refine k h' 0 g' f' t' (fun q z => ?_)
    cases s with
    | inl q => cases z
    | inr e => cases z
