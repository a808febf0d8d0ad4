/-! the reference's tokens: which it is, taking it -/
theorem R_is {d : Nat} {Q : Option PV → Hp → Prop} {X : TX} {h : Hp} {b : Nat} {s : TS} {z : Int} (g : RGd X h) (t : RTok X h b s) (hz : 0 ≤ z) : WP d mX12_is 0 [some (.inr (.inr 294)), some (.inl z)] [] h Q = Q (some (.inl (zb (tks X s = z)))) h := by
  rw [S_rIs (Md_K280 g.2.1)]
  refine congrArg (fun v => Q (some (.inl v)) h) (zb_c ?_)
  cases s with
  | inl q =>
    obtain ⟨_, _, t1, _, _, t2, _⟩ := t
    rw [t1, t2]
    exact ⟨fun z => z.2, fun z => ⟨rfl, z⟩⟩
  | inr e =>
    obtain ⟨t1, t2, _⟩ := t
    exact ⟨fun z => absurd (t2.symm.trans z.1) t1, fun z' => by have z' : (-1 : Int) = z := z'; omega⟩
theorem RTok.weak {X : TX} {h : Hp} {b b' : Nat} {s : TS} (t : RTok X h b s) (hb : b' ≤ b) : RTok X h b' s := by
  cases s with
  | inl q => exact ⟨Nat.le_trans hb t.1, t.2⟩
  | inr e => exact t
theorem R_fails {d : Nat} {Q : Option PV → Hp → Prop} {X : TX} {h : Hp} {b : Nat} {s : TS} {z : Int} (g : RGd X h) (t : RTok X h b s) (hz : z ≠ 0) (k : ∀ h', RGd X h' → Fp RT h h' → RTok X h' b (fls X z s) → Q none h') : WP d mX12_fails 0 [some (.inr (.inr 294)), some (.inl z)] [] h Q := by
  rw [S_rFails (Md_K280 g.2.1)]
  have f : Fp RT h (rFl h z) := by
    unfold rFl
    split
    · exact ((Fp.refl RT h).wI (by unfold RT; omega) _).wI (by unfold RT; omega) _
    · exact Fp.refl RT h
  refine k _ (g.rt f) f ?_
  cases s with
  | inl q =>
    obtain ⟨_, _, t1, t2, _, t4, _⟩ := t
    unfold fls RTok rFl
    by_cases c : tk X q = 26
    · simp only [t1, t4, t2, c, hI_wI, Int.toNat_natCast, Int.natCast_nonneg, true_and, and_true, and_self, if_true, if_false, or_true, true_or, or_false, false_or, ne_eq, not_true_eq_false, not_false_eq_true, Nat.reduceLeDiff, Nat.reduceEqDiff, Nat.reduceLT, Nat.reduceAdd, Nat.reduceMul, Nat.reduceSub, Int.reduceLT, Int.reduceLE, Int.reduceEq, Int.reduceToNat, Int.reduceAdd, Int.reduceSub, Int.reduceMul, Int.reduceNeg, Int.cast_ofNat_Int, false_and, and_false]
    · simp only [t1, t4, t2, c, hI_wI, hz, Int.toNat_natCast, Int.natCast_nonneg, true_and, and_true, and_self, if_true, if_false, or_true, true_or, or_false, false_or, ne_eq, not_true_eq_false, not_false_eq_true, Nat.reduceLeDiff, Nat.reduceEqDiff, Nat.reduceLT, Nat.reduceAdd, Nat.reduceMul, Nat.reduceSub, Int.reduceLT, Int.reduceLE, Int.reduceEq, Int.reduceToNat, Int.reduceAdd, Int.reduceSub, Int.reduceMul, Int.reduceNeg, Int.cast_ofNat_Int, false_and, and_false]
  | inr e =>
    obtain ⟨e1, e2⟩ := e
    obtain ⟨u1, u2, u3⟩ := t
    have u1 : e1 ≠ 0 := u1
    have u2 : hI h 294 11 = e1 := u2
    unfold fls RTok rFl
    simp only [u2, u1, u3, Int.toNat_natCast, Int.natCast_nonneg, true_and, and_true, and_self, if_true, if_false, or_true, true_or, or_false, false_or, ne_eq, not_true_eq_false, not_false_eq_true, Nat.reduceLeDiff, Nat.reduceEqDiff, Nat.reduceLT, Nat.reduceAdd, Nat.reduceMul, Nat.reduceSub, Int.reduceLT, Int.reduceLE, Int.reduceEq, Int.reduceToNat, Int.reduceAdd, Int.reduceSub, Int.reduceMul, Int.reduceNeg, Int.cast_ofNat_Int, false_and, and_false]
theorem R_next {d : Nat} {Q : Option PV → Hp → Prop} {X : TX} {h : Hp} {b : Nat} {s : TS} (g : RGd X h) (t : RTok X h b s) (h0 : 0 ≤ tks X s) (h1 : tks X s ≠ 25) (k : ∀ h', RGd X h' → Fp RT h h' → RTok X h' (b + 1) (nxs X s) → Q none h') : WP (d + 6) mX12_next 0 [some (.inr (.inr 294)), none] [] h Q := by
  cases s with
  | inl q =>
    obtain ⟨t0, t1, t2, _, t3, _⟩ := t
    have gt : q + 1 ≤ tBh X q := tBh_gt h1
    exact R_next0 g (tBh_le t1) t3 (fun h' f t' => k h' (g.rn f) (f.mono RN_s) ⟨Nat.le_trans (Nat.add_le_add_right t0 1) gt, tBh_le t1, (f.I (by unfold RN; omega)).trans t2, t'⟩)
  | inr e => exact absurd h0 (by show ¬ (0 : Int) ≤ -1; decide)
theorem R_eats0 {d : Nat} {Q : Option PV → Hp → Prop} {X : TX} {h : Hp} {b : Nat} {s : TS} {z : Int} (g : RGd X h) (t : RTok X h b s) (hz : 0 ≤ z) (c : ¬ tks X s = z) : WP (d + 7) mX12_eats 0 [some (.inr (.inr 294)), some (.inl z)] [] h Q = Q (some (.inl 0)) h := by
  simp only [rX12_eats_0, rX12_eats_1, rX12_eats_2, rX12_eats_5, rX12_eats_8, rX12_eats_9, Md_K280 g.2.1, R_is g t hz, zb_f c, psh_some, Int.toNat_natCast, Int.natCast_nonneg, true_and, and_true, and_self, if_true, if_false, or_true, true_or, or_false, false_or, ne_eq, not_true_eq_false, not_false_eq_true, Nat.reduceLeDiff, Nat.reduceEqDiff, Nat.reduceLT, Nat.reduceAdd, Nat.reduceMul, Nat.reduceSub, Int.reduceLT, Int.reduceLE, Int.reduceEq, Int.reduceToNat, Int.reduceAdd, Int.reduceSub, Int.reduceMul, Int.reduceNeg, Int.cast_ofNat_Int, false_and, and_false]
theorem R_eats1 {d : Nat} {Q : Option PV → Hp → Prop} {X : TX} {h : Hp} {b : Nat} {s : TS} {z : Int} (g : RGd X h) (t : RTok X h b s) (hz : 0 ≤ z) (hz2 : z ≠ 25) (c : tks X s = z) (k : ∀ h', RGd X h' → Fp RT h h' → RTok X h' (b + 1) (nxs X s) → Q (some (.inl 1)) h') : WP (d + 7) mX12_eats 0 [some (.inr (.inr 294)), some (.inl z)] [] h Q := by
  simp only [rX12_eats_0, rX12_eats_1, rX12_eats_2, rX12_eats_5, rX12_eats_8, rX12_eats_9, rX12_eats_10, rX12_eats_11, Md_K280 g.2.1, R_is g t hz, zb_t c, psh_some, Int.toNat_natCast, Int.natCast_nonneg, true_and, and_true, and_self, if_true, if_false, or_true, true_or, or_false, false_or, ne_eq, not_true_eq_false, not_false_eq_true, Nat.reduceLeDiff, Nat.reduceEqDiff, Nat.reduceLT, Nat.reduceAdd, Nat.reduceMul, Nat.reduceSub, Int.reduceLT, Int.reduceLE, Int.reduceEq, Int.reduceToNat, Int.reduceAdd, Int.reduceSub, Int.reduceMul, Int.reduceNeg, Int.cast_ofNat_Int, false_and, and_false]
  refine R_next (d := d) g t (by rw [c]; exact hz) (by rw [c]; exact hz2) (fun h' g' f' t' => ?_)
  simp only [psh_none, rX12_eats_14, rX12_eats_15, Int.toNat_natCast, Int.natCast_nonneg, true_and, and_true, and_self, if_true, if_false, or_true, true_or, or_false, false_or, ne_eq, not_true_eq_false, not_false_eq_true, Nat.reduceLeDiff, Nat.reduceEqDiff, Nat.reduceLT, Nat.reduceAdd, Nat.reduceMul, Nat.reduceSub, Int.reduceLT, Int.reduceLE, Int.reduceEq, Int.reduceToNat, Int.reduceAdd, Int.reduceSub, Int.reduceMul, Int.reduceNeg, Int.cast_ofNat_Int, false_and, and_false]
  exact k h' g' f' t'
theorem RTok.num {X : TX} {h : Hp} {b : Nat} {s : TS} (t : RTok X h b s) (c : tks X s = 24) : hI h 294 10 = nms X s ∧ hI h 294 11 = 0 := by
  cases s with
  | inl q => obtain ⟨_, _, t1, _, _, _, t2⟩ := t; exact ⟨t2 c, t1⟩
  | inr e => exact absurd c (by show ¬ (-1 : Int) = 24; decide)
theorem RTok.bad {X : TX} {h : Hp} {b : Nat} {s : TS} (t : RTok X h b s) (c : ∀ q, s ≠ .inl q) : ¬ hI h 294 11 = 0 := by
  cases s with
  | inl q => exact absurd rfl (c q)
  | inr e => obtain ⟨t1, t2, _⟩ := t; rw [t2]; exact t1
theorem nms_ge (X : TX) (s : TS) : 0 ≤ nms X s := by
  cases s with
  | inl q => exact (tNm_ok X q).1
  | inr e => exact Int.le_refl 0
theorem fls_bad (X : TX) (z : Int) (s : TS) : ∀ q, fls X z s ≠ .inl q := by
  cases s with
  | inl q => intro q' h; cases h
  | inr e => intro q' h; cases h
theorem R_takes {d : Nat} {Q : Option PV → Hp → Prop} {X : TX} {h : Hp} {b : Nat} {s : TS} {m : Int} (g : RGd X h) (t : RTok X h b s) (k : ∀ h' v, RGd X h' → Fp RT h h' → RTok X h' b (tkN X m s) → (∀ q, tkN X m s = .inl q → v = nms X s) → Q (some (.inl v)) h') : WP (d + 7) mX12_takes 0 [some (.inr (.inr 294)), some (.inl 0), some (.inl m), none] [] h Q := by
  have K := Md_K280 g.2.1
  unfold tkN at k
  by_cases c : tks X s = 24
  · rw [if_pos c] at k
    obtain ⟨n1, n2⟩ := t.num c
    have n3 := nms_ge X s
    by_cases c2 : m < nms X s
    · rw [if_pos c2] at k
      have c3 : (0 ≤ nms X s ∧ nms X s ≤ m) = False := eq_false (by omega)
      simp only [rX12_takes_0, rX12_takes_1, rX12_takes_3, rX12_takes_6, rX12_takes_9, rX12_takes_10, rX12_takes_11, rX12_takes_14, rX12_takes_17, rX12_takes_18, rX12_takes_21, rX12_takes_22, rX12_takes_23, rX12_takes_24, rX12_takes_25, rX12_takes_26, rX12_takes_29, rX12_takes_32, rX12_takes_33, rX12_takes_34, K, R_is g t (show (0 : Int) ≤ 24 by decide), zb_t c, n1, S_within, c3, psh_some, Int.toNat_natCast, Int.natCast_nonneg, true_and, and_true, and_self, if_true, if_false, or_true, true_or, or_false, false_or, ne_eq, not_true_eq_false, not_false_eq_true, Nat.reduceLeDiff, Nat.reduceEqDiff, Nat.reduceLT, Nat.reduceAdd, Nat.reduceMul, Nat.reduceSub, Int.reduceLT, Int.reduceLE, Int.reduceEq, Int.reduceToNat, Int.reduceAdd, Int.reduceSub, Int.reduceMul, Int.reduceNeg, Int.cast_ofNat_Int, false_and, and_false]
      refine R_fails g t (by decide) (fun h' g' f' t' => ?_)
      have K' := Md_K280 g'.2.1
      have w := eq_false (t'.bad (fls_bad X 3 s))
      simp only [psh_none, rX12_takes_37, rX12_takes_38, rX12_takes_41, rX12_takes_42, rX12_takes_43, rX12_takes_46, rX12_takes_49, rX12_takes_50, rX12_takes_53, rX12_takes_54, K', w, Int.toNat_natCast, Int.natCast_nonneg, true_and, and_true, and_self, if_true, if_false, or_true, true_or, or_false, false_or, ne_eq, not_true_eq_false, not_false_eq_true, Nat.reduceLeDiff, Nat.reduceEqDiff, Nat.reduceLT, Nat.reduceAdd, Nat.reduceMul, Nat.reduceSub, Int.reduceLT, Int.reduceLE, Int.reduceEq, Int.reduceToNat, Int.reduceAdd, Int.reduceSub, Int.reduceMul, Int.reduceNeg, Int.cast_ofNat_Int, false_and, and_false]
      exact k h' _ g' f' t' (fun q z => absurd z (fls_bad X 3 s q))
    · rw [if_neg c2] at k
      have c3 : (0 ≤ nms X s ∧ nms X s ≤ m) = True := eq_true ⟨n3, by omega⟩
      simp only [rX12_takes_0, rX12_takes_1, rX12_takes_3, rX12_takes_6, rX12_takes_9, rX12_takes_10, rX12_takes_11, rX12_takes_14, rX12_takes_17, rX12_takes_18, rX12_takes_21, rX12_takes_22, rX12_takes_23, rX12_takes_24, rX12_takes_25, rX12_takes_26, rX12_takes_29, rX12_takes_32, rX12_takes_33, rX12_takes_34, rX12_takes_37, rX12_takes_38, rX12_takes_41, rX12_takes_42, rX12_takes_43, rX12_takes_46, rX12_takes_49, rX12_takes_50, K, R_is g t (show (0 : Int) ≤ 24 by decide), zb_t c, n1, n2, S_within, c3, psh_some, Int.toNat_natCast, Int.natCast_nonneg, true_and, and_true, and_self, if_true, if_false, or_true, true_or, or_false, false_or, ne_eq, not_true_eq_false, not_false_eq_true, Nat.reduceLeDiff, Nat.reduceEqDiff, Nat.reduceLT, Nat.reduceAdd, Nat.reduceMul, Nat.reduceSub, Int.reduceLT, Int.reduceLE, Int.reduceEq, Int.reduceToNat, Int.reduceAdd, Int.reduceSub, Int.reduceMul, Int.reduceNeg, Int.cast_ofNat_Int, false_and, and_false]
      refine R_next (d := d) g t (by rw [c]; decide) (by rw [c]; decide) (fun h' g' f' t' => ?_)
      simp only [psh_none, rX12_takes_53, rX12_takes_54, Int.toNat_natCast, Int.natCast_nonneg, true_and, and_true, and_self, if_true, if_false, or_true, true_or, or_false, false_or, ne_eq, not_true_eq_false, not_false_eq_true, Nat.reduceLeDiff, Nat.reduceEqDiff, Nat.reduceLT, Nat.reduceAdd, Nat.reduceMul, Nat.reduceSub, Int.reduceLT, Int.reduceLE, Int.reduceEq, Int.reduceToNat, Int.reduceAdd, Int.reduceSub, Int.reduceMul, Int.reduceNeg, Int.cast_ofNat_Int, false_and, and_false]
      exact k h' _ g' f' (t'.weak (Nat.le_succ b)) (fun _ _ => rfl)
  · rw [if_neg c] at k
    simp only [rX12_takes_0, rX12_takes_1, rX12_takes_3, rX12_takes_6, rX12_takes_9, rX12_takes_10, rX12_takes_11, K, R_is g t (show (0 : Int) ≤ 24 by decide), zb_f c, psh_some, Int.toNat_natCast, Int.natCast_nonneg, true_and, and_true, and_self, if_true, if_false, or_true, true_or, or_false, false_or, ne_eq, not_true_eq_false, not_false_eq_true, Nat.reduceLeDiff, Nat.reduceEqDiff, Nat.reduceLT, Nat.reduceAdd, Nat.reduceMul, Nat.reduceSub, Int.reduceLT, Int.reduceLE, Int.reduceEq, Int.reduceToNat, Int.reduceAdd, Int.reduceSub, Int.reduceMul, Int.reduceNeg, Int.cast_ofNat_Int, false_and, and_false]
    refine R_fails g t (by decide) (fun h' g' f' t' => ?_)
    have K' := Md_K280 g'.2.1
    have w := eq_false (t'.bad (fls_bad X 2 s))
    simp only [psh_none, rX12_takes_14, rX12_takes_37, rX12_takes_38, rX12_takes_41, rX12_takes_42, rX12_takes_43, rX12_takes_46, rX12_takes_49, rX12_takes_50, rX12_takes_53, rX12_takes_54, K', w, Int.toNat_natCast, Int.natCast_nonneg, true_and, and_true, and_self, if_true, if_false, or_true, true_or, or_false, false_or, ne_eq, not_true_eq_false, not_false_eq_true, Nat.reduceLeDiff, Nat.reduceEqDiff, Nat.reduceLT, Nat.reduceAdd, Nat.reduceMul, Nat.reduceSub, Int.reduceLT, Int.reduceLE, Int.reduceEq, Int.reduceToNat, Int.reduceAdd, Int.reduceSub, Int.reduceMul, Int.reduceNeg, Int.cast_ofNat_Int, false_and, and_false]
    exact k h' _ g' f' t' (fun q z => absurd z (fls_bad X 2 s q))
/-! the reference reads laws -/
def RF (a k : Nat) : Prop := (a = 294 ∧ (k = 6 ∨ k = 7 ∨ k = 9 ∨ k = 10 ∨ k = 11 ∨ k = 12)) ∨ (a = 298 ∧ 188 ≤ k)
theorem RT_RF (a k : Nat) (p : RT a k) : RF a k := by unfold RT at p; unfold RF; omega
theorem RF_s (a k : Nat) (p : RF a k) : 294 ≤ a ∧ a ≠ 297 ∧ (a = 294 → k ≠ 8) := by unfold RF at p; omega
def RCod (pre : List Int) (h : Hp) (p : Nat) (r : PS) : Prop := match r with
  | .inl x => (pre ++ x.2).length + p ≤ x.1 ∧ hI h 298 188 = ((pre ++ x.2).length : Int) ∧ (∀ j, j < (pre ++ x.2).length → hI h 298 (189 + j) = (pre ++ x.2).getD j 0) ∧ ∀ k, 189 + (pre ++ x.2).length ≤ k → k < 1089 → hI h 298 k = 0
  | .inr _ => True
def RRel (X : TX) (law : Nat) (pre : List Int) (h : Hp) (b p : Nat) (r : PS) : Prop := RGd X h ∧ hI h 294 15 = (law : Int) ∧ RTok X h b (ts r) ∧ RCod pre h p r
def RMt (X : TX) (law : Nat) (pre : List Int) (d : Nat) (M : Me) (ls : List (Option PV)) (f : PS → PS) : Prop := ∀ (h : Hp) (Q : Option PV → Hp → Prop) (r : PS) (b p : Nat), RRel X law pre h b (p + 1) r → (∀ h', RRel X law pre h' b (p + 1) (f r) → Fp RF h h' → Q none h') → WP d M 0 ls [] h Q
theorem RCod.rt {pre : List Int} {h h' : Hp} {p : Nat} {r : PS} (x : RCod pre h p r) (f : Fp RT h h') : RCod pre h' p r := by
  cases r with
  | inl y => exact ⟨x.1, (f.I (by unfold RT; omega)).trans x.2.1, fun j hj => (f.I (by unfold RT; omega)).trans (x.2.2.1 j hj), fun k h1 h2 => (f.I (by unfold RT; omega)).trans (x.2.2.2 k h1 h2)⟩
  | inr e => trivial
theorem RRel.weak {X : TX} {law : Nat} {pre : List Int} {h : Hp} {b b' p p' : Nat} {r : PS} (x : RRel X law pre h b p r) (hb : b' ≤ b) (hp : p' ≤ p) : RRel X law pre h b' p' r := by
  obtain ⟨g, l, t, c⟩ := x
  refine ⟨g, l, t.weak hb, ?_⟩
  cases r with
  | inl y => have c1 := c.1; exact ⟨by omega, c.2⟩
  | inr e => trivial
theorem RRel.lt {X : TX} {law : Nat} {pre : List Int} {h : Hp} {b p : Nat} {r : PS} (x : RRel X law pre h b p r) (h0 : 0 ≤ tkr X r) (h1 : tkr X r ≠ 25) : b < X.2 := by
  cases r with
  | inl y =>
    have a := tk_lt (X := X) (q := y.1) h1
    have c := tAt_ge X y.1
    have t := x.2.2.1.1
    have t : b ≤ y.1 := t
    omega
  | inr e => exact absurd h0 (by show ¬ (0 : Int) ≤ -1; decide)
theorem RT_15 {h h' : Hp} (f : Fp RT h h') : hI h' 294 15 = hI h 294 15 := f.I (by unfold RT; omega)
theorem M_fails {d : Nat} {Q : Option PV → Hp → Prop} {X : TX} {law : Nat} {pre : List Int} {h : Hp} {b p : Nat} {r : PS} {z : Int} (x : RRel X law pre h b p r) (hz : z ≠ 0) (k : ∀ h', RRel X law pre h' b p (fl X z r) → Fp RF h h' → Q none h') : WP d mX12_fails 0 [some (.inr (.inr 294)), some (.inl z)] [] h Q := by
  obtain ⟨g, l, t, c⟩ := x
  refine R_fails g t hz (fun h' g' f' t' => k h' ⟨g', (RT_15 f').trans l, by rw [ts_fl]; exact t', ?_⟩ (f'.mono RT_RF))
  cases r with
  | inl y => trivial
  | inr e => trivial
theorem RCod.nxt {X : TX} {pre : List Int} {h : Hp} {p : Nat} {r : PS} (c : RCod pre h p r) (h1 : tkr X r ≠ 25) : RCod pre h (p + 1) (nx X r) := by
  cases r with
  | inl y =>
    have gt : y.1 + 1 ≤ tBh X y.1 := tBh_gt h1
    have c1 := c.1
    exact ⟨by show (pre ++ y.2).length + (p + 1) ≤ tBh X y.1; omega, c.2⟩
  | inr e => trivial
theorem M_next {d : Nat} {Q : Option PV → Hp → Prop} {X : TX} {law : Nat} {pre : List Int} {h : Hp} {b p : Nat} {r : PS} (x : RRel X law pre h b p r) (h0 : 0 ≤ tkr X r) (h1 : tkr X r ≠ 25) (k : ∀ h', RRel X law pre h' (b + 1) (p + 1) (nx X r) → Fp RF h h' → Q none h') : WP (d + 6) mX12_next 0 [some (.inr (.inr 294)), none] [] h Q := by
  obtain ⟨g, l, t, c⟩ := x
  exact R_next g t h0 h1 (fun h' g' f' t' => k h' ⟨g', (RT_15 f').trans l, by rw [ts_nx]; exact t', (c.rt f').nxt h1⟩ (f'.mono RT_RF))
theorem M_eats1 {d : Nat} {Q : Option PV → Hp → Prop} {X : TX} {law : Nat} {pre : List Int} {h : Hp} {b p : Nat} {r : PS} {z : Int} (x : RRel X law pre h b p r) (hz : 0 ≤ z) (hz2 : z ≠ 25) (c : tkr X r = z) (k : ∀ h', RRel X law pre h' (b + 1) (p + 1) (nx X r) → Fp RF h h' → Q (some (.inl 1)) h') : WP (d + 7) mX12_eats 0 [some (.inr (.inr 294)), some (.inl z)] [] h Q := by
  obtain ⟨g, l, t, cc⟩ := x
  exact R_eats1 g t hz hz2 c (fun h' g' f' t' => k h' ⟨g', (RT_15 f').trans l, by rw [ts_nx]; exact t', (cc.rt f').nxt (by rw [c]; exact hz2)⟩ (f'.mono RT_RF))
theorem eat_1 {X : TX} {k : Int} {r : PS} (c : tkr X r = k) : eat X k r = nx X r := if_pos c
theorem eat_0 {X : TX} {k : Int} {r : PS} (c : ¬ tkr X r = k) : eat X k r = fl X 2 r := if_neg c
theorem c_1089 {n p m q : Nat} (h : n + (p + 1) ≤ q) (hq : q ≤ m) (hm : m ≤ 900) : w32 (189 + (n : Int)) = ((189 + n : Nat) : Int) ∧ (((189 + n : Nat) : Int) < 1089) = True ∧ n ≤ 1000 := ⟨by rw [w32_i (by omega) (by omega)]; omega, eq_true (by omega), by omega⟩
theorem M_codes {d : Nat} {Q : Option PV → Hp → Prop} {X : TX} {law : Nat} {pre : List Int} {h : Hp} {b p : Nat} {r : PS} {c : Int} (x : RRel X law pre h b (p + 1) r) (k : ∀ h', RRel X law pre h' b p (em c r) → Fp RF h h' → Q none h') : WP d mX12_codes 0 [some (.inr (.inr 294)), some (.inl c)] [] h Q := by
  obtain ⟨g, l, t, cc⟩ := x
  have md := g.2.1
  cases r with
  | inl y =>
    obtain ⟨t0, t1, t2, t3⟩ := t
    have t1 : y.1 ≤ X.2 := t1
    obtain ⟨c1, c2, c3, c4⟩ := cc
    obtain ⟨n1, n2, n3⟩ := c_1089 c1 t1 g.2.2.2.1
    have nz : ((189 + (pre ++ y.2).length = 188) = False) := eq_false (by omega)
    simp only [rX12_codes_0, rX12_codes_1, rX12_codes_4, rX12_codes_7, rX12_codes_8, rX12_codes_9, rX12_codes_12, rX12_codes_15, rX12_codes_16, rX12_codes_19, rX12_codes_22, rX12_codes_23, rX12_codes_24, rX12_codes_25, rX12_codes_26, rX12_codes_27, rX12_codes_30, rX12_codes_33, rX12_codes_34, rX12_codes_35, rX12_codes_36, rX12_codes_37, rX12_codes_38, Md_K280 md, Md_R284 md, Md_K284 md, t2, c2, n1, n2, hK_wI, hI_wI, hR_wI, nz, eq_comm (a := 188), i_p1 n3, Int.toNat_natCast, Int.natCast_nonneg, true_and, and_true, and_self, if_true, if_false, or_true, true_or, or_false, false_or, ne_eq, not_true_eq_false, not_false_eq_true, Nat.reduceLeDiff, Nat.reduceEqDiff, Nat.reduceLT, Nat.reduceAdd, Nat.reduceMul, Nat.reduceSub, Int.reduceLT, Int.reduceLE, Int.reduceEq, Int.reduceToNat, Int.reduceAdd, Int.reduceSub, Int.reduceMul, Int.reduceNeg, Int.cast_ofNat_Int, false_and, and_false]
    have f : Fp RF h (wI (wI h 298 (189 + (pre ++ y.2).length) c) 298 188 (((pre ++ y.2).length + 1 : Nat) : Int)) := ((Fp.refl RF h).wI (by unfold RF; omega) _).wI (by unfold RF; omega) _
    have J : ∀ i, hI (wI (wI h 298 (189 + (pre ++ y.2).length) c) 298 188 (((pre ++ y.2).length + 1 : Nat) : Int)) 294 i = hI h 294 i := fun i => by rw [hI_wI, if_neg (by omega), hI_wI, if_neg (by omega)]
    have e : pre ++ (y.2 ++ [c]) = (pre ++ y.2) ++ [c] := (List.append_assoc pre y.2 [c]).symm
    have el : ((pre ++ y.2) ++ [c]).length = (pre ++ y.2).length + 1 := by rw [List.length_append, List.length_cons, List.length_nil]
    refine k _ ⟨g.fp f RF_s, (J 15).trans l, ⟨t0, t1, (J 11).trans t2, (J 6).trans t3.1, (J 7).trans t3.2.1, (J 9).trans t3.2.2.1, fun z => (J 10).trans (t3.2.2.2 z)⟩, ?_⟩ f
    refine ⟨?_, ?_, fun j hj => ?_, fun k h1 h2 => ?_⟩
    · show (pre ++ (y.2 ++ [c])).length + p ≤ y.1
      rw [e, el]; omega
    · show _ = ((pre ++ (y.2 ++ [c])).length : Int)
      rw [e, el, hI_wI, if_pos ⟨rfl, rfl⟩]
    · have hj : j < (pre ++ (y.2 ++ [c])).length := hj
      show _ = (pre ++ (y.2 ++ [c])).getD j 0
      rw [e] at hj ⊢
      rw [hI_wI, if_neg (by omega), hI_wI]
      rcases em_get hj with ⟨a1, a2⟩ | ⟨a1, a2⟩
      · rw [if_neg (by omega), a2]; exact c3 j a1
      · rw [if_pos ⟨rfl, by omega⟩, a2]
    · have h1 : 189 + (pre ++ (y.2 ++ [c])).length ≤ k := h1
      rw [e, el] at h1
      rw [hI_wI, if_neg (by omega), hI_wI, if_neg (by omega)]
      exact c4 k (by omega) h2
  | inr e =>
    have w : (hI h 294 11 = 0) = False := eq_false (t.bad (fun q z => by cases z))
    simp only [rX12_codes_0, rX12_codes_1, rX12_codes_4, rX12_codes_7, Md_K280 md, w, Int.toNat_natCast, Int.natCast_nonneg, true_and, and_true, and_self, if_true, if_false, or_true, true_or, or_false, false_or, ne_eq, not_true_eq_false, not_false_eq_true, Nat.reduceLeDiff, Nat.reduceEqDiff, Nat.reduceLT, Nat.reduceAdd, Nat.reduceMul, Nat.reduceSub, Int.reduceLT, Int.reduceLE, Int.reduceEq, Int.reduceToNat, Int.reduceAdd, Int.reduceSub, Int.reduceMul, Int.reduceNeg, Int.cast_ofNat_Int, false_and, and_false]
    exact k h ⟨g, l, t, trivial⟩ (Fp.refl _ h)
theorem M_goes0 {d : Nat} {Q : Option PV → Hp → Prop} {X : TX} {law : Nat} {pre : List Int} {h : Hp} {b p : Nat} {r : PS} {deep n : Nat} (hd : deep + n = 6) (hn : n = 0) (x : RRel X law pre h b p r) (k : ∀ h', RRel X law pre h' b p (fl X 4 r) → Fp RF h h' → Q (some (.inl 0)) h') : WP (d + 7) mX12_goesIn 0 [some (.inr (.inr 294)), some (.inl (deep : Int))] [] h Q := by
  have e : deep = 6 := by omega
  subst e
  simp only [rX12_goesIn_0, rX12_goesIn_1, rX12_goesIn_3, rX12_goesIn_6, rX12_goesIn_7, rX12_goesIn_8, Md_K280 x.1.2.1, Int.toNat_natCast, Int.natCast_nonneg, true_and, and_true, and_self, if_true, if_false, or_true, true_or, or_false, false_or, ne_eq, not_true_eq_false, not_false_eq_true, Nat.reduceLeDiff, Nat.reduceEqDiff, Nat.reduceLT, Nat.reduceAdd, Nat.reduceMul, Nat.reduceSub, Int.reduceLT, Int.reduceLE, Int.reduceEq, Int.reduceToNat, Int.reduceAdd, Int.reduceSub, Int.reduceMul, Int.reduceNeg, Int.cast_ofNat_Int, false_and, and_false]
  refine M_fails x (by decide) (fun h' x' f' => ?_)
  have w : (hI h' 294 11 = 0) = False := eq_false (x'.2.2.1.bad (by rw [ts_fl]; exact fls_bad X 4 (ts r)))
  simp only [psh_none, rX12_goesIn_11, rX12_goesIn_12, rX12_goesIn_15, rX12_goesIn_18, rX12_goesIn_19, rX12_goesIn_22, rX12_goesIn_23, rX12_goesIn_26, rX12_goesIn_29, rX12_goesIn_30, rX12_goesIn_33, rX12_goesIn_34, Md_K280 x'.1.2.1, w, Int.toNat_natCast, Int.natCast_nonneg, true_and, and_true, and_self, if_true, if_false, or_true, true_or, or_false, false_or, ne_eq, not_true_eq_false, not_false_eq_true, Nat.reduceLeDiff, Nat.reduceEqDiff, Nat.reduceLT, Nat.reduceAdd, Nat.reduceMul, Nat.reduceSub, Int.reduceLT, Int.reduceLE, Int.reduceEq, Int.reduceToNat, Int.reduceAdd, Int.reduceSub, Int.reduceMul, Int.reduceNeg, Int.cast_ofNat_Int, false_and, and_false]
  exact k h' x' f'
theorem RRel.w0 {X : TX} {law : Nat} {pre : List Int} {h : Hp} {b p : Nat} {r : PS} (x : RRel X law pre h b p r) (h0 : 0 ≤ tkr X r) : hI h 294 11 = 0 ∧ hI h 294 9 = tkr X r := by
  obtain ⟨g, l, t, cc⟩ := x
  cases r with
  | inl y => exact ⟨t.2.2.1, t.2.2.2.2.2.1⟩
  | inr e => exact absurd h0 (by show ¬ (0 : Int) ≤ -1; decide)
theorem nx_ge {X : TX} {r : PS} (h : 0 ≤ tkr X r) : 0 ≤ tkr X (nx X r) := by
  cases r with
  | inl y => exact (tk_rng X _).1
  | inr e => exact h
theorem de_6 {deep n : Nat} (hd : deep + n = 6) (hn : ¬ n = 0) : ((deep : Int) = 6) = False := eq_false (by omega)
theorem M_goes1 {d : Nat} {Q : Option PV → Hp → Prop} {X : TX} {law : Nat} {pre : List Int} {h : Hp} {b p : Nat} {r : PS} {deep n : Nat} (hd : deep + n = 6) (hn : ¬ n = 0) (x : RRel X law pre h b p r) (h0 : 0 ≤ tkr X r) (h1 : tkr X r ≠ 25) (k : ∀ h', RRel X law pre h' (b + 1) (p + 1) (nx X r) → Fp RF h h' → Q (some (.inl 1)) h') : WP (d + 7) mX12_goesIn 0 [some (.inr (.inr 294)), some (.inl (deep : Int))] [] h Q := by
  have w := (x.w0 h0).1
  simp only [rX12_goesIn_0, rX12_goesIn_1, rX12_goesIn_3, rX12_goesIn_11, rX12_goesIn_12, rX12_goesIn_15, rX12_goesIn_18, rX12_goesIn_19, Md_K280 x.1.2.1, de_6 hd hn, w, Int.toNat_natCast, Int.natCast_nonneg, true_and, and_true, and_self, if_true, if_false, or_true, true_or, or_false, false_or, ne_eq, not_true_eq_false, not_false_eq_true, Nat.reduceLeDiff, Nat.reduceEqDiff, Nat.reduceLT, Nat.reduceAdd, Nat.reduceMul, Nat.reduceSub, Int.reduceLT, Int.reduceLE, Int.reduceEq, Int.reduceToNat, Int.reduceAdd, Int.reduceSub, Int.reduceMul, Int.reduceNeg, Int.cast_ofNat_Int, false_and, and_false]
  refine M_next (d := d) x h0 h1 (fun h' x' f' => ?_)
  have w := (x'.w0 (nx_ge h0)).1
  simp only [psh_none, rX12_goesIn_22, rX12_goesIn_23, rX12_goesIn_26, rX12_goesIn_29, rX12_goesIn_30, rX12_goesIn_33, rX12_goesIn_34, Md_K280 x'.1.2.1, w, Int.toNat_natCast, Int.natCast_nonneg, true_and, and_true, and_self, if_true, if_false, or_true, true_or, or_false, false_or, ne_eq, not_true_eq_false, not_false_eq_true, Nat.reduceLeDiff, Nat.reduceEqDiff, Nat.reduceLT, Nat.reduceAdd, Nat.reduceMul, Nat.reduceSub, Int.reduceLT, Int.reduceLE, Int.reduceEq, Int.reduceToNat, Int.reduceAdd, Int.reduceSub, Int.reduceMul, Int.reduceNeg, Int.cast_ofNat_Int, false_and, and_false]
  exact k h' x' f'
theorem tb_o {k : Int} (h : k < 7 ∨ 19 < k) : tabT 1 102 7 19 [75, 69, 102, 102, 102, 102, 102, 102, 102, 67, 71, 73, 88] k = 103 := by
  unfold tabT; rw [if_pos h]; rfl
theorem M_wordOf {d : Nat} {Q : Option PV → Hp → Prop} {h : Hp} {law : Nat} (hl : law < 2) (K : hK h 294 = (12, 0)) (e : hI h 294 15 = (law : Int)) {k : Int} : WP d mX12_wordOf 0 [some (.inr (.inr 294)), some (.inl k)] [] h Q = Q (some (.inl (wof law k))) h := by
  by_cases c : k < 7 ∨ 19 < k
  · have w : wof law k = -1 := by
      unfold wof
      rw [if_neg (by omega), if_neg (by omega), if_neg (by omega), if_neg (by omega), if_neg (by omega), if_neg (by omega)]
    rw [w]
    simp only [rX12_wordOf_0, rX12_wordOf_1, rX12_wordOf_68, rX12_wordOf_69, rX12_wordOf_70, rX12_wordOf_71, rX12_wordOf_72, rX12_wordOf_73, rX12_wordOf_74, rX12_wordOf_75, rX12_wordOf_76, rX12_wordOf_77, rX12_wordOf_80, rX12_wordOf_83, rX12_wordOf_84, rX12_wordOf_87, rX12_wordOf_88, rX12_wordOf_89, rX12_wordOf_90, rX12_wordOf_93, rX12_wordOf_94, rX12_wordOf_97, rX12_wordOf_98, rX12_wordOf_101, rX12_wordOf_102, rX12_wordOf_103, rX12_wordOf_104, tb_o c]
  · have hw : law = 0 ∨ law = 1 := by omega
    have hk : k = 7 ∨ k = 8 ∨ k = 9 ∨ k = 10 ∨ k = 11 ∨ k = 12 ∨ k = 13 ∨ k = 14 ∨ k = 15 ∨ k = 16 ∨ k = 17 ∨ k = 18 ∨ k = 19 := by omega
    have ti : ∀ j : Nat, j < 13 → tabT 1 102 7 19 [75, 69, 102, 102, 102, 102, 102, 102, 102, 67, 71, 73, 88] (7 + (j : Int)) = [76, 70, 103, 103, 103, 103, 103, 103, 103, 68, 72, 74, 89].getD j 0 := by decide
    have t0 := ti 0 (by decide)
    have t1 := ti 1 (by decide)
    have t2 := ti 2 (by decide)
    have t3 := ti 3 (by decide)
    have t4 := ti 4 (by decide)
    have t5 := ti 5 (by decide)
    have t6 := ti 6 (by decide)
    have t7 := ti 7 (by decide)
    have t8 := ti 8 (by decide)
    have t9 := ti 9 (by decide)
    have t10 := ti 10 (by decide)
    have t11 := ti 11 (by decide)
    have t12 := ti 12 (by decide)
    clear ti c
    rcases hk with rfl | rfl | rfl | rfl | rfl | rfl | rfl | rfl | rfl | rfl | rfl | rfl | rfl
    · rcases hw with rfl | rfl
      · simp only [rX12_wordOf_0, rX12_wordOf_1, show tabT 1 102 7 19 [75, 69, 102, 102, 102, 102, 102, 102, 102, 67, 71, 73, 88] 7 = 76 from t0, rX12_wordOf_68, rX12_wordOf_69, rX12_wordOf_70, rX12_wordOf_71, rX12_wordOf_72, rX12_wordOf_73, rX12_wordOf_74, rX12_wordOf_75, rX12_wordOf_76, rX12_wordOf_77, rX12_wordOf_80, rX12_wordOf_83, rX12_wordOf_84, rX12_wordOf_87, rX12_wordOf_88, rX12_wordOf_89, rX12_wordOf_90, rX12_wordOf_93, rX12_wordOf_94, rX12_wordOf_97, rX12_wordOf_98, rX12_wordOf_101, rX12_wordOf_102, rX12_wordOf_103, rX12_wordOf_104, K, e, Int.natCast_zero, Int.natCast_one, Int.cast_ofNat_Int, Int.toNat_natCast, Int.natCast_nonneg, true_and, and_true, and_self, if_true, if_false, or_true, true_or, or_false, false_or, ne_eq, not_true_eq_false, not_false_eq_true, Nat.reduceLeDiff, Nat.reduceEqDiff, Nat.reduceLT, Nat.reduceAdd, Nat.reduceMul, Nat.reduceSub, Int.reduceLT, Int.reduceLE, Int.reduceEq, Int.reduceToNat, Int.reduceAdd, Int.reduceSub, Int.reduceMul, Int.reduceNeg, Int.cast_ofNat_Int, false_and, and_false]
        rfl
      · simp only [rX12_wordOf_0, rX12_wordOf_1, show tabT 1 102 7 19 [75, 69, 102, 102, 102, 102, 102, 102, 102, 67, 71, 73, 88] 7 = 76 from t0, rX12_wordOf_68, rX12_wordOf_69, rX12_wordOf_70, rX12_wordOf_71, rX12_wordOf_72, rX12_wordOf_73, rX12_wordOf_74, rX12_wordOf_75, rX12_wordOf_76, rX12_wordOf_77, rX12_wordOf_80, rX12_wordOf_83, rX12_wordOf_84, rX12_wordOf_87, rX12_wordOf_88, rX12_wordOf_89, rX12_wordOf_90, rX12_wordOf_93, rX12_wordOf_94, rX12_wordOf_97, rX12_wordOf_98, rX12_wordOf_101, rX12_wordOf_102, rX12_wordOf_103, rX12_wordOf_104, K, e, Int.natCast_zero, Int.natCast_one, Int.cast_ofNat_Int, Int.toNat_natCast, Int.natCast_nonneg, true_and, and_true, and_self, if_true, if_false, or_true, true_or, or_false, false_or, ne_eq, not_true_eq_false, not_false_eq_true, Nat.reduceLeDiff, Nat.reduceEqDiff, Nat.reduceLT, Nat.reduceAdd, Nat.reduceMul, Nat.reduceSub, Int.reduceLT, Int.reduceLE, Int.reduceEq, Int.reduceToNat, Int.reduceAdd, Int.reduceSub, Int.reduceMul, Int.reduceNeg, Int.cast_ofNat_Int, false_and, and_false]
        rfl
    · simp only [rX12_wordOf_0, rX12_wordOf_1, show tabT 1 102 7 19 [75, 69, 102, 102, 102, 102, 102, 102, 102, 67, 71, 73, 88] 8 = 70 from t1, rX12_wordOf_68, rX12_wordOf_69, rX12_wordOf_70, rX12_wordOf_71, rX12_wordOf_72, rX12_wordOf_73, rX12_wordOf_74, rX12_wordOf_75, rX12_wordOf_76, rX12_wordOf_77, rX12_wordOf_80, rX12_wordOf_83, rX12_wordOf_84, rX12_wordOf_87, rX12_wordOf_88, rX12_wordOf_89, rX12_wordOf_90, rX12_wordOf_93, rX12_wordOf_94, rX12_wordOf_97, rX12_wordOf_98, rX12_wordOf_101, rX12_wordOf_102, rX12_wordOf_103, rX12_wordOf_104]
      rfl
    · simp only [rX12_wordOf_0, rX12_wordOf_1, show tabT 1 102 7 19 [75, 69, 102, 102, 102, 102, 102, 102, 102, 67, 71, 73, 88] 9 = 103 from t2, rX12_wordOf_68, rX12_wordOf_69, rX12_wordOf_70, rX12_wordOf_71, rX12_wordOf_72, rX12_wordOf_73, rX12_wordOf_74, rX12_wordOf_75, rX12_wordOf_76, rX12_wordOf_77, rX12_wordOf_80, rX12_wordOf_83, rX12_wordOf_84, rX12_wordOf_87, rX12_wordOf_88, rX12_wordOf_89, rX12_wordOf_90, rX12_wordOf_93, rX12_wordOf_94, rX12_wordOf_97, rX12_wordOf_98, rX12_wordOf_101, rX12_wordOf_102, rX12_wordOf_103, rX12_wordOf_104]
      rfl
    · simp only [rX12_wordOf_0, rX12_wordOf_1, show tabT 1 102 7 19 [75, 69, 102, 102, 102, 102, 102, 102, 102, 67, 71, 73, 88] 10 = 103 from t3, rX12_wordOf_68, rX12_wordOf_69, rX12_wordOf_70, rX12_wordOf_71, rX12_wordOf_72, rX12_wordOf_73, rX12_wordOf_74, rX12_wordOf_75, rX12_wordOf_76, rX12_wordOf_77, rX12_wordOf_80, rX12_wordOf_83, rX12_wordOf_84, rX12_wordOf_87, rX12_wordOf_88, rX12_wordOf_89, rX12_wordOf_90, rX12_wordOf_93, rX12_wordOf_94, rX12_wordOf_97, rX12_wordOf_98, rX12_wordOf_101, rX12_wordOf_102, rX12_wordOf_103, rX12_wordOf_104]
      rfl
    · simp only [rX12_wordOf_0, rX12_wordOf_1, show tabT 1 102 7 19 [75, 69, 102, 102, 102, 102, 102, 102, 102, 67, 71, 73, 88] 11 = 103 from t4, rX12_wordOf_68, rX12_wordOf_69, rX12_wordOf_70, rX12_wordOf_71, rX12_wordOf_72, rX12_wordOf_73, rX12_wordOf_74, rX12_wordOf_75, rX12_wordOf_76, rX12_wordOf_77, rX12_wordOf_80, rX12_wordOf_83, rX12_wordOf_84, rX12_wordOf_87, rX12_wordOf_88, rX12_wordOf_89, rX12_wordOf_90, rX12_wordOf_93, rX12_wordOf_94, rX12_wordOf_97, rX12_wordOf_98, rX12_wordOf_101, rX12_wordOf_102, rX12_wordOf_103, rX12_wordOf_104]
      rfl
    · simp only [rX12_wordOf_0, rX12_wordOf_1, show tabT 1 102 7 19 [75, 69, 102, 102, 102, 102, 102, 102, 102, 67, 71, 73, 88] 12 = 103 from t5, rX12_wordOf_68, rX12_wordOf_69, rX12_wordOf_70, rX12_wordOf_71, rX12_wordOf_72, rX12_wordOf_73, rX12_wordOf_74, rX12_wordOf_75, rX12_wordOf_76, rX12_wordOf_77, rX12_wordOf_80, rX12_wordOf_83, rX12_wordOf_84, rX12_wordOf_87, rX12_wordOf_88, rX12_wordOf_89, rX12_wordOf_90, rX12_wordOf_93, rX12_wordOf_94, rX12_wordOf_97, rX12_wordOf_98, rX12_wordOf_101, rX12_wordOf_102, rX12_wordOf_103, rX12_wordOf_104]
      rfl
    · simp only [rX12_wordOf_0, rX12_wordOf_1, show tabT 1 102 7 19 [75, 69, 102, 102, 102, 102, 102, 102, 102, 67, 71, 73, 88] 13 = 103 from t6, rX12_wordOf_68, rX12_wordOf_69, rX12_wordOf_70, rX12_wordOf_71, rX12_wordOf_72, rX12_wordOf_73, rX12_wordOf_74, rX12_wordOf_75, rX12_wordOf_76, rX12_wordOf_77, rX12_wordOf_80, rX12_wordOf_83, rX12_wordOf_84, rX12_wordOf_87, rX12_wordOf_88, rX12_wordOf_89, rX12_wordOf_90, rX12_wordOf_93, rX12_wordOf_94, rX12_wordOf_97, rX12_wordOf_98, rX12_wordOf_101, rX12_wordOf_102, rX12_wordOf_103, rX12_wordOf_104]
      rfl
    · simp only [rX12_wordOf_0, rX12_wordOf_1, show tabT 1 102 7 19 [75, 69, 102, 102, 102, 102, 102, 102, 102, 67, 71, 73, 88] 14 = 103 from t7, rX12_wordOf_68, rX12_wordOf_69, rX12_wordOf_70, rX12_wordOf_71, rX12_wordOf_72, rX12_wordOf_73, rX12_wordOf_74, rX12_wordOf_75, rX12_wordOf_76, rX12_wordOf_77, rX12_wordOf_80, rX12_wordOf_83, rX12_wordOf_84, rX12_wordOf_87, rX12_wordOf_88, rX12_wordOf_89, rX12_wordOf_90, rX12_wordOf_93, rX12_wordOf_94, rX12_wordOf_97, rX12_wordOf_98, rX12_wordOf_101, rX12_wordOf_102, rX12_wordOf_103, rX12_wordOf_104]
      rfl
    · simp only [rX12_wordOf_0, rX12_wordOf_1, show tabT 1 102 7 19 [75, 69, 102, 102, 102, 102, 102, 102, 102, 67, 71, 73, 88] 15 = 103 from t8, rX12_wordOf_68, rX12_wordOf_69, rX12_wordOf_70, rX12_wordOf_71, rX12_wordOf_72, rX12_wordOf_73, rX12_wordOf_74, rX12_wordOf_75, rX12_wordOf_76, rX12_wordOf_77, rX12_wordOf_80, rX12_wordOf_83, rX12_wordOf_84, rX12_wordOf_87, rX12_wordOf_88, rX12_wordOf_89, rX12_wordOf_90, rX12_wordOf_93, rX12_wordOf_94, rX12_wordOf_97, rX12_wordOf_98, rX12_wordOf_101, rX12_wordOf_102, rX12_wordOf_103, rX12_wordOf_104]
      rfl
    · simp only [rX12_wordOf_0, rX12_wordOf_1, show tabT 1 102 7 19 [75, 69, 102, 102, 102, 102, 102, 102, 102, 67, 71, 73, 88] 16 = 68 from t9, rX12_wordOf_68, rX12_wordOf_69, rX12_wordOf_70, rX12_wordOf_71, rX12_wordOf_72, rX12_wordOf_73, rX12_wordOf_74, rX12_wordOf_75, rX12_wordOf_76, rX12_wordOf_77, rX12_wordOf_80, rX12_wordOf_83, rX12_wordOf_84, rX12_wordOf_87, rX12_wordOf_88, rX12_wordOf_89, rX12_wordOf_90, rX12_wordOf_93, rX12_wordOf_94, rX12_wordOf_97, rX12_wordOf_98, rX12_wordOf_101, rX12_wordOf_102, rX12_wordOf_103, rX12_wordOf_104]
      rfl
    · simp only [rX12_wordOf_0, rX12_wordOf_1, show tabT 1 102 7 19 [75, 69, 102, 102, 102, 102, 102, 102, 102, 67, 71, 73, 88] 17 = 72 from t10, rX12_wordOf_68, rX12_wordOf_69, rX12_wordOf_70, rX12_wordOf_71, rX12_wordOf_72, rX12_wordOf_73, rX12_wordOf_74, rX12_wordOf_75, rX12_wordOf_76, rX12_wordOf_77, rX12_wordOf_80, rX12_wordOf_83, rX12_wordOf_84, rX12_wordOf_87, rX12_wordOf_88, rX12_wordOf_89, rX12_wordOf_90, rX12_wordOf_93, rX12_wordOf_94, rX12_wordOf_97, rX12_wordOf_98, rX12_wordOf_101, rX12_wordOf_102, rX12_wordOf_103, rX12_wordOf_104]
      rfl
    · simp only [rX12_wordOf_0, rX12_wordOf_1, show tabT 1 102 7 19 [75, 69, 102, 102, 102, 102, 102, 102, 102, 67, 71, 73, 88] 18 = 74 from t11, rX12_wordOf_68, rX12_wordOf_69, rX12_wordOf_70, rX12_wordOf_71, rX12_wordOf_72, rX12_wordOf_73, rX12_wordOf_74, rX12_wordOf_75, rX12_wordOf_76, rX12_wordOf_77, rX12_wordOf_80, rX12_wordOf_83, rX12_wordOf_84, rX12_wordOf_87, rX12_wordOf_88, rX12_wordOf_89, rX12_wordOf_90, rX12_wordOf_93, rX12_wordOf_94, rX12_wordOf_97, rX12_wordOf_98, rX12_wordOf_101, rX12_wordOf_102, rX12_wordOf_103, rX12_wordOf_104]
      rfl
    · rcases hw with rfl | rfl
      · simp only [rX12_wordOf_0, rX12_wordOf_1, show tabT 1 102 7 19 [75, 69, 102, 102, 102, 102, 102, 102, 102, 67, 71, 73, 88] 19 = 89 from t12, rX12_wordOf_68, rX12_wordOf_69, rX12_wordOf_70, rX12_wordOf_71, rX12_wordOf_72, rX12_wordOf_73, rX12_wordOf_74, rX12_wordOf_75, rX12_wordOf_76, rX12_wordOf_77, rX12_wordOf_80, rX12_wordOf_83, rX12_wordOf_84, rX12_wordOf_87, rX12_wordOf_88, rX12_wordOf_89, rX12_wordOf_90, rX12_wordOf_93, rX12_wordOf_94, rX12_wordOf_97, rX12_wordOf_98, rX12_wordOf_101, rX12_wordOf_102, rX12_wordOf_103, rX12_wordOf_104, K, e, Int.natCast_zero, Int.natCast_one, Int.cast_ofNat_Int, Int.toNat_natCast, Int.natCast_nonneg, true_and, and_true, and_self, if_true, if_false, or_true, true_or, or_false, false_or, ne_eq, not_true_eq_false, not_false_eq_true, Nat.reduceLeDiff, Nat.reduceEqDiff, Nat.reduceLT, Nat.reduceAdd, Nat.reduceMul, Nat.reduceSub, Int.reduceLT, Int.reduceLE, Int.reduceEq, Int.reduceToNat, Int.reduceAdd, Int.reduceSub, Int.reduceMul, Int.reduceNeg, Int.cast_ofNat_Int, false_and, and_false]
        rfl
      · simp only [rX12_wordOf_0, rX12_wordOf_1, show tabT 1 102 7 19 [75, 69, 102, 102, 102, 102, 102, 102, 102, 67, 71, 73, 88] 19 = 89 from t12, rX12_wordOf_68, rX12_wordOf_69, rX12_wordOf_70, rX12_wordOf_71, rX12_wordOf_72, rX12_wordOf_73, rX12_wordOf_74, rX12_wordOf_75, rX12_wordOf_76, rX12_wordOf_77, rX12_wordOf_80, rX12_wordOf_83, rX12_wordOf_84, rX12_wordOf_87, rX12_wordOf_88, rX12_wordOf_89, rX12_wordOf_90, rX12_wordOf_93, rX12_wordOf_94, rX12_wordOf_97, rX12_wordOf_98, rX12_wordOf_101, rX12_wordOf_102, rX12_wordOf_103, rX12_wordOf_104, K, e, Int.natCast_zero, Int.natCast_one, Int.cast_ofNat_Int, Int.toNat_natCast, Int.natCast_nonneg, true_and, and_true, and_self, if_true, if_false, or_true, true_or, or_false, false_or, ne_eq, not_true_eq_false, not_false_eq_true, Nat.reduceLeDiff, Nat.reduceEqDiff, Nat.reduceLT, Nat.reduceAdd, Nat.reduceMul, Nat.reduceSub, Int.reduceLT, Int.reduceLE, Int.reduceEq, Int.reduceToNat, Int.reduceAdd, Int.reduceSub, Int.reduceMul, Int.reduceNeg, Int.cast_ofNat_Int, false_and, and_false]
        rfl
