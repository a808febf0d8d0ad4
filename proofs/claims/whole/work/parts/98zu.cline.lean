/-! the class reads lines -/
def pin (c j : Nat) : Prop := (c = 0 ∧ 8 ≤ j ∧ j ≤ 12) ∨ (1 ≤ c ∧ c ≤ 6 ∧ j < 6)
def pm (c j : Nat) : Nat := if c = 0 then (if j = 8 then 33 else if j = 9 then 34 else if j = 10 then 1 else if j = 11 then 2 else 0) else if c = 1 then 9 + j else if c = 2 then 15 + j else if c = 3 then 21 + j else if c = 4 then 35 + j else if c = 5 then 41 + j else 27 + j
theorem pm_rng {c j : Nat} (h : pin c j) : (c = 0 → pm c j ≤ 2 ∨ 33 ≤ pm c j ∧ pm c j ≤ 34) ∧ (c ≠ 0 → (c = 1 → pm c j = 9 + j) ∧ (c = 2 → pm c j = 15 + j) ∧ (c = 3 → pm c j = 21 + j) ∧ (c = 4 → pm c j = 35 + j) ∧ (c = 5 → pm c j = 41 + j) ∧ (c = 6 → pm c j = 27 + j)) := by
  unfold pin at h
  refine ⟨fun z => ?_, fun z => ⟨fun y => ?_, fun y => ?_, fun y => ?_, fun y => ?_, fun y => ?_, fun y => ?_⟩⟩
  · unfold pm; rw [if_pos z]
    repeat' split
    all_goals omega
  all_goals (subst y; rfl)
theorem pm_0 {j k : Nat} (h1 : 8 ≤ j) (h2 : j ≤ 12) (h3 : 8 ≤ k) (h4 : k ≤ 12) (e : pm 0 j = pm 0 k) : j = k := by
  have a : j = 8 ∨ j = 9 ∨ j = 10 ∨ j = 11 ∨ j = 12 := by omega
  have b : k = 8 ∨ k = 9 ∨ k = 10 ∨ k = 11 ∨ k = 12 := by omega
  rcases a with rfl | rfl | rfl | rfl | rfl <;> rcases b with rfl | rfl | rfl | rfl | rfl <;> first | rfl | exact absurd e (by decide)
theorem pm_inj {c j c' j' : Nat} (h : pin c j) (h' : pin c' j') (e : pm c j = pm c' j') : c = c' ∧ j = j' := by
  have a := pm_rng h
  have b := pm_rng h'
  by_cases z : c = 0
  · by_cases z' : c' = 0
    · subst z z'
      unfold pin at h h'
      exact ⟨rfl, pm_0 (by omega) (by omega) (by omega) (by omega) e⟩
    · unfold pin at h h'
      have a1 := a.1 z
      have b1 := b.2 z'
      clear a b
      have hc : c' = 1 ∨ c' = 2 ∨ c' = 3 ∨ c' = 4 ∨ c' = 5 ∨ c' = 6 := by omega
      rcases hc with hc | hc | hc | hc | hc | hc
      · have := b1.1 hc; omega
      · have := b1.2.1 hc; omega
      · have := b1.2.2.1 hc; omega
      · have := b1.2.2.2.1 hc; omega
      · have := b1.2.2.2.2.1 hc; omega
      · have := b1.2.2.2.2.2 hc; omega
  · by_cases z' : c' = 0
    · unfold pin at h h'
      have a1 := a.2 z
      have b1 := b.1 z'
      clear a b
      have hc : c = 1 ∨ c = 2 ∨ c = 3 ∨ c = 4 ∨ c = 5 ∨ c = 6 := by omega
      rcases hc with hc | hc | hc | hc | hc | hc
      · have := a1.1 hc; omega
      · have := a1.2.1 hc; omega
      · have := a1.2.2.1 hc; omega
      · have := a1.2.2.2.1 hc; omega
      · have := a1.2.2.2.2.1 hc; omega
      · have := a1.2.2.2.2.2 hc; omega
    · unfold pin at h h'
      have a1 := a.2 z
      have b1 := b.2 z'
      clear a b
      have hc : c = 1 ∨ c = 2 ∨ c = 3 ∨ c = 4 ∨ c = 5 ∨ c = 6 := by omega
      have hc' : c' = 1 ∨ c' = 2 ∨ c' = 3 ∨ c' = 4 ∨ c' = 5 ∨ c' = 6 := by omega
      have va : pm c j = (if c = 1 then 9 else if c = 2 then 15 else if c = 3 then 21 else if c = 4 then 35 else if c = 5 then 41 else 27) + j := by
        rcases hc with rfl | rfl | rfl | rfl | rfl | rfl <;> rfl
      have vb : pm c' j' = (if c' = 1 then 9 else if c' = 2 then 15 else if c' = 3 then 21 else if c' = 4 then 35 else if c' = 5 then 41 else 27) + j' := by
        rcases hc' with rfl | rfl | rfl | rfl | rfl | rfl <;> rfl
      clear a1 b1
      rw [va, vb] at e
      have hj : j < 6 := by omega
      have hj' : j' < 6 := by omega
      clear h h' va vb
      rcases hc with rfl | rfl | rfl | rfl | rfl | rfl <;> rcases hc' with rfl | rfl | rfl | rfl | rfl | rfl <;> simp only [Nat.reduceEqDiff, if_true, if_false] at e <;> first | exact ⟨rfl, Nat.add_left_cancel e⟩ | (exfalso; omega)
def PSh (h : Hp) (pl : Nat) : Prop := 314 ≤ pl ∧ hK h pl = (5, 0) ∧ hR h pl 0 = pl + 1 ∧ hR h pl 1 = pl + 2 ∧ hR h pl 2 = pl + 3 ∧ hR h pl 3 = pl + 4 ∧ hR h pl 4 = pl + 5 ∧ hR h pl 5 = pl + 6 ∧ hK h (pl + 1) = (21, 6) ∧ hK h (pl + 2) = (21, 6) ∧ hK h (pl + 3) = (21, 6) ∧ hK h (pl + 4) = (21, 6) ∧ hK h (pl + 5) = (21, 6) ∧ hK h (pl + 6) = (21, 6)
def PHas (h : Hp) (pl : Nat) (A : Nat → Int) : Prop := ∀ c j, pin c j → hI h (pl + c) j = A (pm c j)
def CLn (X : TX) (pl : Nat) (h : Hp) (b : Nat) (r : LN) : Prop := CGd X h ∧ CTok X h b (tsl r) ∧ hR h 201 2 = pl ∧ PSh h pl ∧ ∀ q A, r = .inl (q, A) → PHas h pl A
def PW (pl a k : Nat) : Prop := (a = 201 ∧ (k = 5 ∨ k = 6 ∨ k = 7 ∨ k = 8 ∨ k = 9 ∨ k = 11 ∨ k = 12)) ∨ a = 203 ∨ (pl ≤ a ∧ a ≤ pl + 6)
theorem PT_PW {pl : Nat} (a k : Nat) (p : PT a k) : PW pl a k := by unfold PT at p; unfold PW; omega
theorem PSh.fp {P : Nat → Nat → Prop} {h h' : Hp} {pl : Nat} (x : PSh h pl) (f : Fp P h h') : PSh h' pl := by
  unfold PSh at x ⊢
  simp only [f.K, f.R]
  exact x
theorem CLn.weak {X : TX} {pl : Nat} {h : Hp} {b b' : Nat} {r : LN} (x : CLn X pl h b r) (hb : b' ≤ b) : CLn X pl h b' r := ⟨x.1, x.2.1.weak hb, x.2.2⟩
theorem CLn.mv {X : TX} {pl : Nat} {h h' : Hp} {b b' : Nat} {r : LN} {s : TS → TS} (x : CLn X pl h b r) (hs : ∀ e, s (.inr e) = .inr e) (g : CGd X h') (f : Fp PT h h') (t : CTok X h' b' (s (tsl r))) : CLn X pl h' b' (mvn s r) := by
  have p3 := x.2.2.2.1.1
  refine ⟨g, by rw [tsl_mvn hs]; exact t, (f.R _ _).trans x.2.2.1, x.2.2.2.1.fp f, fun q A e c j hc => ?_⟩
  obtain ⟨q0, e1, _⟩ := mvn_inl e
  exact (f.I (by unfold PT; omega)).trans (x.2.2.2.2 q0 A e1 c j hc)
theorem CLn.fx {X : TX} {pl : Nat} {h : Hp} {c j : Nat} {v : Int} (hc : pin c j) : Fp (PW pl) h (wI h (pl + c) j v) := (Fp.refl (PW pl) h).wI (by unfold PW; unfold pin at hc; omega) _
theorem CLn.up {X : TX} {pl : Nat} {h : Hp} {b : Nat} {r : LN} (x : CLn X pl h b r) {c j : Nat} (hc : pin c j) {v : Int} {g : (Nat → Int) → Int} (hv : ∀ q A, r = .inl (q, A) → v = g A) : CLn X pl (wI h (pl + c) j v) b (mpl (fun A => upA A (pm c j) (g A)) r) := by
  have p3 := x.2.2.2.1.1
  have f : Fp (fun a _ => pl ≤ a) h (wI h (pl + c) j v) := Fp.wI (P := fun a _ => pl ≤ a) (Fp.refl _ h) (Nat.le_add_right pl c) _
  have J : ∀ i, hI (wI h (pl + c) j v) 201 i = hI h 201 i := fun i => by rw [hI_wI, if_neg (by omega)]
  refine ⟨x.1.fp f (fun a k p => by have p : pl ≤ a := p; omega), ?_, x.2.2.1, x.2.2.2.1.fp f, fun q A e c' j' h' => ?_⟩
  · rw [tsl_mpl]
    have t := x.2.1
    cases r with
    | inl y =>
      obtain ⟨t1, t2, t3, t4, t5⟩ := t
      refine ⟨t1, t2, ?_, ?_, ?_⟩
      · rw [J 5]; exact t3
      · rw [J 7, J 11, J 12]; exact t4
      · rw [J 7, J 11, J 12, J 6, J 8]; exact t5
    | inr e =>
      obtain ⟨t1, t2, t3, t4⟩ := t
      exact ⟨t1, (J 7).trans t2, (J 11).trans t3, (J 12).trans t4⟩
  · cases r with
    | inl y =>
      obtain ⟨q0, A0⟩ := y
      have e1 : upA A0 (pm c j) (g A0) = A := by cases e; rfl
      rw [← e1, hI_wI]
      unfold upA
      by_cases z : c' = c ∧ j' = j
      · rw [if_pos ⟨by rw [z.1], z.2⟩, if_pos (by rw [z.1, z.2])]; exact hv q0 A0 rfl
      · rw [if_neg (fun y => z ⟨Nat.add_left_cancel y.1, y.2⟩), if_neg (fun y => z (pm_inj h' hc y))]
        exact x.2.2.2.2 q0 A0 rfl c' j' h'
    | inr e1 => cases e
theorem E_fail {d : Nat} {Q : Option PV → Hp → Prop} {X : TX} {pl : Nat} {h : Hp} {b : Nat} {r : LN} {z : Int} (x : CLn X pl h b r) (hz : z ≠ 0) (k : ∀ h', CLn X pl h' b (mvn (fls X z) r) → Fp (PW pl) h h' → Q none h') : WP d mX6_fail 0 [some (.inr (.inr 201)), some (.inl z)] [] h Q :=
  C_fail x.1 x.2.1 hz (fun h' g' f' t' => k h' (x.mv (fls_b X z) g' f' t') (f'.mono PT_PW))
theorem E_adv {d : Nat} {Q : Option PV → Hp → Prop} {X : TX} {pl : Nat} {h : Hp} {b : Nat} {r : LN} (x : CLn X pl h b r) (h0 : 0 ≤ tkl X r) (h1 : tkl X r ≠ 25) (h2 : tkl X r ≠ 26) (k : ∀ h', CLn X pl h' (b + 1) (mvn (nxs X) r) → Fp (PW pl) h h' → Q none h') : WP (d + 6) mX6_advance 0 [some (.inr (.inr 201))] [] h Q :=
  C_adv x.1 x.2.1 h0 h1 h2 (fun h' g' f' t' => k h' (x.mv (nxs_b X) g' f' t') (f'.mono PT_PW))
theorem CLn.any {X : TX} {pl : Nat} {h : Hp} {b b' : Nat} {r : LN} (x : CLn X pl h b r) (hr : ∀ y, r ≠ .inl y) : CLn X pl h b' r := by
  cases r with
  | inl y => exact absurd rfl (hr y)
  | inr e => exact ⟨x.1, x.2.1, x.2.2⟩
theorem E_takeSign {d : Nat} {Q : Option PV → Hp → Prop} {X : TX} {pl : Nat} {h : Hp} {b : Nat} {r : LN} {z : Int} (x : CLn X pl h b r) (hz : sgn z ≠ 26) (k : ∀ h', CLn X pl h' (b + 1) (mvn (eats X (sgn z)) r) → Fp (PW pl) h h' → Q none h') : WP (d + 7) mX6_takeSign 0 [some (.inr (.inr 201)), some (.inl z)] [] h Q := by
  have K := x.1.2.1
  have z1 := (sgn_30 hz).1
  by_cases c : tkl X r = sgn z
  · simp only [rX6_takeSign_0, rX6_takeSign_1, rX6_takeSign_2, rX6_takeSign_5, rX6_takeSign_8, rX6_takeSign_9, K, C_isSign x.1 x.2.1 hz, zb_t (show tks X (tsl r) = sgn z from c), psh_some, Int.toNat_natCast, Int.natCast_nonneg, true_and, and_true, and_self, if_true, if_false, or_true, true_or, or_false, false_or, ne_eq, not_true_eq_false, not_false_eq_true, Nat.reduceLeDiff, Nat.reduceEqDiff, Nat.reduceLT, Nat.reduceAdd, Nat.reduceMul, Nat.reduceSub, Int.reduceLT, Int.reduceLE, Int.reduceEq, Int.reduceToNat, Int.reduceAdd, Int.reduceSub, Int.reduceMul, Int.reduceNeg, Int.cast_ofNat_Int, false_and, and_false]
    refine E_adv (d := d) x (by omega) (by omega) (by omega) (fun h' x' f' => ?_)
    simp only [psh_none, rX6_takeSign_12, rX6_takeSign_15, rX6_takeSign_16, rX6_takeSign_17, rX6_takeSign_20]
    exact k h' (by rw [mv_e1 c]; exact x') f'
  · simp only [rX6_takeSign_0, rX6_takeSign_1, rX6_takeSign_2, rX6_takeSign_5, rX6_takeSign_15, rX6_takeSign_16, rX6_takeSign_17, K, C_isSign x.1 x.2.1 hz, zb_f (show ¬ tks X (tsl r) = sgn z from c), psh_some, Int.toNat_natCast, Int.natCast_nonneg, true_and, and_true, and_self, if_true, if_false, or_true, true_or, or_false, false_or, ne_eq, not_true_eq_false, not_false_eq_true, Nat.reduceLeDiff, Nat.reduceEqDiff, Nat.reduceLT, Nat.reduceAdd, Nat.reduceMul, Nat.reduceSub, Int.reduceLT, Int.reduceLE, Int.reduceEq, Int.reduceToNat, Int.reduceAdd, Int.reduceSub, Int.reduceMul, Int.reduceNeg, Int.cast_ofNat_Int, false_and, and_false]
    refine E_fail x (by decide) (fun h' x' f' => ?_)
    simp only [psh_none, rX6_takeSign_20]
    exact k h' (by rw [mv_e0 c]; exact x'.any (mvn_fl X 2 r)) f'
theorem E_takeWord {d : Nat} {Q : Option PV → Hp → Prop} {X : TX} {pl : Nat} {h : Hp} {b : Nat} {r : LN} (x : CLn X pl h b r) {i j : Nat} (hi : i < 23) (hj : j < 26) (e : KW.getD i [] = sbyz.getD j []) (k : ∀ h', CLn X pl h' b (mvn (eats X (i : Int)) r) → Fp (PW pl) h h' → Q none h') : WP (d + 7) mX6_takeWord 0 [some (.inr (.inr 201)), some (.inr (.inr (1 + j)))] [] h Q :=
  C_takeWord x.1 x.2.1 hi hj e (fun h' g' f' t' => k h' (x.mv (eats_b X i) g' f' t') (f'.mono PT_PW))
theorem E_takeNum {d : Nat} {Q : Option PV → Hp → Prop} {X : TX} {pl : Nat} {h : Hp} {b : Nat} {r : LN} {m : Int} (x : CLn X pl h b r) (k : ∀ h' v, CLn X pl h' b (mvn (tkN X m) r) → (∀ q A, mvn (tkN X m) r = .inl (q, A) → v = nms X (tsl r)) → Fp (PW pl) h h' → Q (some (.inl v)) h') : WP (d + 7) mX6_takeNumber 0 [some (.inr (.inr 201)), some (.inl m), none] [] h Q :=
  C_takeNum x.1 x.2.1 (fun h' v g' f' t' e' => k h' v (x.mv (tkN_b X m) g' f' t') (fun q A e => by
    obtain ⟨q0, e1, e2⟩ := mvn_inl e
    exact e' q (by rw [e1]; exact e2)) (f'.mono PT_PW))
theorem CLn.lt {X : TX} {pl : Nat} {h : Hp} {b : Nat} {r : LN} (x : CLn X pl h b r) (h0 : 0 ≤ tkl X r) (h1 : tkl X r ≠ 25) : b < X.2 := by
  have t := x.2.1
  cases r with
  | inl y =>
    have a := tk_lt (X := X) (q := y.1) h1
    have c := tAt_ge X y.1
    have t : b ≤ y.1 := t.1
    omega
  | inr e => exact absurd h0 (by show ¬ (0 : Int) ≤ -1; decide)
theorem E_end {d : Nat} {Q : Option PV → Hp → Prop} {X : TX} {pl : Nat} {h : Hp} {b : Nat} {r : LN} (x : CLn X pl h b r) (k : ∀ h', CLn X pl h' (b + 1) (pEnd X r) → Fp (PW pl) h h' → Q none h') : WP (d + 8) mX6_endLine 0 [some (.inr (.inr 201))] [] h Q := by
  simp only [rX6_endLine_0, rX6_endLine_1, rX6_endLine_3, x.1.2.1, Int.toNat_natCast, Int.natCast_nonneg, true_and, and_true, and_self, if_true, if_false, or_true, true_or, or_false, false_or, ne_eq, not_true_eq_false, not_false_eq_true, Nat.reduceLeDiff, Nat.reduceEqDiff, Nat.reduceLT, Nat.reduceAdd, Nat.reduceMul, Nat.reduceSub, Int.reduceLT, Int.reduceLE, Int.reduceEq, Int.reduceToNat, Int.reduceAdd, Int.reduceSub, Int.reduceMul, Int.reduceNeg, Int.cast_ofNat_Int, false_and, and_false]
  refine E_takeSign (d := d) (z := 59) x (by decide) (fun h1 x1 f1 => ?_)
  obtain ⟨p3, pK, _⟩ := x1.2.2.2.1
  have p2 : (200 ≤ pl) = True := eq_true (by omega)
  simp only [psh_none, rX6_endLine_6, rX6_endLine_7, rX6_endLine_10, rX6_endLine_11, rX6_endLine_14, rX6_endLine_15, rX6_endLine_16, rX6_endLine_19, x1.1.2.1, x1.2.2.1, pK, p2, Int.toNat_natCast, Int.natCast_nonneg, true_and, and_true, and_self, if_true, if_false, or_true, true_or, or_false, false_or, ne_eq, not_true_eq_false, not_false_eq_true, Nat.reduceLeDiff, Nat.reduceEqDiff, Nat.reduceLT, Nat.reduceAdd, Nat.reduceMul, Nat.reduceSub, Int.reduceLT, Int.reduceLE, Int.reduceEq, Int.reduceToNat, Int.reduceAdd, Int.reduceSub, Int.reduceMul, Int.reduceNeg, Int.cast_ofNat_Int, false_and, and_false]
  exact k _ (x1.up (c := 0) (j := 12) (by unfold pin; omega) (g := fun A => w32 (A 0 + 1)) (fun q A e => by rw [show hI h1 pl 12 = A 0 from x1.2.2.2.2 q A e 0 12 (by unfold pin; omega)])) (f1.trans (CLn.fx (X := X) (c := 0) (by unfold pin; omega)))
