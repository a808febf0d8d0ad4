/-! the reference reads lines -/
def RX (a k : Nat) : Prop := (a = 294 ∧ (k = 6 ∨ k = 7 ∨ k = 9 ∨ k = 10 ∨ k = 11 ∨ k = 12 ∨ k = 15)) ∨ a = 298
theorem RT_RX (a k : Nat) (p : RT a k) : RX a k := by unfold RT at p; unfold RX; omega
theorem RF_RX (a k : Nat) (p : RF a k) : RX a k := by unfold RF at p; unfold RX; omega
theorem RX_s (a k : Nat) (p : RX a k) : 294 ≤ a ∧ a ≠ 297 ∧ (a = 294 → k ≠ 8) := by unfold RX at p; omega
def RLn (X : TX) (h : Hp) (b : Nat) (r : LN) : Prop := RGd X h ∧ RTok X h b (tsl r) ∧ ∀ q A, r = .inl (q, A) → ∀ k, k < 1089 → hI h 298 k = A k
theorem RLn.weak {X : TX} {h : Hp} {b b' : Nat} {r : LN} (x : RLn X h b r) (hb : b' ≤ b) : RLn X h b' r := ⟨x.1, x.2.1.weak hb, x.2.2⟩
theorem mvn_inl {s : TS → TS} {r : LN} {q : Nat} {A : Nat → Int} (h : mvn s r = .inl (q, A)) : ∃ q0, r = .inl (q0, A) ∧ s (.inl q0) = .inl q := by
  cases r with
  | inl x =>
    obtain ⟨q0, A0⟩ := x
    have h : (match s (.inl q0) with | .inl q => (.inl (q, A0) : LN) | .inr e => .inr e) = .inl (q, A) := h
    cases hc : s (.inl q0) with
    | inl q1 =>
      rw [hc] at h
      have e1 : q1 = q ∧ A0 = A := by cases h; exact ⟨rfl, rfl⟩
      exact ⟨q0, by rw [e1.2], by rw [hc, e1.1]⟩
    | inr e => rw [hc] at h; cases h
  | inr e => cases h
theorem RLn.mv {X : TX} {h h' : Hp} {b b' : Nat} {r : LN} {s : TS → TS} (x : RLn X h b r) (hs : ∀ e, s (.inr e) = .inr e) (g : RGd X h') (f : Fp RT h h') (t : RTok X h' b' (s (tsl r))) : RLn X h' b' (mvn s r) := by
  refine ⟨g, by rw [tsl_mvn hs]; exact t, fun q A e k hk => ?_⟩
  obtain ⟨q0, e1, _⟩ := mvn_inl e
  exact (f.I (by unfold RT; omega)).trans (x.2.2 q0 A e1 k hk)
theorem RLn.up {X : TX} {h : Hp} {b : Nat} {r : LN} (x : RLn X h b r) (i : Nat) {v : Int} {g : (Nat → Int) → Int} (hv : ∀ q A, r = .inl (q, A) → v = g A) : RLn X (wI h 298 i v) b (mpl (fun A => upA A i (g A)) r) := by
  have f : Fp RX h (wI h 298 i v) := (Fp.refl RX h).wI (by unfold RX; omega) _
  have J : ∀ j, hI (wI h 298 i v) 294 j = hI h 294 j := fun j => by rw [hI_wI, if_neg (by omega)]
  refine ⟨x.1.fp f RX_s, ?_, fun q A e k hk => ?_⟩
  · rw [tsl_mpl]
    have t := x.2.1
    cases r with
    | inl y =>
      obtain ⟨t0, t1, t2, t3, t4, t5, t6⟩ := t
      exact ⟨t0, t1, (J 11).trans t2, (J 6).trans t3, (J 7).trans t4, (J 9).trans t5, fun z => (J 10).trans (t6 z)⟩
    | inr e =>
      obtain ⟨t0, t1, t2⟩ := t
      exact ⟨t0, (J 11).trans t1, (J 12).trans t2⟩
  · cases r with
    | inl y =>
      obtain ⟨q0, A0⟩ := y
      have e1 : upA A0 i (g A0) = A := by cases e; rfl
      rw [← e1, hI_wI]
      unfold upA
      by_cases c : k = i
      · rw [if_pos ⟨rfl, c⟩, if_pos c]; exact hv q0 A0 rfl
      · rw [if_neg (fun z => c z.2), if_neg c]; exact x.2.2 q0 A0 rfl k hk
    | inr e1 => cases e
theorem RLn.fx {h : Hp} (i : Nat) (v : Int) : Fp RX h (wI h 298 i v) := (Fp.refl RX h).wI (by unfold RX; omega) _
theorem N_fails {d : Nat} {Q : Option PV → Hp → Prop} {X : TX} {h : Hp} {b : Nat} {r : LN} {z : Int} (x : RLn X h b r) (hz : z ≠ 0) (k : ∀ h', RLn X h' b (mvn (fls X z) r) → Fp RX h h' → Q none h') : WP d mX12_fails 0 [some (.inr (.inr 294)), some (.inl z)] [] h Q :=
  R_fails x.1 x.2.1 hz (fun h' g' f' t' => k h' (x.mv (fls_b X z) g' f' t') (f'.mono RT_RX))
theorem N_next {d : Nat} {Q : Option PV → Hp → Prop} {X : TX} {h : Hp} {b : Nat} {r : LN} (x : RLn X h b r) (h0 : 0 ≤ tkl X r) (h1 : tkl X r ≠ 25) (k : ∀ h', RLn X h' (b + 1) (mvn (nxs X) r) → Fp RX h h' → Q none h') : WP (d + 6) mX12_next 0 [some (.inr (.inr 294)), none] [] h Q :=
  R_next x.1 x.2.1 h0 h1 (fun h' g' f' t' => k h' (x.mv (nxs_b X) g' f' t') (f'.mono RT_RX))
theorem N_eats1 {d : Nat} {Q : Option PV → Hp → Prop} {X : TX} {h : Hp} {b : Nat} {r : LN} {z : Int} (x : RLn X h b r) (hz : 0 ≤ z) (hz2 : z ≠ 25) (c : tkl X r = z) (k : ∀ h', RLn X h' (b + 1) (mvn (nxs X) r) → Fp RX h h' → Q (some (.inl 1)) h') : WP (d + 7) mX12_eats 0 [some (.inr (.inr 294)), some (.inl z)] [] h Q :=
  R_eats1 x.1 x.2.1 hz hz2 c (fun h' g' f' t' => k h' (x.mv (nxs_b X) g' f' t') (f'.mono RT_RX))
theorem N_takes {d : Nat} {Q : Option PV → Hp → Prop} {X : TX} {h : Hp} {b : Nat} {r : LN} {m : Int} (x : RLn X h b r) (k : ∀ h' v, RLn X h' b (mvn (tkN X m) r) → (∀ q A, mvn (tkN X m) r = .inl (q, A) → v = nms X (tsl r)) → Fp RX h h' → Q (some (.inl v)) h') : WP (d + 7) mX12_takes 0 [some (.inr (.inr 294)), some (.inl 0), some (.inl m), none] [] h Q :=
  R_takes x.1 x.2.1 (fun h' v g' f' t' e' => k h' v (x.mv (tkN_b X m) g' f' t') (fun q A e => by
    obtain ⟨q0, e1, e2⟩ := mvn_inl e
    exact e' q (by rw [e1]; exact e2)) (f'.mono RT_RX))
theorem mv_e1 {X : TX} {k : Int} {r : LN} (c : tkl X r = k) : mvn (eats X k) r = mvn (nxs X) r := by
  cases r with
  | inl y => show (match eats X k (.inl y.1) with | .inl q => (.inl (q, y.2) : LN) | .inr e => .inr e) = _; rw [show eats X k (.inl y.1) = nxs X (.inl y.1) from if_pos c]; rfl
  | inr e => rfl
theorem mv_e0 {X : TX} {k : Int} {r : LN} (c : ¬ tkl X r = k) : mvn (eats X k) r = mvn (fls X 2) r := by
  cases r with
  | inl y => show (match eats X k (.inl y.1) with | .inl q => (.inl (q, y.2) : LN) | .inr e => .inr e) = _; rw [show eats X k (.inl y.1) = fls X 2 (.inl y.1) from if_neg c]; rfl
  | inr e => rfl
theorem N_ends {d : Nat} {Q : Option PV → Hp → Prop} {X : TX} {h : Hp} {b : Nat} {r : LN} (x : RLn X h b r) (k : ∀ h', RLn X h' b (pEnd X r) → Fp RX h h' → Q none h') : WP (d + 8) mX12_ends 0 [some (.inr (.inr 294))] [] h Q := by
  have fin : ∀ h', RLn X h' b (mvn (eats X 30) r) → Fp RX h h' → WP (d + 8) mX12_ends 14 [some (.inr (.inr 294))] [] h' Q := fun h' x' f' => by
    have m := x'.1.2.1
    simp only [rX12_ends_14, rX12_ends_15, rX12_ends_18, rX12_ends_19, rX12_ends_20, rX12_ends_21, rX12_ends_22, rX12_ends_23, rX12_ends_24, Md_K280 m, Md_R284 m, Md_K284 m, Int.toNat_natCast, Int.natCast_nonneg, true_and, and_true, and_self, if_true, if_false, or_true, true_or, or_false, false_or, ne_eq, not_true_eq_false, not_false_eq_true, Nat.reduceLeDiff, Nat.reduceEqDiff, Nat.reduceLT, Nat.reduceAdd, Nat.reduceMul, Nat.reduceSub, Int.reduceLT, Int.reduceLE, Int.reduceEq, Int.reduceToNat, Int.reduceAdd, Int.reduceSub, Int.reduceMul, Int.reduceNeg, Int.cast_ofNat_Int, false_and, and_false]
    exact k _ (x'.up 0 (g := fun A => w32 (A 0 + 1)) (fun q A e => by rw [x'.2.2 q A e 0 (by decide)])) (f'.trans (RLn.fx _ _))
  by_cases c : tkl X r = 30
  · simp only [rX12_ends_0, rX12_ends_1, rX12_ends_3, Md_K280 x.1.2.1, Int.toNat_natCast, Int.natCast_nonneg, true_and, and_true, and_self, if_true, if_false, or_true, true_or, or_false, false_or, ne_eq, not_true_eq_false, not_false_eq_true, Nat.reduceLeDiff, Nat.reduceEqDiff, Nat.reduceLT, Nat.reduceAdd, Nat.reduceMul, Nat.reduceSub, Int.reduceLT, Int.reduceLE, Int.reduceEq, Int.reduceToNat, Int.reduceAdd, Int.reduceSub, Int.reduceMul, Int.reduceNeg, Int.cast_ofNat_Int, false_and, and_false]
    refine N_eats1 (d := d) x (by decide) (by decide) c (fun h' x' f' => ?_)
    simp only [psh_some, rX12_ends_6, Int.toNat_natCast, Int.natCast_nonneg, true_and, and_true, and_self, if_true, if_false, or_true, true_or, or_false, false_or, ne_eq, not_true_eq_false, not_false_eq_true, Nat.reduceLeDiff, Nat.reduceEqDiff, Nat.reduceLT, Nat.reduceAdd, Nat.reduceMul, Nat.reduceSub, Int.reduceLT, Int.reduceLE, Int.reduceEq, Int.reduceToNat, Int.reduceAdd, Int.reduceSub, Int.reduceMul, Int.reduceNeg, Int.cast_ofNat_Int, false_and, and_false]
    exact fin h' (by rw [mv_e1 c]; exact x'.weak (Nat.le_succ b)) f'
  · have e0 := fun (Q : Option PV → Hp → Prop) => R_eats0 (d := d) (Q := Q) x.1 x.2.1 (z := 30) (by decide) c
    simp only [rX12_ends_0, rX12_ends_1, rX12_ends_3, rX12_ends_6, rX12_ends_9, rX12_ends_10, rX12_ends_11, Md_K280 x.1.2.1, e0, psh_some, Int.toNat_natCast, Int.natCast_nonneg, true_and, and_true, and_self, if_true, if_false, or_true, true_or, or_false, false_or, ne_eq, not_true_eq_false, not_false_eq_true, Nat.reduceLeDiff, Nat.reduceEqDiff, Nat.reduceLT, Nat.reduceAdd, Nat.reduceMul, Nat.reduceSub, Int.reduceLT, Int.reduceLE, Int.reduceEq, Int.reduceToNat, Int.reduceAdd, Int.reduceSub, Int.reduceMul, Int.reduceNeg, Int.cast_ofNat_Int, false_and, and_false]
    refine N_fails x (by decide) (fun h' x' f' => ?_)
    simp only [psh_none]
    exact fin h' (by rw [mv_e0 c]; exact x') f'
theorem RLn.ok {X : TX} {h : Hp} {b : Nat} {r : LN} (x : RLn X h b r) : (hI h 294 11 = 0 ∧ 0 ≤ tkl X r) ∨ (¬ hI h 294 11 = 0 ∧ tkl X r = -1) := by
  have t := x.2.1
  cases r with
  | inl y => exact Or.inl ⟨t.2.2.1, (tk_rng X y.1).1⟩
  | inr e => exact Or.inr ⟨t.bad (fun q z => by cases z), rfl⟩
theorem RLn.lt {X : TX} {h : Hp} {b : Nat} {r : LN} (x : RLn X h b r) (h0 : 0 ≤ tkl X r) (h1 : tkl X r ≠ 25) : b < X.2 := by
  have t := x.2.1
  cases r with
  | inl y =>
    have a := tk_lt (X := X) (q := y.1) h1
    have c := tAt_ge X y.1
    have t : b ≤ y.1 := t.1
    omega
  | inr e => exact absurd h0 (by show ¬ (0 : Int) ≤ -1; decide)
theorem t_t6 {t : Nat} (h : t < 6) : w32 (15 + (t : Int)) = ((15 + t : Nat) : Int) ∧ (((15 + t : Nat) : Int) < 1089) = True ∧ w32 (21 + (t : Int)) = ((21 + t : Nat) : Int) ∧ (((21 + t : Nat) : Int) < 1089) = True ∧ w32 ((t : Int) - 1) = (t : Int) - 1 ∧ w32 (9 + (t : Int)) = ((9 + t : Nat) : Int) ∧ (((9 + t : Nat) : Int) < 1089) = True :=
  ⟨by rw [w32_i (by omega) (by omega)]; omega, eq_true (by omega), by rw [w32_i (by omega) (by omega)]; omega, eq_true (by omega), w32_i (by omega) (by omega), by rw [w32_i (by omega) (by omega)]; omega, eq_true (by omega)⟩
theorem N_part {d : Nat} {Q : Option PV → Hp → Prop} {X : TX} {h : Hp} {b t : Nat} {r : LN} (ht : t < 6) (x : RLn X h b r) (c : isPart (tkl X r) = true) (k : ∀ h', RLn X h' (b + 1) (gPart X t r) → Fp RX h h' → Q (some (.inl (if hI h' 294 11 = 0 then 1 else 0))) h') : WP (d + 8) mX12_readPart 0 [some (.inr (.inr 294)), some (.inl (t : Int))] [] h Q := by
  obtain ⟨w1, w2, w3, w4, w5, _, _⟩ := t_t6 ht
  have K := Md_K280 x.1.2.1
  have fin : ∀ h', RLn X h' (b + 1) (gPart X t r) → Fp RX h h' → WP (d + 8) mX12_readPart 86 [some (.inr (.inr 294)), some (.inl (t : Int))] [] h' Q := fun h' x' f' => by
    have k := k h' x' f'
    have K' := Md_K280 x'.1.2.1
    by_cases z : hI h' 294 11 = 0
    · rw [if_pos z] at k
      simp only [rX12_readPart_86, rX12_readPart_87, rX12_readPart_90, rX12_readPart_93, rX12_readPart_94, rX12_readPart_97, rX12_readPart_98, K', z, Int.toNat_natCast, Int.natCast_nonneg, true_and, and_true, and_self, if_true, if_false, or_true, true_or, or_false, false_or, ne_eq, not_true_eq_false, not_false_eq_true, Nat.reduceLeDiff, Nat.reduceEqDiff, Nat.reduceLT, Nat.reduceAdd, Nat.reduceMul, Nat.reduceSub, Int.reduceLT, Int.reduceLE, Int.reduceEq, Int.reduceToNat, Int.reduceAdd, Int.reduceSub, Int.reduceMul, Int.reduceNeg, Int.cast_ofNat_Int, false_and, and_false]
      exact k
    · rw [if_neg z] at k
      simp only [rX12_readPart_86, rX12_readPart_87, rX12_readPart_90, rX12_readPart_93, rX12_readPart_94, rX12_readPart_97, rX12_readPart_98, K', z, Int.toNat_natCast, Int.natCast_nonneg, true_and, and_true, and_self, if_true, if_false, or_true, true_or, or_false, false_or, ne_eq, not_true_eq_false, not_false_eq_true, Nat.reduceLeDiff, Nat.reduceEqDiff, Nat.reduceLT, Nat.reduceAdd, Nat.reduceMul, Nat.reduceSub, Int.reduceLT, Int.reduceLE, Int.reduceEq, Int.reduceToNat, Int.reduceAdd, Int.reduceSub, Int.reduceMul, Int.reduceNeg, Int.cast_ofNat_Int, false_and, and_false]
      exact k
  unfold gPart at fin
  by_cases c3 : tkl X r = 3
  · rw [if_pos c3] at fin
    simp only [rX12_readPart_0, rX12_readPart_1, rX12_readPart_2, K, Int.toNat_natCast, Int.natCast_nonneg, true_and, and_true, and_self, if_true, if_false, or_true, true_or, or_false, false_or, ne_eq, not_true_eq_false, not_false_eq_true, Nat.reduceLeDiff, Nat.reduceEqDiff, Nat.reduceLT, Nat.reduceAdd, Nat.reduceMul, Nat.reduceSub, Int.reduceLT, Int.reduceLE, Int.reduceEq, Int.reduceToNat, Int.reduceAdd, Int.reduceSub, Int.reduceMul, Int.reduceNeg, Int.cast_ofNat_Int, false_and, and_false]
    refine N_eats1 (d := d) x (by decide) (by decide) c3 (fun h1 x1 f1 => ?_)
    have m1 := x1.1.2.1
    simp only [psh_some, rX12_readPart_5, rX12_readPart_8, rX12_readPart_9, rX12_readPart_12, rX12_readPart_14, rX12_readPart_15, rX12_readPart_16, rX12_readPart_17, rX12_readPart_18, rX12_readPart_20, Md_K280 m1, Md_R284 m1, w1, Int.toNat_natCast, Int.natCast_nonneg, true_and, and_true, and_self, if_true, if_false, or_true, true_or, or_false, false_or, ne_eq, not_true_eq_false, not_false_eq_true, Nat.reduceLeDiff, Nat.reduceEqDiff, Nat.reduceLT, Nat.reduceAdd, Nat.reduceMul, Nat.reduceSub, Int.reduceLT, Int.reduceLE, Int.reduceEq, Int.reduceToNat, Int.reduceAdd, Int.reduceSub, Int.reduceMul, Int.reduceNeg, Int.cast_ofNat_Int, false_and, and_false]
    refine N_takes (d := d) x1 (fun h2 v x2 e2 f2 => ?_)
    have m2 := x2.1.2.1
    simp only [psh_some, rX12_readPart_23, rX12_readPart_24, Md_K284 m2, w2, Int.toNat_natCast, Int.natCast_nonneg, true_and, and_true, and_self, if_true, if_false, or_true, true_or, or_false, false_or, ne_eq, not_true_eq_false, not_false_eq_true, Nat.reduceLeDiff, Nat.reduceEqDiff, Nat.reduceLT, Nat.reduceAdd, Nat.reduceMul, Nat.reduceSub, Int.reduceLT, Int.reduceLE, Int.reduceEq, Int.reduceToNat, Int.reduceAdd, Int.reduceSub, Int.reduceMul, Int.reduceNeg, Int.cast_ofNat_Int, false_and, and_false]
    exact fin _ (x2.up (15 + t) (g := fun _ => nms X (tsl (mvn (nxs X) r))) e2) (f1.trans (f2.trans (RLn.fx _ _)))
  rw [if_neg c3] at fin
  have e3 := fun (Q : Option PV → Hp → Prop) => R_eats0 (d := d) (Q := Q) x.1 x.2.1 (z := 3) (by decide) c3
  by_cases c4 : tkl X r = 4
  · rw [if_pos c4] at fin
    simp only [rX12_readPart_0, rX12_readPart_1, rX12_readPart_2, rX12_readPart_5, rX12_readPart_27, rX12_readPart_28, rX12_readPart_29, K, e3, psh_some, Int.toNat_natCast, Int.natCast_nonneg, true_and, and_true, and_self, if_true, if_false, or_true, true_or, or_false, false_or, ne_eq, not_true_eq_false, not_false_eq_true, Nat.reduceLeDiff, Nat.reduceEqDiff, Nat.reduceLT, Nat.reduceAdd, Nat.reduceMul, Nat.reduceSub, Int.reduceLT, Int.reduceLE, Int.reduceEq, Int.reduceToNat, Int.reduceAdd, Int.reduceSub, Int.reduceMul, Int.reduceNeg, Int.cast_ofNat_Int, false_and, and_false]
    refine N_eats1 (d := d) x (by decide) (by decide) c4 (fun h1 x1 f1 => ?_)
    have m1 := x1.1.2.1
    simp only [psh_some, rX12_readPart_32, rX12_readPart_35, rX12_readPart_36, rX12_readPart_39, rX12_readPart_41, rX12_readPart_42, rX12_readPart_43, rX12_readPart_44, rX12_readPart_45, rX12_readPart_46, rX12_readPart_47, rX12_readPart_48, rX12_readPart_49, rX12_readPart_50, rX12_readPart_51, Md_K280 m1, Md_R284 m1, Md_K284 m1, w3, w4, w5, Int.toNat_natCast, Int.natCast_nonneg, true_and, and_true, and_self, if_true, if_false, or_true, true_or, or_false, false_or, ne_eq, not_true_eq_false, not_false_eq_true, Nat.reduceLeDiff, Nat.reduceEqDiff, Nat.reduceLT, Nat.reduceAdd, Nat.reduceMul, Nat.reduceSub, Int.reduceLT, Int.reduceLE, Int.reduceEq, Int.reduceToNat, Int.reduceAdd, Int.reduceSub, Int.reduceMul, Int.reduceNeg, Int.cast_ofNat_Int, false_and, and_false]
    refine N_takes (d := d) x1 (fun h2 v x2 e2 f2 => ?_)
    have m2 := x2.1.2.1
    simp only [psh_some, rX12_readPart_54, rX12_readPart_55, rX12_readPart_56, rX12_readPart_57, Md_K284 m2, w4, Int.toNat_natCast, Int.natCast_nonneg, true_and, and_true, and_self, if_true, if_false, or_true, true_or, or_false, false_or, ne_eq, not_true_eq_false, not_false_eq_true, Nat.reduceLeDiff, Nat.reduceEqDiff, Nat.reduceLT, Nat.reduceAdd, Nat.reduceMul, Nat.reduceSub, Int.reduceLT, Int.reduceLE, Int.reduceEq, Int.reduceToNat, Int.reduceAdd, Int.reduceSub, Int.reduceMul, Int.reduceNeg, Int.cast_ofNat_Int, false_and, and_false]
    refine fin _ (x2.up (21 + t) (g := fun A => ior (A (21 + t)) (ishl 1 (nms X (tsl (mvn (nxs X) r))))) (fun q A e => ?_)) (f1.trans (f2.trans (RLn.fx _ _)))
    obtain ⟨q0, e5, _⟩ := mvn_inl e
    rw [e2 q A e, x1.2.2 q0 A e5 (21 + t) (by omega)]
  rw [if_neg c4] at fin
  have e4 := fun (Q : Option PV → Hp → Prop) => R_eats0 (d := d) (Q := Q) x.1 x.2.1 (z := 4) (by decide) c4
  have c5 : tkl X r = 5 := by
    unfold isPart at c
    simp only [Bool.or_eq_true, beq_iff_eq] at c
    omega
  simp only [rX12_readPart_0, rX12_readPart_1, rX12_readPart_2, rX12_readPart_5, rX12_readPart_27, rX12_readPart_28, rX12_readPart_29, rX12_readPart_32, rX12_readPart_60, rX12_readPart_61, rX12_readPart_62, K, e3, e4, psh_some, Int.toNat_natCast, Int.natCast_nonneg, true_and, and_true, and_self, if_true, if_false, or_true, true_or, or_false, false_or, ne_eq, not_true_eq_false, not_false_eq_true, Nat.reduceLeDiff, Nat.reduceEqDiff, Nat.reduceLT, Nat.reduceAdd, Nat.reduceMul, Nat.reduceSub, Int.reduceLT, Int.reduceLE, Int.reduceEq, Int.reduceToNat, Int.reduceAdd, Int.reduceSub, Int.reduceMul, Int.reduceNeg, Int.cast_ofNat_Int, false_and, and_false]
  refine N_eats1 (d := d) x (by decide) (by decide) c5 (fun h1 x1 f1 => ?_)
  have m1 := x1.1.2.1
  simp only [psh_some, rX12_readPart_65, rX12_readPart_68, rX12_readPart_69, rX12_readPart_72, rX12_readPart_74, rX12_readPart_75, rX12_readPart_76, rX12_readPart_77, rX12_readPart_78, rX12_readPart_79, rX12_readPart_80, rX12_readPart_81, Md_K280 m1, Md_R284 m1, Md_K284 m1, Int.toNat_natCast, Int.natCast_nonneg, true_and, and_true, and_self, if_true, if_false, or_true, true_or, or_false, false_or, ne_eq, not_true_eq_false, not_false_eq_true, Nat.reduceLeDiff, Nat.reduceEqDiff, Nat.reduceLT, Nat.reduceAdd, Nat.reduceMul, Nat.reduceSub, Int.reduceLT, Int.reduceLE, Int.reduceEq, Int.reduceToNat, Int.reduceAdd, Int.reduceSub, Int.reduceMul, Int.reduceNeg, Int.cast_ofNat_Int, false_and, and_false]
  exact fin _ (x1.up 34 (g := fun A => ior (A 34) (ishl 1 (t : Int))) (fun q A e => by rw [x1.2.2 q A e 34 (by decide)])) (f1.trans (RLn.fx _ _))
theorem N_part0 {d : Nat} {Q : Option PV → Hp → Prop} {X : TX} {h : Hp} {b t : Nat} {r : LN} (x : RLn X h b r) (c : ¬ isPart (tkl X r) = true) : WP (d + 8) mX12_readPart 0 [some (.inr (.inr 294)), some (.inl (t : Int))] [] h Q = Q (some (.inl 0)) h := by
  have K := Md_K280 x.1.2.1
  unfold isPart at c
  simp only [Bool.or_eq_true, beq_iff_eq, not_or] at c
  obtain ⟨⟨c3, c4⟩, c5⟩ := c
  have e3 := fun (Q : Option PV → Hp → Prop) => R_eats0 (d := d) (Q := Q) x.1 x.2.1 (z := 3) (by decide) c3
  have e4 := fun (Q : Option PV → Hp → Prop) => R_eats0 (d := d) (Q := Q) x.1 x.2.1 (z := 4) (by decide) c4
  have e5 := fun (Q : Option PV → Hp → Prop) => R_eats0 (d := d) (Q := Q) x.1 x.2.1 (z := 5) (by decide) c5
  simp only [rX12_readPart_0, rX12_readPart_1, rX12_readPart_2, rX12_readPart_5, rX12_readPart_27, rX12_readPart_28, rX12_readPart_29, rX12_readPart_32, rX12_readPart_60, rX12_readPart_61, rX12_readPart_62, rX12_readPart_65, rX12_readPart_84, rX12_readPart_85, K, e3, e4, e5, psh_some, Int.toNat_natCast, Int.natCast_nonneg, true_and, and_true, and_self, if_true, if_false, or_true, true_or, or_false, false_or, ne_eq, not_true_eq_false, not_false_eq_true, Nat.reduceLeDiff, Nat.reduceEqDiff, Nat.reduceLT, Nat.reduceAdd, Nat.reduceMul, Nat.reduceSub, Int.reduceLT, Int.reduceLE, Int.reduceEq, Int.reduceToNat, Int.reduceAdd, Int.reduceSub, Int.reduceMul, Int.reduceNeg, Int.cast_ofNat_Int, false_and, and_false]
theorem N_parts {d : Nat} {Q : Option PV → Hp → Prop} {X : TX} {t : Nat} (ht : t < 6) : ∀ (m : Nat) (h : Hp) (b : Nat) (r : LN), X.2 ≤ b + m → RLn X h b r → (∀ h', RLn X h' b (pParts X t m r) → Fp RX h h' → WP (d + 9) mX12_readThing 77 [some (.inr (.inr 294)), some (.inl (t : Int))] [] h' Q) → WP (d + 9) mX12_readThing 59 [some (.inr (.inr 294)), some (.inl (t : Int))] [] h Q := by
  intro m
  have out : ∀ (h : Hp) (b : Nat) (r : LN), RLn X h b r → ¬ isPart (tkl X r) = true → WP (d + 9) mX12_readThing 77 [some (.inr (.inr 294)), some (.inl (t : Int))] [] h Q → WP (d + 9) mX12_readThing 59 [some (.inr (.inr 294)), some (.inl (t : Int))] [] h Q := fun h b r x c k => by
    have K := Md_K280 x.1.2.1
    rw [rX12_readThing_59]
    by_cases z : hI h 294 11 = 0
    · simp only [rX12_readThing_60, rX12_readThing_63, rX12_readThing_66, rX12_readThing_67, rX12_readThing_68, rX12_readThing_71, K, z, N_part0 x c, psh_some, Int.toNat_natCast, Int.natCast_nonneg, true_and, and_true, and_self, if_true, if_false, or_true, true_or, or_false, false_or, ne_eq, not_true_eq_false, not_false_eq_true, Nat.reduceLeDiff, Nat.reduceEqDiff, Nat.reduceLT, Nat.reduceAdd, Nat.reduceMul, Nat.reduceSub, Int.reduceLT, Int.reduceLE, Int.reduceEq, Int.reduceToNat, Int.reduceAdd, Int.reduceSub, Int.reduceMul, Int.reduceNeg, Int.cast_ofNat_Int, false_and, and_false]
      exact k
    · simp only [rX12_readThing_60, rX12_readThing_63, rX12_readThing_66, rX12_readThing_67, rX12_readThing_68, rX12_readThing_71, K, z, Int.toNat_natCast, Int.natCast_nonneg, true_and, and_true, and_self, if_true, if_false, or_true, true_or, or_false, false_or, ne_eq, not_true_eq_false, not_false_eq_true, Nat.reduceLeDiff, Nat.reduceEqDiff, Nat.reduceLT, Nat.reduceAdd, Nat.reduceMul, Nat.reduceSub, Int.reduceLT, Int.reduceLE, Int.reduceEq, Int.reduceToNat, Int.reduceAdd, Int.reduceSub, Int.reduceMul, Int.reduceNeg, Int.cast_ofNat_Int, false_and, and_false]
      exact k
  induction m with
  | zero =>
    intro h b r hm x k
    refine out h b r x (fun c => ?_) (k h x (Fp.refl _ h))
    unfold isPart at c
    simp only [Bool.or_eq_true, beq_iff_eq] at c
    have := x.lt (by omega) (by omega)
    omega
  | succ m ih =>
    intro h b r hm x k
    by_cases c : isPart (tkl X r) = true
    · have e : pParts X t (m + 1) r = pParts X t m (gPart X t r) := if_pos c
      rw [e] at k
      have K := Md_K280 x.1.2.1
      have z : hI h 294 11 = 0 := by
        rcases x.ok with z | z
        · exact z.1
        · rw [z.2] at c; exact absurd c (by decide)
      rw [rX12_readThing_59]
      simp only [rX12_readThing_60, rX12_readThing_63, rX12_readThing_66, rX12_readThing_67, rX12_readThing_68, K, z, Int.toNat_natCast, Int.natCast_nonneg, true_and, and_true, and_self, if_true, if_false, or_true, true_or, or_false, false_or, ne_eq, not_true_eq_false, not_false_eq_true, Nat.reduceLeDiff, Nat.reduceEqDiff, Nat.reduceLT, Nat.reduceAdd, Nat.reduceMul, Nat.reduceSub, Int.reduceLT, Int.reduceLE, Int.reduceEq, Int.reduceToNat, Int.reduceAdd, Int.reduceSub, Int.reduceMul, Int.reduceNeg, Int.cast_ofNat_Int, false_and, and_false]
      refine N_part ht x c (fun h1 x1 f1 => ?_)
      rcases x1.ok with z1 | z1
      · rw [if_pos z1.1]
        simp only [psh_some, rX12_readThing_71, rX12_readThing_74, Int.toNat_natCast, Int.natCast_nonneg, true_and, and_true, and_self, if_true, if_false, or_true, true_or, or_false, false_or, ne_eq, not_true_eq_false, not_false_eq_true, Nat.reduceLeDiff, Nat.reduceEqDiff, Nat.reduceLT, Nat.reduceAdd, Nat.reduceMul, Nat.reduceSub, Int.reduceLT, Int.reduceLE, Int.reduceEq, Int.reduceToNat, Int.reduceAdd, Int.reduceSub, Int.reduceMul, Int.reduceNeg, Int.cast_ofNat_Int, false_and, and_false]
        exact ih h1 (b + 1) _ (by omega) x1 (fun h2 x2 f2 => k h2 (x2.weak (Nat.le_succ b)) (f1.trans f2))
      · rw [if_neg z1.1]
        simp only [psh_some, rX12_readThing_71, Int.toNat_natCast, Int.natCast_nonneg, true_and, and_true, and_self, if_true, if_false, or_true, true_or, or_false, false_or, ne_eq, not_true_eq_false, not_false_eq_true, Nat.reduceLeDiff, Nat.reduceEqDiff, Nat.reduceLT, Nat.reduceAdd, Nat.reduceMul, Nat.reduceSub, Int.reduceLT, Int.reduceLE, Int.reduceEq, Int.reduceToNat, Int.reduceAdd, Int.reduceSub, Int.reduceMul, Int.reduceNeg, Int.cast_ofNat_Int, false_and, and_false]
        refine k h1 ?_ f1
        have e2 : pParts X t m (gPart X t r) = gPart X t r := by
          cases m with
          | zero => rfl
          | succ m => exact if_neg (by rw [z1.2]; decide)
        rw [e2]
        exact x1.weak (Nat.le_succ b)
    · have e : pParts X t (m + 1) r = r := if_neg c
      rw [e] at k
      exact out h b r x c (k h x (Fp.refl _ h))
