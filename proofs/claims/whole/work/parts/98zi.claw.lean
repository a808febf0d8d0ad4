/-! the class reads laws -/
def PL (a k : Nat) : Prop := (a = 201 ∧ (k = 5 ∨ k = 6 ∨ k = 7 ∨ k = 8 ∨ k = 9 ∨ k = 11 ∨ k = 12)) ∨ a = 203
theorem PT_PL (a k : Nat) (p : PT a k) : PL a k := by unfold PT at p; unfold PL; omega
theorem PL_s (a k : Nat) (p : PL a k) : 201 ≤ a ∧ a ≠ 202 ∧ (a = 201 → k ≠ 4) := by unfold PL at p; omega
def CCod (X : TX) (h : Hp) (p : Nat) (r : PS) : Prop := match r with
  | .inl x => x.2.length + p ≤ x.1 ∧ hI h 201 9 = (x.2.length : Int) ∧ ∀ j, j < x.2.length → hI h 203 j = enc (x.2.getD j 0)
  | .inr _ => ∃ s : Nat, hI h 201 9 = (s : Int) ∧ s + p ≤ X.2
def CRel (X : TX) (law : Nat) (h : Hp) (b p : Nat) (r : PS) : Prop := CGd X h ∧ hI h 201 10 = (law : Int) ∧ CTok X h b (ts r) ∧ CCod X h p r
def CMt (X : TX) (law d : Nat) (M : Me) (ls : List (Option PV)) (f : PS → PS) : Prop := ∀ (h : Hp) (Q : Option PV → Hp → Prop) (r : PS) (b p : Nat), CRel X law h b (p + 1) r → (∀ h', CRel X law h' b (p + 1) (f r) → Fp PL h h' → Q none h') → WP d M 0 ls [] h Q
theorem CCod.pt {X : TX} {h h' : Hp} {p : Nat} {r : PS} (x : CCod X h p r) (f : Fp PT h h') : CCod X h' p r := by
  have e9 : hI h' 201 9 = hI h 201 9 := f.I (by unfold PT; omega)
  cases r with
  | inl y => exact ⟨x.1, e9.trans x.2.1, fun j hj => (f.I (by unfold PT; omega)).trans (x.2.2 j hj)⟩
  | inr e => obtain ⟨s, s1, s2⟩ := x; exact ⟨s, e9.trans s1, s2⟩
theorem CRel.weak {X : TX} {law : Nat} {h : Hp} {b b' p p' : Nat} {r : PS} (x : CRel X law h b p r) (hb : b' ≤ b) (hp : p' ≤ p) : CRel X law h b' p' r := by
  obtain ⟨g, l, t, c⟩ := x
  refine ⟨g, l, t.weak hb, ?_⟩
  cases r with
  | inl y => have c1 := c.1; exact ⟨by omega, c.2⟩
  | inr e => obtain ⟨s, s1, s2⟩ := c; exact ⟨s, s1, by omega⟩
theorem CRel.lt {X : TX} {law : Nat} {h : Hp} {b p : Nat} {r : PS} (x : CRel X law h b p r) (h0 : 0 ≤ tkr X r) (h1 : tkr X r ≠ 25) : b < X.2 := by
  cases r with
  | inl y =>
    have a := tk_lt (X := X) (q := y.1) h1
    have c := tAt_ge X y.1
    have t := x.2.2.1.1
    have t : b ≤ y.1 := t
    omega
  | inr e => exact absurd h0 (by show ¬ (0 : Int) ≤ -1; decide)
theorem PT_10 {h h' : Hp} (f : Fp PT h h') : hI h' 201 10 = hI h 201 10 := f.I (by unfold PT; omega)
theorem L_fail {d : Nat} {Q : Option PV → Hp → Prop} {X : TX} {law : Nat} {h : Hp} {b p : Nat} {r : PS} {z : Int} (x : CRel X law h b p r) (hz : z ≠ 0) (k : ∀ h', CRel X law h' b p (fl X z r) → Fp PL h h' → Q none h') : WP d mX6_fail 0 [some (.inr (.inr 201)), some (.inl z)] [] h Q := by
  obtain ⟨g, l, t, c⟩ := x
  refine C_fail g t hz (fun h' g' f' t' => k h' ⟨g', (PT_10 f').trans l, by rw [ts_fl]; exact t', ?_⟩ (f'.mono PT_PL))
  have c' := c.pt f'
  cases r with
  | inl y =>
    have t2 : y.1 ≤ X.2 := t.2.1
    have c1 := c'.1
    exact ⟨y.2.length, c'.2.1, by omega⟩
  | inr e => exact c'
theorem L_adv {d : Nat} {Q : Option PV → Hp → Prop} {X : TX} {law : Nat} {h : Hp} {b p : Nat} {r : PS} (x : CRel X law h b p r) (h0 : 0 ≤ tkr X r) (h1 : tkr X r ≠ 25) (h2 : tkr X r ≠ 26) (k : ∀ h', CRel X law h' (b + 1) (p + 1) (nx X r) → Fp PL h h' → Q none h') : WP (d + 6) mX6_advance 0 [some (.inr (.inr 201))] [] h Q := by
  obtain ⟨g, l, t, c⟩ := x
  refine C_adv g t h0 h1 h2 (fun h' g' f' t' => k h' ⟨g', (PT_10 f').trans l, by rw [ts_nx]; exact t', ?_⟩ (f'.mono PT_PL))
  have c' := c.pt f'
  cases r with
  | inl y =>
    have gt : y.1 + 1 ≤ tBh X y.1 := tBh_gt h1
    have c1 := c'.1
    exact ⟨by show y.2.length + (p + 1) ≤ tBh X y.1; omega, c'.2⟩
  | inr e => exact absurd h0 (by show ¬ (0 : Int) ≤ -1; decide)
theorem CCod.eaten {X : TX} {h : Hp} {b p : Nat} {r : PS} {k : Int} (t : CTok X h b (ts r)) {h' : Hp} (c : CCod X h' p r) (hk : k ≠ 25) : CCod X h' p (eat X k r) := by
  unfold eat
  cases r with
  | inl y =>
    have t2 : y.1 ≤ X.2 := t.2.1
    have c1 := c.1
    split
    · rename_i e
      have gt : y.1 + 1 ≤ tBh X y.1 := tBh_gt (by show tkr X (.inl y) ≠ 25; rw [e]; exact hk)
      exact ⟨by show y.2.length + p ≤ tBh X y.1; omega, c.2⟩
    · exact ⟨y.2.length, c.2.1, by omega⟩
  | inr e => split <;> exact c
theorem L_takeSign {d : Nat} {Q : Option PV → Hp → Prop} {X : TX} {law : Nat} {h : Hp} {b p : Nat} {r : PS} {z : Int} (x : CRel X law h b p r) (hz : sgn z ≠ 26) (k : ∀ h', CRel X law h' b p (eat X (sgn z) r) → Fp PL h h' → Q none h') : WP (d + 7) mX6_takeSign 0 [some (.inr (.inr 201)), some (.inl z)] [] h Q := by
  obtain ⟨g, l, t, c⟩ := x
  have z1 := (sgn_30 hz).1
  exact C_takeSign g t hz (fun h' g' f' t' => k h' ⟨g', (PT_10 f').trans l, by rw [ts_eat]; exact t', (c.pt f').eaten t (by omega)⟩ (f'.mono PT_PL))
theorem L_takeWord {d : Nat} {Q : Option PV → Hp → Prop} {X : TX} {law : Nat} {h : Hp} {b p : Nat} {r : PS} (x : CRel X law h b p r) {i j : Nat} (hi : i < 23) (hj : j < 26) (e : KW.getD i [] = sbyz.getD j []) (k : ∀ h', CRel X law h' b p (eat X (i : Int) r) → Fp PL h h' → Q none h') : WP (d + 7) mX6_takeWord 0 [some (.inr (.inr 201)), some (.inr (.inr (1 + j)))] [] h Q := by
  obtain ⟨g, l, t, c⟩ := x
  exact C_takeWord g t hi hj e (fun h' g' f' t' => k h' ⟨g', (PT_10 f').trans l, by rw [ts_eat]; exact t', (c.pt f').eaten t (by omega)⟩ (f'.mono PT_PL))
theorem e_900 {n p m : Nat} (h : n + (p + 1) ≤ m) (hm : m ≤ 900) : ((n : Int) < 900) = True ∧ n ≤ 1000 := ⟨eq_true (by omega), by omega⟩
theorem em_get {cs : List Int} {c : Int} {j : Nat} (hj : j < (cs ++ [c]).length) : (j < cs.length ∧ (cs ++ [c]).getD j 0 = cs.getD j 0) ∨ (j = cs.length ∧ (cs ++ [c]).getD j 0 = c) := by
  rw [List.length_append, List.length_cons, List.length_nil] at hj
  by_cases h : j < cs.length
  · refine Or.inl ⟨h, ?_⟩
    rw [List.getD, List.getD, List.getElem?_append_left h]
  · have e : j = cs.length := by omega
    refine Or.inr ⟨e, ?_⟩
    rw [e, List.getD, List.getElem?_append_right (Nat.le_refl _)]; simp
theorem L_emit {d : Nat} {Q : Option PV → Hp → Prop} {X : TX} {law : Nat} {h : Hp} {b p : Nat} {r : PS} {c u v : Int} (x : CRel X law h b (p + 1) r) (he : ior (ishl v 4) u = enc c) (k : ∀ h', CRel X law h' b p (em c r) → Fp PL h h' → Q none h') : WP d mX6_emit 0 [some (.inr (.inr 201)), some (.inl u), some (.inl v)] [] h Q := by
  obtain ⟨g, l, t, cc⟩ := x
  have n : ∃ n : Nat, hI h 201 9 = (n : Int) ∧ n + (p + 1) ≤ X.2 := by
    cases r with
    | inl y =>
      have t2 : y.1 ≤ X.2 := t.2.1
      have c1 := cc.1
      exact ⟨y.2.length, cc.2.1, by omega⟩
    | inr e => exact cc
  obtain ⟨n, n1, n2⟩ := n
  obtain ⟨l9, l1⟩ := e_900 n2 g.2.2.2.2.2.2.2.1
  obtain ⟨sg, K, R0, R1, K2, K3, I4, hX, T⟩ := id g
  simp only [rX6_emit_0, rX6_emit_1, rX6_emit_4, rX6_emit_5, rX6_emit_8, rX6_emit_9, rX6_emit_12, rX6_emit_13, rX6_emit_16, rX6_emit_17, rX6_emit_20, rX6_emit_21, rX6_emit_22, rX6_emit_23, rX6_emit_24, rX6_emit_25, rX6_emit_26, rX6_emit_27, rX6_emit_28, rX6_emit_31, rX6_emit_32, rX6_emit_33, rX6_emit_36, K, R1, K3, n1, l9, he, hK_wI, hI_wI, hR_wI, i_p1 l1, Int.toNat_natCast, Int.natCast_nonneg, true_and, and_true, and_self, if_true, if_false, or_true, true_or, or_false, false_or, ne_eq, not_true_eq_false, not_false_eq_true, Nat.reduceLeDiff, Nat.reduceEqDiff, Nat.reduceLT, Nat.reduceAdd, Nat.reduceMul, Nat.reduceSub, Int.reduceLT, Int.reduceLE, Int.reduceEq, Int.reduceToNat, Int.reduceAdd, Int.reduceSub, Int.reduceMul, Int.reduceNeg, Int.cast_ofNat_Int, false_and, and_false]
  have f : Fp PL h (wI (wI h 203 n (enc c)) 201 9 ((n + 1 : Nat) : Int)) := ((Fp.refl PL h).wI (by unfold PL; omega) _).wI (by unfold PL; omega) _
  have J : ∀ i, i ≠ 9 → hI (wI (wI h 203 n (enc c)) 201 9 ((n + 1 : Nat) : Int)) 201 i = hI h 201 i := fun i hi => by rw [hI_wI, if_neg (fun z => hi z.2), hI_wI, if_neg (by omega)]
  refine k _ ⟨g.fp f PL_s, (J 10 (by decide)).trans l, ?_, ?_⟩ f
  · rw [ts_em]
    cases r with
    | inl y =>
      obtain ⟨t1, t2, t3, t4, t5⟩ := t
      refine ⟨t1, t2, ?_, ?_, ?_⟩
      · rw [J 5 (by decide)]; exact t3
      · rw [J 7 (by decide), J 11 (by decide), J 12 (by decide)]; exact t4
      · rw [J 7 (by decide), J 11 (by decide), J 12 (by decide), J 6 (by decide), J 8 (by decide)]; exact t5
    | inr e =>
      obtain ⟨t1, t2, t3, t4⟩ := t
      exact ⟨t1, (J 7 (by decide)).trans t2, (J 11 (by decide)).trans t3, (J 12 (by decide)).trans t4⟩
  · cases r with
    | inl y =>
      obtain ⟨c1, c2, c3⟩ := cc
      have e : n = y.2.length := by have := n1.symm.trans c2; omega
      refine ⟨?_, ?_, fun j hj => ?_⟩
      · show (y.2 ++ [c]).length + p ≤ y.1
        rw [List.length_append, List.length_cons, List.length_nil]; omega
      · show _ = ((y.2 ++ [c]).length : Int)
        rw [hI_wI, if_pos ⟨rfl, rfl⟩, List.length_append, List.length_cons, List.length_nil, e]
      · show _ = enc ((y.2 ++ [c]).getD j 0)
        rw [hI_wI, if_neg (by omega), hI_wI]
        rcases em_get hj with ⟨a1, a2⟩ | ⟨a1, a2⟩
        · rw [if_neg (by omega), a2]; exact c3 j a1
        · rw [if_pos ⟨rfl, by omega⟩, a2]
    | inr e => exact ⟨n + 1, by rw [hI_wI, if_pos ⟨rfl, rfl⟩], by omega⟩
theorem enl_n {c : Int} (h0 : 0 ≤ c) (h1 : c ≤ 999) : ior (ishl c 4) 0 = enc c := by
  have a := ishl_n (a := c.toNat) (i := 4) (by omega) (by decide)
  rw [show ((c.toNat : Nat) : Int) = c by omega] at a
  have b := ior_0 (v := c.toNat * 2 ^ 4) (by omega)
  rw [show ((4 : Nat) : Int) = 4 from rfl] at a
  rw [a, b]
  unfold enc
  rw [if_pos (by omega)]; omega
theorem enl_w : ∀ n : Nat, n < 6 → ior (ishl (n : Int) 4) 1 = enc (1000 + (n : Int)) := by decide +kernel
theorem enl_v {c : Int} (h0 : 0 ≤ c) (h1 : c ≤ 5) : ior (ishl c 4) 1 = enc (1000 + c) := by
  have := enl_w c.toNat (by omega)
  rwa [show ((c.toNat : Nat) : Int) = c by omega] at this
theorem zb_z {p : Prop} [Decidable p] : (zb p = 0) = (¬ p) := by
  unfold zb
  by_cases h : p
  · rw [if_pos h]; simp [h]
  · rw [if_neg h]; simp [h]
theorem iteN {α : Type} {p : Prop} [Decidable p] {x y : α} (h : ¬ p) : (if p then x else y) = y := if_neg h
theorem L_known {d : Nat} {Q : Option PV → Hp → Prop} {X : TX} {law : Nat} {h : Hp} {b p : Nat} {r : PS} (hl : law < 2) (x : CRel X law h b p r) : WP (d + 6) mX6_knownWord 0 [some (.inr (.inr 201))] [] h Q = Q (some (.inl (wof law (tkr X r)))) h := by
  have K := x.1.2.1
  have e10 := x.2.1
  have w_who : ∀ (Q : Option PV → Hp → Prop), WP (d + 5) mX6_isWord 0 [some (.inr (.inr 201)), some (.inr (.inr 13)), none] [] h Q = Q (some (.inl (zb (tkr X r = 16)))) h := fun Q => C_isWord (d := d) (Q := Q) x.1 x.2.2.1 (i := 16) (j := 12) (by decide) (by decide) rfl
  have w_bold : ∀ (Q : Option PV → Hp → Prop), WP (d + 5) mX6_isWord 0 [some (.inr (.inr 201)), some (.inr (.inr 10)), none] [] h Q = Q (some (.inl (zb (tkr X r = 8)))) h := fun Q => C_isWord (d := d) (Q := Q) x.1 x.2.2.1 (i := 8) (j := 9) (by decide) (by decide) rfl
  have w_board : ∀ (Q : Option PV → Hp → Prop), WP (d + 5) mX6_isWord 0 [some (.inr (.inr 201)), some (.inr (.inr 14)), none] [] h Q = Q (some (.inl (zb (tkr X r = 17)))) h := fun Q => C_isWord (d := d) (Q := Q) x.1 x.2.2.1 (i := 17) (j := 13) (by decide) (by decide) rfl
  have w_things : ∀ (Q : Option PV → Hp → Prop), WP (d + 5) mX6_isWord 0 [some (.inr (.inr 201)), some (.inr (.inr 15)), none] [] h Q = Q (some (.inl (zb (tkr X r = 18)))) h := fun Q => C_isWord (d := d) (Q := Q) x.1 x.2.2.1 (i := 18) (j := 14) (by decide) (by decide) rfl
  have w_reach : ∀ (Q : Option PV → Hp → Prop), WP (d + 5) mX6_isWord 0 [some (.inr (.inr 201)), some (.inr (.inr 16)), none] [] h Q = Q (some (.inl (zb (tkr X r = 19)))) h := fun Q => C_isWord (d := d) (Q := Q) x.1 x.2.2.1 (i := 19) (j := 15) (by decide) (by decide) rfl
  have w_breath : ∀ (Q : Option PV → Hp → Prop), WP (d + 5) mX6_isWord 0 [some (.inr (.inr 201)), some (.inr (.inr 9)), none] [] h Q = Q (some (.inl (zb (tkr X r = 7)))) h := fun Q => C_isWord (d := d) (Q := Q) x.1 x.2.2.1 (i := 7) (j := 8) (by decide) (by decide) rfl
  have hw : law = 0 ∨ law = 1 := by omega
  generalize tkr X r = k at *
  unfold wof
  by_cases a : k = 16
  · simp only [rX6_knownWord_0, rX6_knownWord_1, rX6_knownWord_3, rX6_knownWord_6, rX6_knownWord_9, rX6_knownWord_10, rX6_knownWord_11, rX6_knownWord_12, rX6_knownWord_14, rX6_knownWord_17, rX6_knownWord_20, rX6_knownWord_21, rX6_knownWord_22, rX6_knownWord_23, rX6_knownWord_25, rX6_knownWord_28, rX6_knownWord_31, rX6_knownWord_32, rX6_knownWord_33, rX6_knownWord_34, rX6_knownWord_36, rX6_knownWord_39, rX6_knownWord_42, rX6_knownWord_43, rX6_knownWord_44, rX6_knownWord_45, rX6_knownWord_48, rX6_knownWord_51, rX6_knownWord_52, rX6_knownWord_54, rX6_knownWord_57, rX6_knownWord_60, rX6_knownWord_61, rX6_knownWord_64, rX6_knownWord_65, rX6_knownWord_66, rX6_knownWord_67, rX6_knownWord_69, rX6_knownWord_72, rX6_knownWord_75, rX6_knownWord_76, rX6_knownWord_79, rX6_knownWord_80, K, w_who, zb_t a, psh_some, if_pos a, Int.toNat_natCast, Int.natCast_nonneg, true_and, and_true, and_self, if_true, if_false, or_true, true_or, or_false, false_or, ne_eq, not_true_eq_false, not_false_eq_true, Nat.reduceLeDiff, Nat.reduceEqDiff, Nat.reduceLT, Nat.reduceAdd, Nat.reduceMul, Nat.reduceSub, Int.reduceLT, Int.reduceLE, Int.reduceEq, Int.reduceToNat, Int.reduceAdd, Int.reduceSub, Int.reduceMul, Int.reduceNeg, Int.cast_ofNat_Int, false_and, and_false]
  by_cases a2 : k = 8
  · simp only [rX6_knownWord_0, rX6_knownWord_1, rX6_knownWord_3, rX6_knownWord_6, rX6_knownWord_9, rX6_knownWord_10, rX6_knownWord_11, rX6_knownWord_12, rX6_knownWord_14, rX6_knownWord_17, rX6_knownWord_20, rX6_knownWord_21, rX6_knownWord_22, rX6_knownWord_23, rX6_knownWord_25, rX6_knownWord_28, rX6_knownWord_31, rX6_knownWord_32, rX6_knownWord_33, rX6_knownWord_34, rX6_knownWord_36, rX6_knownWord_39, rX6_knownWord_42, rX6_knownWord_43, rX6_knownWord_44, rX6_knownWord_45, rX6_knownWord_48, rX6_knownWord_51, rX6_knownWord_52, rX6_knownWord_54, rX6_knownWord_57, rX6_knownWord_60, rX6_knownWord_61, rX6_knownWord_64, rX6_knownWord_65, rX6_knownWord_66, rX6_knownWord_67, rX6_knownWord_69, rX6_knownWord_72, rX6_knownWord_75, rX6_knownWord_76, rX6_knownWord_79, rX6_knownWord_80, K, w_who, w_bold, zb_f a, zb_t a2, psh_some, if_neg a, if_pos a2, Int.toNat_natCast, Int.natCast_nonneg, true_and, and_true, and_self, if_true, if_false, or_true, true_or, or_false, false_or, ne_eq, not_true_eq_false, not_false_eq_true, Nat.reduceLeDiff, Nat.reduceEqDiff, Nat.reduceLT, Nat.reduceAdd, Nat.reduceMul, Nat.reduceSub, Int.reduceLT, Int.reduceLE, Int.reduceEq, Int.reduceToNat, Int.reduceAdd, Int.reduceSub, Int.reduceMul, Int.reduceNeg, Int.cast_ofNat_Int, false_and, and_false]
  by_cases a3 : k = 17
  · simp only [rX6_knownWord_0, rX6_knownWord_1, rX6_knownWord_3, rX6_knownWord_6, rX6_knownWord_9, rX6_knownWord_10, rX6_knownWord_11, rX6_knownWord_12, rX6_knownWord_14, rX6_knownWord_17, rX6_knownWord_20, rX6_knownWord_21, rX6_knownWord_22, rX6_knownWord_23, rX6_knownWord_25, rX6_knownWord_28, rX6_knownWord_31, rX6_knownWord_32, rX6_knownWord_33, rX6_knownWord_34, rX6_knownWord_36, rX6_knownWord_39, rX6_knownWord_42, rX6_knownWord_43, rX6_knownWord_44, rX6_knownWord_45, rX6_knownWord_48, rX6_knownWord_51, rX6_knownWord_52, rX6_knownWord_54, rX6_knownWord_57, rX6_knownWord_60, rX6_knownWord_61, rX6_knownWord_64, rX6_knownWord_65, rX6_knownWord_66, rX6_knownWord_67, rX6_knownWord_69, rX6_knownWord_72, rX6_knownWord_75, rX6_knownWord_76, rX6_knownWord_79, rX6_knownWord_80, K, w_who, w_bold, w_board, zb_f a, zb_f a2, zb_t a3, psh_some, if_neg a, if_neg a2, if_pos a3, Int.toNat_natCast, Int.natCast_nonneg, true_and, and_true, and_self, if_true, if_false, or_true, true_or, or_false, false_or, ne_eq, not_true_eq_false, not_false_eq_true, Nat.reduceLeDiff, Nat.reduceEqDiff, Nat.reduceLT, Nat.reduceAdd, Nat.reduceMul, Nat.reduceSub, Int.reduceLT, Int.reduceLE, Int.reduceEq, Int.reduceToNat, Int.reduceAdd, Int.reduceSub, Int.reduceMul, Int.reduceNeg, Int.cast_ofNat_Int, false_and, and_false]
  by_cases a4 : k = 18
  · simp only [rX6_knownWord_0, rX6_knownWord_1, rX6_knownWord_3, rX6_knownWord_6, rX6_knownWord_9, rX6_knownWord_10, rX6_knownWord_11, rX6_knownWord_12, rX6_knownWord_14, rX6_knownWord_17, rX6_knownWord_20, rX6_knownWord_21, rX6_knownWord_22, rX6_knownWord_23, rX6_knownWord_25, rX6_knownWord_28, rX6_knownWord_31, rX6_knownWord_32, rX6_knownWord_33, rX6_knownWord_34, rX6_knownWord_36, rX6_knownWord_39, rX6_knownWord_42, rX6_knownWord_43, rX6_knownWord_44, rX6_knownWord_45, rX6_knownWord_48, rX6_knownWord_51, rX6_knownWord_52, rX6_knownWord_54, rX6_knownWord_57, rX6_knownWord_60, rX6_knownWord_61, rX6_knownWord_64, rX6_knownWord_65, rX6_knownWord_66, rX6_knownWord_67, rX6_knownWord_69, rX6_knownWord_72, rX6_knownWord_75, rX6_knownWord_76, rX6_knownWord_79, rX6_knownWord_80, K, w_who, w_bold, w_board, w_things, zb_f a, zb_f a2, zb_f a3, zb_t a4, psh_some, if_neg a, if_neg a2, if_neg a3, if_pos a4, Int.toNat_natCast, Int.natCast_nonneg, true_and, and_true, and_self, if_true, if_false, or_true, true_or, or_false, false_or, ne_eq, not_true_eq_false, not_false_eq_true, Nat.reduceLeDiff, Nat.reduceEqDiff, Nat.reduceLT, Nat.reduceAdd, Nat.reduceMul, Nat.reduceSub, Int.reduceLT, Int.reduceLE, Int.reduceEq, Int.reduceToNat, Int.reduceAdd, Int.reduceSub, Int.reduceMul, Int.reduceNeg, Int.cast_ofNat_Int, false_and, and_false]
  rw [if_neg a, if_neg a2, if_neg a3, if_neg a4]
  rcases hw with rfl | rfl
  · by_cases a5 : k = 7
    · simp only [rX6_knownWord_0, rX6_knownWord_1, rX6_knownWord_3, rX6_knownWord_6, rX6_knownWord_9, rX6_knownWord_10, rX6_knownWord_11, rX6_knownWord_12, rX6_knownWord_14, rX6_knownWord_17, rX6_knownWord_20, rX6_knownWord_21, rX6_knownWord_22, rX6_knownWord_23, rX6_knownWord_25, rX6_knownWord_28, rX6_knownWord_31, rX6_knownWord_32, rX6_knownWord_33, rX6_knownWord_34, rX6_knownWord_36, rX6_knownWord_39, rX6_knownWord_42, rX6_knownWord_43, rX6_knownWord_44, rX6_knownWord_45, rX6_knownWord_48, rX6_knownWord_51, rX6_knownWord_52, rX6_knownWord_54, rX6_knownWord_57, rX6_knownWord_60, rX6_knownWord_61, rX6_knownWord_64, rX6_knownWord_65, rX6_knownWord_66, rX6_knownWord_67, rX6_knownWord_69, rX6_knownWord_72, rX6_knownWord_75, rX6_knownWord_76, rX6_knownWord_79, rX6_knownWord_80, K, e10, w_who, w_bold, w_board, w_things, w_breath, zb_f a, zb_f a2, zb_f a3, zb_f a4, zb_t a5, psh_some, if_pos a5, Int.natCast_zero, Int.cast_ofNat_Int, Int.toNat_natCast, Int.natCast_nonneg, true_and, and_true, and_self, if_true, if_false, or_true, true_or, or_false, false_or, ne_eq, not_true_eq_false, not_false_eq_true, Nat.reduceLeDiff, Nat.reduceEqDiff, Nat.reduceLT, Nat.reduceAdd, Nat.reduceMul, Nat.reduceSub, Int.reduceLT, Int.reduceLE, Int.reduceEq, Int.reduceToNat, Int.reduceAdd, Int.reduceSub, Int.reduceMul, Int.reduceNeg, Int.cast_ofNat_Int, false_and, and_false]
    · by_cases a6 : k = 19
      · simp only [rX6_knownWord_0, rX6_knownWord_1, rX6_knownWord_3, rX6_knownWord_6, rX6_knownWord_9, rX6_knownWord_10, rX6_knownWord_11, rX6_knownWord_12, rX6_knownWord_14, rX6_knownWord_17, rX6_knownWord_20, rX6_knownWord_21, rX6_knownWord_22, rX6_knownWord_23, rX6_knownWord_25, rX6_knownWord_28, rX6_knownWord_31, rX6_knownWord_32, rX6_knownWord_33, rX6_knownWord_34, rX6_knownWord_36, rX6_knownWord_39, rX6_knownWord_42, rX6_knownWord_43, rX6_knownWord_44, rX6_knownWord_45, rX6_knownWord_48, rX6_knownWord_51, rX6_knownWord_52, rX6_knownWord_54, rX6_knownWord_57, rX6_knownWord_60, rX6_knownWord_61, rX6_knownWord_64, rX6_knownWord_65, rX6_knownWord_66, rX6_knownWord_67, rX6_knownWord_69, rX6_knownWord_72, rX6_knownWord_75, rX6_knownWord_76, rX6_knownWord_79, rX6_knownWord_80, K, e10, w_who, w_bold, w_board, w_things, w_breath, zb_f a, zb_f a2, zb_f a3, zb_f a4, zb_f a5, psh_some, if_neg a5, if_pos a6, Int.natCast_zero, Int.cast_ofNat_Int, Int.toNat_natCast, Int.natCast_nonneg, true_and, and_true, and_self, if_true, if_false, or_true, true_or, or_false, false_or, ne_eq, not_true_eq_false, not_false_eq_true, Nat.reduceLeDiff, Nat.reduceEqDiff, Nat.reduceLT, Nat.reduceAdd, Nat.reduceMul, Nat.reduceSub, Int.reduceLT, Int.reduceLE, Int.reduceEq, Int.reduceToNat, Int.reduceAdd, Int.reduceSub, Int.reduceMul, Int.reduceNeg, Int.cast_ofNat_Int, false_and, and_false]
      · simp only [rX6_knownWord_0, rX6_knownWord_1, rX6_knownWord_3, rX6_knownWord_6, rX6_knownWord_9, rX6_knownWord_10, rX6_knownWord_11, rX6_knownWord_12, rX6_knownWord_14, rX6_knownWord_17, rX6_knownWord_20, rX6_knownWord_21, rX6_knownWord_22, rX6_knownWord_23, rX6_knownWord_25, rX6_knownWord_28, rX6_knownWord_31, rX6_knownWord_32, rX6_knownWord_33, rX6_knownWord_34, rX6_knownWord_36, rX6_knownWord_39, rX6_knownWord_42, rX6_knownWord_43, rX6_knownWord_44, rX6_knownWord_45, rX6_knownWord_48, rX6_knownWord_51, rX6_knownWord_52, rX6_knownWord_54, rX6_knownWord_57, rX6_knownWord_60, rX6_knownWord_61, rX6_knownWord_64, rX6_knownWord_65, rX6_knownWord_66, rX6_knownWord_67, rX6_knownWord_69, rX6_knownWord_72, rX6_knownWord_75, rX6_knownWord_76, rX6_knownWord_79, rX6_knownWord_80, K, e10, w_who, w_bold, w_board, w_things, w_breath, zb_f a, zb_f a2, zb_f a3, zb_f a4, zb_f a5, psh_some, if_neg a5, if_neg a6, Int.natCast_zero, Int.cast_ofNat_Int, Int.toNat_natCast, Int.natCast_nonneg, true_and, and_true, and_self, if_true, if_false, or_true, true_or, or_false, false_or, ne_eq, not_true_eq_false, not_false_eq_true, Nat.reduceLeDiff, Nat.reduceEqDiff, Nat.reduceLT, Nat.reduceAdd, Nat.reduceMul, Nat.reduceSub, Int.reduceLT, Int.reduceLE, Int.reduceEq, Int.reduceToNat, Int.reduceAdd, Int.reduceSub, Int.reduceMul, Int.reduceNeg, Int.cast_ofNat_Int, false_and, and_false]
  · by_cases a5 : k = 7
    · have a6 : ¬ k = 19 := by omega
      simp only [rX6_knownWord_0, rX6_knownWord_1, rX6_knownWord_3, rX6_knownWord_6, rX6_knownWord_9, rX6_knownWord_10, rX6_knownWord_11, rX6_knownWord_12, rX6_knownWord_14, rX6_knownWord_17, rX6_knownWord_20, rX6_knownWord_21, rX6_knownWord_22, rX6_knownWord_23, rX6_knownWord_25, rX6_knownWord_28, rX6_knownWord_31, rX6_knownWord_32, rX6_knownWord_33, rX6_knownWord_34, rX6_knownWord_36, rX6_knownWord_39, rX6_knownWord_42, rX6_knownWord_43, rX6_knownWord_44, rX6_knownWord_45, rX6_knownWord_48, rX6_knownWord_51, rX6_knownWord_52, rX6_knownWord_54, rX6_knownWord_57, rX6_knownWord_60, rX6_knownWord_61, rX6_knownWord_64, rX6_knownWord_65, rX6_knownWord_66, rX6_knownWord_67, rX6_knownWord_69, rX6_knownWord_72, rX6_knownWord_75, rX6_knownWord_76, rX6_knownWord_79, rX6_knownWord_80, K, e10, w_who, w_bold, w_board, w_things, w_reach, zb_f a, zb_f a2, zb_f a3, zb_f a4, zb_f a6, psh_some, if_pos a5, Int.natCast_one, Int.cast_ofNat_Int, Int.toNat_natCast, Int.natCast_nonneg, true_and, and_true, and_self, if_true, if_false, or_true, true_or, or_false, false_or, ne_eq, not_true_eq_false, not_false_eq_true, Nat.reduceLeDiff, Nat.reduceEqDiff, Nat.reduceLT, Nat.reduceAdd, Nat.reduceMul, Nat.reduceSub, Int.reduceLT, Int.reduceLE, Int.reduceEq, Int.reduceToNat, Int.reduceAdd, Int.reduceSub, Int.reduceMul, Int.reduceNeg, Int.cast_ofNat_Int, false_and, and_false]
    · by_cases a6 : k = 19
      · simp only [rX6_knownWord_0, rX6_knownWord_1, rX6_knownWord_3, rX6_knownWord_6, rX6_knownWord_9, rX6_knownWord_10, rX6_knownWord_11, rX6_knownWord_12, rX6_knownWord_14, rX6_knownWord_17, rX6_knownWord_20, rX6_knownWord_21, rX6_knownWord_22, rX6_knownWord_23, rX6_knownWord_25, rX6_knownWord_28, rX6_knownWord_31, rX6_knownWord_32, rX6_knownWord_33, rX6_knownWord_34, rX6_knownWord_36, rX6_knownWord_39, rX6_knownWord_42, rX6_knownWord_43, rX6_knownWord_44, rX6_knownWord_45, rX6_knownWord_48, rX6_knownWord_51, rX6_knownWord_52, rX6_knownWord_54, rX6_knownWord_57, rX6_knownWord_60, rX6_knownWord_61, rX6_knownWord_64, rX6_knownWord_65, rX6_knownWord_66, rX6_knownWord_67, rX6_knownWord_69, rX6_knownWord_72, rX6_knownWord_75, rX6_knownWord_76, rX6_knownWord_79, rX6_knownWord_80, K, e10, w_who, w_bold, w_board, w_things, w_reach, zb_f a, zb_f a2, zb_f a3, zb_f a4, zb_t a6, psh_some, if_neg a5, if_pos a6, Int.natCast_one, Int.cast_ofNat_Int, Int.toNat_natCast, Int.natCast_nonneg, true_and, and_true, and_self, if_true, if_false, or_true, true_or, or_false, false_or, ne_eq, not_true_eq_false, not_false_eq_true, Nat.reduceLeDiff, Nat.reduceEqDiff, Nat.reduceLT, Nat.reduceAdd, Nat.reduceMul, Nat.reduceSub, Int.reduceLT, Int.reduceLE, Int.reduceEq, Int.reduceToNat, Int.reduceAdd, Int.reduceSub, Int.reduceMul, Int.reduceNeg, Int.cast_ofNat_Int, false_and, and_false]
      · simp only [rX6_knownWord_0, rX6_knownWord_1, rX6_knownWord_3, rX6_knownWord_6, rX6_knownWord_9, rX6_knownWord_10, rX6_knownWord_11, rX6_knownWord_12, rX6_knownWord_14, rX6_knownWord_17, rX6_knownWord_20, rX6_knownWord_21, rX6_knownWord_22, rX6_knownWord_23, rX6_knownWord_25, rX6_knownWord_28, rX6_knownWord_31, rX6_knownWord_32, rX6_knownWord_33, rX6_knownWord_34, rX6_knownWord_36, rX6_knownWord_39, rX6_knownWord_42, rX6_knownWord_43, rX6_knownWord_44, rX6_knownWord_45, rX6_knownWord_48, rX6_knownWord_51, rX6_knownWord_52, rX6_knownWord_54, rX6_knownWord_57, rX6_knownWord_60, rX6_knownWord_61, rX6_knownWord_64, rX6_knownWord_65, rX6_knownWord_66, rX6_knownWord_67, rX6_knownWord_69, rX6_knownWord_72, rX6_knownWord_75, rX6_knownWord_76, rX6_knownWord_79, rX6_knownWord_80, K, e10, w_who, w_bold, w_board, w_things, w_reach, zb_f a, zb_f a2, zb_f a3, zb_f a4, zb_f a6, psh_some, if_neg a5, if_neg a6, Int.natCast_one, Int.cast_ofNat_Int, Int.toNat_natCast, Int.natCast_nonneg, true_and, and_true, and_self, if_true, if_false, or_true, true_or, or_false, false_or, ne_eq, not_true_eq_false, not_false_eq_true, Nat.reduceLeDiff, Nat.reduceEqDiff, Nat.reduceLT, Nat.reduceAdd, Nat.reduceMul, Nat.reduceSub, Int.reduceLT, Int.reduceLE, Int.reduceEq, Int.reduceToNat, Int.reduceAdd, Int.reduceSub, Int.reduceMul, Int.reduceNeg, Int.cast_ofNat_Int, false_and, and_false]
theorem op_1 {deep n : Nat} (hd : deep + n = 6) (hn : n = 0) : ((deep : Int) < 6) = False := eq_false (by omega)
theorem op_2 {deep n : Nat} (hd : deep + n = 6) (hn : ¬ n = 0) : ((deep : Int) < 6) = True ∧ w32 ((deep : Int) + 1) = ((deep + 1 : Nat) : Int) := ⟨eq_true (by omega), by rw [w32_i (by omega) (by omega)]; omega⟩
theorem L_opens0 {d : Nat} {Q : Option PV → Hp → Prop} {X : TX} {law : Nat} {h : Hp} {b p : Nat} {r : PS} {deep n : Nat} (hd : deep + n = 6) (hn : n = 0) (x : CRel X law h b p r) (k : ∀ h', CRel X law h' b p (fl X 4 r) → Fp PL h h' → Q (some (.inl 0)) h') : WP (d + 7) mX6_opens 0 [some (.inr (.inr 201)), some (.inl (deep : Int))] [] h Q := by
  have K := x.1.2.1
  simp only [rX6_opens_0, rX6_opens_1, rX6_opens_3, rX6_opens_6, rX6_opens_7, rX6_opens_8, K, op_1 hd hn, Int.toNat_natCast, Int.natCast_nonneg, true_and, and_true, and_self, if_true, if_false, or_true, true_or, or_false, false_or, ne_eq, not_true_eq_false, not_false_eq_true, Nat.reduceLeDiff, Nat.reduceEqDiff, Nat.reduceLT, Nat.reduceAdd, Nat.reduceMul, Nat.reduceSub, Int.reduceLT, Int.reduceLE, Int.reduceEq, Int.reduceToNat, Int.reduceAdd, Int.reduceSub, Int.reduceMul, Int.reduceNeg, Int.cast_ofNat_Int, false_and, and_false]
  refine L_fail x (by decide) (fun h' x' f' => ?_)
  simp only [psh_none, rX6_opens_11, rX6_opens_12, Int.toNat_natCast, Int.natCast_nonneg, true_and, and_true, and_self, if_true, if_false, or_true, true_or, or_false, false_or, ne_eq, not_true_eq_false, not_false_eq_true, Nat.reduceLeDiff, Nat.reduceEqDiff, Nat.reduceLT, Nat.reduceAdd, Nat.reduceMul, Nat.reduceSub, Int.reduceLT, Int.reduceLE, Int.reduceEq, Int.reduceToNat, Int.reduceAdd, Int.reduceSub, Int.reduceMul, Int.reduceNeg, Int.cast_ofNat_Int, false_and, and_false]
  exact k h' x' f'
theorem L_opens1 {d : Nat} {Q : Option PV → Hp → Prop} {X : TX} {law : Nat} {h : Hp} {b p : Nat} {r : PS} {deep n : Nat} (hd : deep + n = 6) (hn : ¬ n = 0) (x : CRel X law h b p r) (h0 : 0 ≤ tkr X r) (h1 : tkr X r ≠ 25) (h2 : tkr X r ≠ 26) (k : ∀ h', CRel X law h' (b + 1) (p + 1) (nx X r) → Fp PL h h' → Q (some (.inl 1)) h') : WP (d + 7) mX6_opens 0 [some (.inr (.inr 201)), some (.inl (deep : Int))] [] h Q := by
  have K := x.1.2.1
  simp only [rX6_opens_0, rX6_opens_1, rX6_opens_3, rX6_opens_13, rX6_opens_14, K, (op_2 hd hn).1, Int.toNat_natCast, Int.natCast_nonneg, true_and, and_true, and_self, if_true, if_false, or_true, true_or, or_false, false_or, ne_eq, not_true_eq_false, not_false_eq_true, Nat.reduceLeDiff, Nat.reduceEqDiff, Nat.reduceLT, Nat.reduceAdd, Nat.reduceMul, Nat.reduceSub, Int.reduceLT, Int.reduceLE, Int.reduceEq, Int.reduceToNat, Int.reduceAdd, Int.reduceSub, Int.reduceMul, Int.reduceNeg, Int.cast_ofNat_Int, false_and, and_false]
  refine L_adv (d := d) x h0 h1 h2 (fun h' x' f' => ?_)
  simp only [psh_none, rX6_opens_17, rX6_opens_18, Int.toNat_natCast, Int.natCast_nonneg, true_and, and_true, and_self, if_true, if_false, or_true, true_or, or_false, false_or, ne_eq, not_true_eq_false, not_false_eq_true, Nat.reduceLeDiff, Nat.reduceEqDiff, Nat.reduceLT, Nat.reduceAdd, Nat.reduceMul, Nat.reduceSub, Int.reduceLT, Int.reduceLE, Int.reduceEq, Int.reduceToNat, Int.reduceAdd, Int.reduceSub, Int.reduceMul, Int.reduceNeg, Int.cast_ofNat_Int, false_and, and_false]
  exact k h' x' f'
