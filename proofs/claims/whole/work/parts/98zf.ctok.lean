/-! the class's tokens -/
theorem skp_p {P : Int → Prop} [DecidablePred P] {t : Nat → Int} {n q : Nat} (h : P (t q)) : skp P t (n + 1) q = skp P t n (q + 1) := by
  show (if P (t q) then skp P t n (q + 1) else q) = _
  rw [if_pos h]
theorem skp_n {P : Int → Prop} [DecidablePred P] {t : Nat → Int} {n q : Nat} (h : ¬ P (t q)) : skp P t (n + 1) q = q := by
  show (if P (t q) then skp P t n (q + 1) else q) = _
  rw [if_neg h]
def PT (a k : Nat) : Prop := a = 201 ∧ (k = 5 ∨ k = 6 ∨ k = 7 ∨ k = 8 ∨ k = 11 ∨ k = 12)
def E5 (a k : Nat) : Prop := a = 201 ∧ k = 5
def E6 (a k : Nat) : Prop := a = 201 ∧ k = 6
def E68 (a k : Nat) : Prop := a = 201 ∧ (k = 6 ∨ k = 8)
def CGd (X : TX) (h : Hp) : Prop := Sg h ∧ hK h 201 = (6, 0) ∧ hR h 201 0 = 202 ∧ hR h 201 1 = 203 ∧ hK h 202 = (20, 900) ∧ hK h 203 = (21, 900) ∧ hI h 201 4 = (X.2 : Int) ∧ X.2 ≤ 900 ∧ ∀ k, k < X.2 → hI h 202 k = w8 (X.1 k) ∧ 0 ≤ X.1 k ∧ X.1 k ≤ 255
theorem CGd.fp {P : Nat → Nat → Prop} {X : TX} {h h' : Hp} (g : CGd X h) (f : Fp P h h') (hs : ∀ a k, P a k → 201 ≤ a ∧ a ≠ 202 ∧ (a = 201 → k ≠ 4)) : CGd X h' := by
  obtain ⟨sg, K, R0, R1, K2, K3, I4, hX, T⟩ := g
  refine ⟨sg.fp f (fun a k p => Nat.le_trans (by decide) (hs a k p).1), (f.K _).trans K, (f.R _ _).trans R0, (f.R _ _).trans R1, (f.K _).trans K2, (f.K _).trans K3, (f.I (fun p => (hs _ _ p).2.2 rfl rfl)).trans I4, hX, fun k hk => ⟨(f.I (fun p => (hs _ _ p).2.1 rfl)).trans (T k hk).1, (T k hk).2⟩⟩
theorem PT_s (a k : Nat) (p : PT a k) : 201 ≤ a ∧ a ≠ 202 ∧ (a = 201 → k ≠ 4) := by unfold PT at p; omega
theorem E5_s (a k : Nat) (p : E5 a k) : PT a k := by unfold E5 at p; unfold PT; omega
theorem E6_s (a k : Nat) (p : E6 a k) : PT a k := by unfold E6 at p; unfold PT; omega
theorem E68_s (a k : Nat) (p : E68 a k) : PT a k := by unfold E68 at p; unfold PT; omega
theorem CGd.pt {X : TX} {h h' : Hp} (g : CGd X h) (f : Fp PT h h') : CGd X h' := g.fp f PT_s
theorem p_lt {b n m : Nat} (h : m = b + (n + 1)) (hm : m ≤ 900) : ((b : Int) < (m : Int)) = True ∧ ((b : Int) < 900) = True ∧ b < m ∧ b ≤ 1000 := ⟨eq_true (by omega), eq_true (by omega), by omega, by omega⟩
theorem p_ge {b m : Nat} (h : m = b + 0) : ((b : Int) < (m : Int)) = False := eq_false (by omega)
theorem p_s {b n m : Nat} (h : m = b + (n + 1)) : m = b + 1 + n := by omega
theorem C_ewl {d : Nat} {Q : Option PV → Hp → Prop} {X : TX} : ∀ n b h, CGd X h → X.2 = b + n → hI h 201 6 = (b : Int) → (∀ h', Fp E6 h h' → hI h' 201 6 = ((skp cL X.1 n b : Nat) : Int) → Q none h') → WP (d + 1) mX6_endWord 5 [some (.inr (.inr 201))] [] h Q := by
  intro n
  induction n with
  | zero =>
    intro b h g e hb k
    have l := p_ge e
    obtain ⟨_, K, R0, _, K2, _, I4, _, _⟩ := g
    rw [rX6_endWord_5]
    simp only [rX6_endWord_6, rX6_endWord_9, rX6_endWord_10, rX6_endWord_13, rX6_endWord_16, rX6_endWord_17, rX6_endWord_20, rX6_endWord_21, rX6_endWord_24, rX6_endWord_25, rX6_endWord_28, rX6_endWord_31, rX6_endWord_32, rX6_endWord_33, rX6_endWord_36, rX6_endWord_37, rX6_endWord_38, rX6_endWord_41, rX6_endWord_44, K, hb, I4, l, Int.toNat_natCast, Int.natCast_nonneg, true_and, and_true, and_self, if_true, if_false, or_true, true_or, or_false, false_or, ne_eq, not_true_eq_false, not_false_eq_true, Nat.reduceLeDiff, Nat.reduceEqDiff, Nat.reduceLT, Nat.reduceAdd, Nat.reduceMul, Nat.reduceSub, Int.reduceLT, Int.reduceLE, Int.reduceEq, Int.reduceToNat, Int.reduceAdd, Int.reduceSub, Int.reduceMul, Int.reduceNeg, Int.cast_ofNat_Int, false_and, and_false]
    exact k h (Fp.refl _ h) hb
  | succ n ih =>
    intro b h g e hb k
    obtain ⟨l, l9, lb, l1⟩ := p_lt e g.2.2.2.2.2.2.2.1
    obtain ⟨sg, K, R0, R1, K2, K3, I4, hX, T⟩ := id g
    obtain ⟨t1, t2, t3⟩ := T b lb
    rw [rX6_endWord_5]
    by_cases c : cL (X.1 b)
    · simp only [rX6_endWord_6, rX6_endWord_9, rX6_endWord_10, rX6_endWord_13, rX6_endWord_16, rX6_endWord_17, rX6_endWord_20, rX6_endWord_21, rX6_endWord_24, rX6_endWord_25, rX6_endWord_28, rX6_endWord_31, rX6_endWord_32, rX6_endWord_33, rX6_endWord_36, rX6_endWord_37, rX6_endWord_38, rX6_endWord_41, rX6_endWord_44, K, hb, I4, l, R0, K2, l9, t1, S_isLetter, zb_L t2 t3, zb_t c, psh_some, hK_wI, hI_wI, hR_wI, i_p1 l1, Int.toNat_natCast, Int.natCast_nonneg, true_and, and_true, and_self, if_true, if_false, or_true, true_or, or_false, false_or, ne_eq, not_true_eq_false, not_false_eq_true, Nat.reduceLeDiff, Nat.reduceEqDiff, Nat.reduceLT, Nat.reduceAdd, Nat.reduceMul, Nat.reduceSub, Int.reduceLT, Int.reduceLE, Int.reduceEq, Int.reduceToNat, Int.reduceAdd, Int.reduceSub, Int.reduceMul, Int.reduceNeg, Int.cast_ofNat_Int, false_and, and_false]
      have f : Fp E6 h (wI h 201 6 ((b + 1 : Nat) : Int)) := (Fp.refl E6 h).wI ⟨rfl, rfl⟩ _
      refine ih (b + 1) _ (g.pt (f.mono E6_s)) (p_s e) (by rw [hI_wI, if_pos ⟨rfl, rfl⟩]) (fun h' f' e' => k h' (f.trans f') ?_)
      rw [e']; rw [skp_p c]
    · simp only [rX6_endWord_6, rX6_endWord_9, rX6_endWord_10, rX6_endWord_13, rX6_endWord_16, rX6_endWord_17, rX6_endWord_20, rX6_endWord_21, rX6_endWord_24, rX6_endWord_25, rX6_endWord_28, rX6_endWord_31, rX6_endWord_32, rX6_endWord_33, rX6_endWord_36, rX6_endWord_37, rX6_endWord_38, rX6_endWord_41, rX6_endWord_44, K, hb, I4, l, R0, K2, l9, t1, S_isLetter, zb_L t2 t3, zb_f c, psh_some, Int.toNat_natCast, Int.natCast_nonneg, true_and, and_true, and_self, if_true, if_false, or_true, true_or, or_false, false_or, ne_eq, not_true_eq_false, not_false_eq_true, Nat.reduceLeDiff, Nat.reduceEqDiff, Nat.reduceLT, Nat.reduceAdd, Nat.reduceMul, Nat.reduceSub, Int.reduceLT, Int.reduceLE, Int.reduceEq, Int.reduceToNat, Int.reduceAdd, Int.reduceSub, Int.reduceMul, Int.reduceNeg, Int.cast_ofNat_Int, false_and, and_false]
      refine k h (Fp.refl _ h) ?_
      rw [hb]; rw [skp_n c]
theorem C_avl {d : Nat} {Q : Option PV → Hp → Prop} {X : TX} : ∀ n b h, CGd X h → X.2 = b + n → hI h 201 5 = (b : Int) → (∀ h', Fp E5 h h' → hI h' 201 5 = ((skp cB X.1 n b : Nat) : Int) → WP (d + 1) mX6_advance 47 [some (.inr (.inr 201))] [] h' Q) → WP (d + 1) mX6_advance 8 [some (.inr (.inr 201))] [] h Q := by
  intro n
  induction n with
  | zero =>
    intro b h g e hb k
    have l := p_ge e
    obtain ⟨_, K, R0, _, K2, _, I4, _, _⟩ := g
    rw [rX6_advance_8]
    simp only [rX6_advance_9, rX6_advance_12, rX6_advance_13, rX6_advance_16, rX6_advance_19, rX6_advance_20, rX6_advance_23, rX6_advance_24, rX6_advance_27, rX6_advance_28, rX6_advance_31, rX6_advance_34, rX6_advance_35, rX6_advance_36, rX6_advance_39, rX6_advance_40, rX6_advance_41, rX6_advance_44, K, hb, I4, l, Int.toNat_natCast, Int.natCast_nonneg, true_and, and_true, and_self, if_true, if_false, or_true, true_or, or_false, false_or, ne_eq, not_true_eq_false, not_false_eq_true, Nat.reduceLeDiff, Nat.reduceEqDiff, Nat.reduceLT, Nat.reduceAdd, Nat.reduceMul, Nat.reduceSub, Int.reduceLT, Int.reduceLE, Int.reduceEq, Int.reduceToNat, Int.reduceAdd, Int.reduceSub, Int.reduceMul, Int.reduceNeg, Int.cast_ofNat_Int, false_and, and_false]
    exact k h (Fp.refl _ h) hb
  | succ n ih =>
    intro b h g e hb k
    obtain ⟨l, l9, lb, l1⟩ := p_lt e g.2.2.2.2.2.2.2.1
    obtain ⟨sg, K, R0, R1, K2, K3, I4, hX, T⟩ := id g
    obtain ⟨t1, t2, t3⟩ := T b lb
    rw [rX6_advance_8]
    by_cases c : cB (X.1 b)
    · simp only [rX6_advance_9, rX6_advance_12, rX6_advance_13, rX6_advance_16, rX6_advance_19, rX6_advance_20, rX6_advance_23, rX6_advance_24, rX6_advance_27, rX6_advance_28, rX6_advance_31, rX6_advance_34, rX6_advance_35, rX6_advance_36, rX6_advance_39, rX6_advance_40, rX6_advance_41, rX6_advance_44, K, hb, I4, l, R0, K2, l9, t1, S_isBlank, zb_B t2 t3, zb_t c, psh_some, hK_wI, hI_wI, hR_wI, i_p1 l1, Int.toNat_natCast, Int.natCast_nonneg, true_and, and_true, and_self, if_true, if_false, or_true, true_or, or_false, false_or, ne_eq, not_true_eq_false, not_false_eq_true, Nat.reduceLeDiff, Nat.reduceEqDiff, Nat.reduceLT, Nat.reduceAdd, Nat.reduceMul, Nat.reduceSub, Int.reduceLT, Int.reduceLE, Int.reduceEq, Int.reduceToNat, Int.reduceAdd, Int.reduceSub, Int.reduceMul, Int.reduceNeg, Int.cast_ofNat_Int, false_and, and_false]
      have f : Fp E5 h (wI h 201 5 ((b + 1 : Nat) : Int)) := (Fp.refl E5 h).wI ⟨rfl, rfl⟩ _
      refine ih (b + 1) _ (g.pt (f.mono E5_s)) (p_s e) (by rw [hI_wI, if_pos ⟨rfl, rfl⟩]) (fun h' f' e' => k h' (f.trans f') ?_)
      rw [e']; rw [skp_p c]
    · simp only [rX6_advance_9, rX6_advance_12, rX6_advance_13, rX6_advance_16, rX6_advance_19, rX6_advance_20, rX6_advance_23, rX6_advance_24, rX6_advance_27, rX6_advance_28, rX6_advance_31, rX6_advance_34, rX6_advance_35, rX6_advance_36, rX6_advance_39, rX6_advance_40, rX6_advance_41, rX6_advance_44, K, hb, I4, l, R0, K2, l9, t1, S_isBlank, zb_B t2 t3, zb_f c, psh_some, Int.toNat_natCast, Int.natCast_nonneg, true_and, and_true, and_self, if_true, if_false, or_true, true_or, or_false, false_or, ne_eq, not_true_eq_false, not_false_eq_true, Nat.reduceLeDiff, Nat.reduceEqDiff, Nat.reduceLT, Nat.reduceAdd, Nat.reduceMul, Nat.reduceSub, Int.reduceLT, Int.reduceLE, Int.reduceEq, Int.reduceToNat, Int.reduceAdd, Int.reduceSub, Int.reduceMul, Int.reduceNeg, Int.cast_ofNat_Int, false_and, and_false]
      refine k h (Fp.refl _ h) ?_
      rw [hb]; rw [skp_n c]
theorem n_w {a b : Nat} {v c : Int} (h : nOk a b v) (hc : cD c) : w32 (w32 (w32 (10 * v) + c) - 48) = 10 * v + c - 48 := by
  unfold nOk at h; unfold cD at hc
  rw [w32_i (z := 10 * v) (by omega) (by omega), w32_i (z := 10 * v + c) (by omega) (by omega), w32_i (by omega) (by omega)]
theorem n_d {a b m : Nat} (h1 : a ≤ b) (h2 : b ≤ 1000) : w32 ((b : Int) - (a : Int)) = (b : Int) - (a : Int) := w32_i (by omega) (by omega)
theorem n_3 {a b : Nat} (h1 : a ≤ b) : ((b : Int) - (a : Int) < 3) = (b < a + 3) := propext (by omega)
theorem n_4 {a b : Nat} (h1 : a ≤ b) : ((b : Int) - (a : Int) ≤ 3) = (b ≤ a + 3) := propext (by omega)
theorem n_5 {a b : Nat} (h1 : a ≤ b) : ((3 : Int) < (b : Int) - (a : Int)) = (a + 3 < b) := propext (by omega)
theorem d_8 {x : Int} (h0 : 0 ≤ x) (h1 : x ≤ 255) (c : cD x) : w8 x = x := by
  unfold cD at c; rw [b_w8 h0 h1, if_pos (by omega)]
theorem C_enl {d : Nat} {Q : Option PV → Hp → Prop} {X : TX} {a : Nat} : ∀ n b v h, CGd X h → X.2 = b + n → a ≤ b → nOk a b v → hI h 201 5 = (a : Int) → hI h 201 6 = (b : Int) → hI h 201 8 = v → (∀ h', Fp E68 h h' → hI h' 201 6 = ((skp cD X.1 n b : Nat) : Int) → hI h' 201 8 = nmL X.1 a n b v → WP (d + 1) mX6_endNumber 86 [some (.inr (.inr 201))] [] h' Q) → WP (d + 1) mX6_endNumber 10 [some (.inr (.inr 201))] [] h Q := by
  intro n
  induction n with
  | zero =>
    intro b v h g e _ _ ha hb hv k
    have l := p_ge e
    obtain ⟨_, K, R0, _, K2, _, I4, _, _⟩ := g
    rw [rX6_endNumber_10]
    simp only [rX6_endNumber_11, rX6_endNumber_14, rX6_endNumber_15, rX6_endNumber_18, rX6_endNumber_21, rX6_endNumber_22, rX6_endNumber_25, rX6_endNumber_26, rX6_endNumber_29, rX6_endNumber_30, rX6_endNumber_33, rX6_endNumber_36, rX6_endNumber_37, rX6_endNumber_40, rX6_endNumber_41, rX6_endNumber_44, rX6_endNumber_45, rX6_endNumber_46, rX6_endNumber_49, rX6_endNumber_50, rX6_endNumber_52, rX6_endNumber_53, rX6_endNumber_56, rX6_endNumber_57, rX6_endNumber_58, rX6_endNumber_61, rX6_endNumber_62, rX6_endNumber_65, rX6_endNumber_66, rX6_endNumber_67, rX6_endNumber_69, rX6_endNumber_70, rX6_endNumber_73, rX6_endNumber_74, rX6_endNumber_75, rX6_endNumber_78, rX6_endNumber_79, rX6_endNumber_80, rX6_endNumber_83, K, hb, I4, l, Int.toNat_natCast, Int.natCast_nonneg, true_and, and_true, and_self, if_true, if_false, or_true, true_or, or_false, false_or, ne_eq, not_true_eq_false, not_false_eq_true, Nat.reduceLeDiff, Nat.reduceEqDiff, Nat.reduceLT, Nat.reduceAdd, Nat.reduceMul, Nat.reduceSub, Int.reduceLT, Int.reduceLE, Int.reduceEq, Int.reduceToNat, Int.reduceAdd, Int.reduceSub, Int.reduceMul, Int.reduceNeg, Int.cast_ofNat_Int, false_and, and_false]
    exact k h (Fp.refl _ h) hb hv
  | succ n ih =>
    intro b v h g e hab hn ha hb hv k
    obtain ⟨l, l9, lb, l1⟩ := p_lt e g.2.2.2.2.2.2.2.1
    have d0 := n_d (m := 0) hab l1
    have d3 := n_3 hab
    obtain ⟨sg, K, R0, R1, K2, K3, I4, hX, T⟩ := id g
    obtain ⟨t1, t2, t3⟩ := T b lb
    rw [rX6_endNumber_10]
    by_cases c : cD (X.1 b)
    · have ns := nOk_s hn c hab
      have e8 := d_8 t2 t3 c
      have e9 := n_w hn c
      by_cases c3 : b < a + 3
      · rw [if_pos c3] at ns
        simp only [rX6_endNumber_11, rX6_endNumber_14, rX6_endNumber_15, rX6_endNumber_18, rX6_endNumber_21, rX6_endNumber_22, rX6_endNumber_25, rX6_endNumber_26, rX6_endNumber_29, rX6_endNumber_30, rX6_endNumber_33, rX6_endNumber_36, rX6_endNumber_37, rX6_endNumber_40, rX6_endNumber_41, rX6_endNumber_44, rX6_endNumber_45, rX6_endNumber_46, rX6_endNumber_49, rX6_endNumber_50, rX6_endNumber_52, rX6_endNumber_53, rX6_endNumber_56, rX6_endNumber_57, rX6_endNumber_58, rX6_endNumber_61, rX6_endNumber_62, rX6_endNumber_65, rX6_endNumber_66, rX6_endNumber_67, rX6_endNumber_69, rX6_endNumber_70, rX6_endNumber_73, rX6_endNumber_74, rX6_endNumber_75, rX6_endNumber_78, rX6_endNumber_79, rX6_endNumber_80, rX6_endNumber_83, K, ha, hb, hv, I4, l, R0, K2, l9, t1, S_isDigit, zb_D t2 t3, zb_t c, e8, e9, d0, d3, c3, psh_some, hK_wI, hI_wI, hR_wI, i_p1 l1, Int.toNat_natCast, Int.natCast_nonneg, true_and, and_true, and_self, if_true, if_false, or_true, true_or, or_false, false_or, ne_eq, not_true_eq_false, not_false_eq_true, Nat.reduceLeDiff, Nat.reduceEqDiff, Nat.reduceLT, Nat.reduceAdd, Nat.reduceMul, Nat.reduceSub, Int.reduceLT, Int.reduceLE, Int.reduceEq, Int.reduceToNat, Int.reduceAdd, Int.reduceSub, Int.reduceMul, Int.reduceNeg, Int.cast_ofNat_Int, false_and, and_false]
        have f : Fp E68 h (wI (wI h 201 8 (10 * v + X.1 b - 48)) 201 6 ((b + 1 : Nat) : Int)) := ((Fp.refl E68 h).wI ⟨rfl, Or.inr rfl⟩ _).wI ⟨rfl, Or.inl rfl⟩ _
        refine ih (b + 1) (10 * v + X.1 b - 48) _ (g.pt (f.mono E68_s)) (p_s e) (Nat.le_succ_of_le hab) ns (by simp only [hI_wI, ha, Int.toNat_natCast, Int.natCast_nonneg, true_and, and_true, and_self, if_true, if_false, or_true, true_or, or_false, false_or, ne_eq, not_true_eq_false, not_false_eq_true, Nat.reduceLeDiff, Nat.reduceEqDiff, Nat.reduceLT, Nat.reduceAdd, Nat.reduceMul, Nat.reduceSub, Int.reduceLT, Int.reduceLE, Int.reduceEq, Int.reduceToNat, Int.reduceAdd, Int.reduceSub, Int.reduceMul, Int.reduceNeg, Int.cast_ofNat_Int, false_and, and_false]) (by simp only [hI_wI, Int.toNat_natCast, Int.natCast_nonneg, true_and, and_true, and_self, if_true, if_false, or_true, true_or, or_false, false_or, ne_eq, not_true_eq_false, not_false_eq_true, Nat.reduceLeDiff, Nat.reduceEqDiff, Nat.reduceLT, Nat.reduceAdd, Nat.reduceMul, Nat.reduceSub, Int.reduceLT, Int.reduceLE, Int.reduceEq, Int.reduceToNat, Int.reduceAdd, Int.reduceSub, Int.reduceMul, Int.reduceNeg, Int.cast_ofNat_Int, false_and, and_false]) (by simp only [hI_wI, Int.toNat_natCast, Int.natCast_nonneg, true_and, and_true, and_self, if_true, if_false, or_true, true_or, or_false, false_or, ne_eq, not_true_eq_false, not_false_eq_true, Nat.reduceLeDiff, Nat.reduceEqDiff, Nat.reduceLT, Nat.reduceAdd, Nat.reduceMul, Nat.reduceSub, Int.reduceLT, Int.reduceLE, Int.reduceEq, Int.reduceToNat, Int.reduceAdd, Int.reduceSub, Int.reduceMul, Int.reduceNeg, Int.cast_ofNat_Int, false_and, and_false]) (fun h' f' e1 e2 => k h' (f.trans f') ?_ ?_)
        · rw [e1]; rw [skp_p c]
        · rw [e2]
          show _ = if cD (X.1 b) then nmL X.1 a n (b + 1) (if b < a + 3 then 10 * v + X.1 b - 48 else v) else v
          rw [if_pos c, if_pos c3]
      · rw [if_neg c3] at ns
        simp only [rX6_endNumber_11, rX6_endNumber_14, rX6_endNumber_15, rX6_endNumber_18, rX6_endNumber_21, rX6_endNumber_22, rX6_endNumber_25, rX6_endNumber_26, rX6_endNumber_29, rX6_endNumber_30, rX6_endNumber_33, rX6_endNumber_36, rX6_endNumber_37, rX6_endNumber_40, rX6_endNumber_41, rX6_endNumber_44, rX6_endNumber_45, rX6_endNumber_46, rX6_endNumber_49, rX6_endNumber_50, rX6_endNumber_52, rX6_endNumber_53, rX6_endNumber_56, rX6_endNumber_57, rX6_endNumber_58, rX6_endNumber_61, rX6_endNumber_62, rX6_endNumber_65, rX6_endNumber_66, rX6_endNumber_67, rX6_endNumber_69, rX6_endNumber_70, rX6_endNumber_73, rX6_endNumber_74, rX6_endNumber_75, rX6_endNumber_78, rX6_endNumber_79, rX6_endNumber_80, rX6_endNumber_83, K, ha, hb, hv, I4, l, R0, K2, l9, t1, S_isDigit, zb_D t2 t3, zb_t c, d0, d3, c3, psh_some, hK_wI, hI_wI, hR_wI, i_p1 l1, Int.toNat_natCast, Int.natCast_nonneg, true_and, and_true, and_self, if_true, if_false, or_true, true_or, or_false, false_or, ne_eq, not_true_eq_false, not_false_eq_true, Nat.reduceLeDiff, Nat.reduceEqDiff, Nat.reduceLT, Nat.reduceAdd, Nat.reduceMul, Nat.reduceSub, Int.reduceLT, Int.reduceLE, Int.reduceEq, Int.reduceToNat, Int.reduceAdd, Int.reduceSub, Int.reduceMul, Int.reduceNeg, Int.cast_ofNat_Int, false_and, and_false]
        have f : Fp E68 h (wI h 201 6 ((b + 1 : Nat) : Int)) := (Fp.refl E68 h).wI ⟨rfl, Or.inl rfl⟩ _
        refine ih (b + 1) v _ (g.pt (f.mono E68_s)) (p_s e) (Nat.le_succ_of_le hab) ns (by simp only [hI_wI, ha, Int.toNat_natCast, Int.natCast_nonneg, true_and, and_true, and_self, if_true, if_false, or_true, true_or, or_false, false_or, ne_eq, not_true_eq_false, not_false_eq_true, Nat.reduceLeDiff, Nat.reduceEqDiff, Nat.reduceLT, Nat.reduceAdd, Nat.reduceMul, Nat.reduceSub, Int.reduceLT, Int.reduceLE, Int.reduceEq, Int.reduceToNat, Int.reduceAdd, Int.reduceSub, Int.reduceMul, Int.reduceNeg, Int.cast_ofNat_Int, false_and, and_false]) (by simp only [hI_wI, Int.toNat_natCast, Int.natCast_nonneg, true_and, and_true, and_self, if_true, if_false, or_true, true_or, or_false, false_or, ne_eq, not_true_eq_false, not_false_eq_true, Nat.reduceLeDiff, Nat.reduceEqDiff, Nat.reduceLT, Nat.reduceAdd, Nat.reduceMul, Nat.reduceSub, Int.reduceLT, Int.reduceLE, Int.reduceEq, Int.reduceToNat, Int.reduceAdd, Int.reduceSub, Int.reduceMul, Int.reduceNeg, Int.cast_ofNat_Int, false_and, and_false]) (by simp only [hI_wI, hv, Int.toNat_natCast, Int.natCast_nonneg, true_and, and_true, and_self, if_true, if_false, or_true, true_or, or_false, false_or, ne_eq, not_true_eq_false, not_false_eq_true, Nat.reduceLeDiff, Nat.reduceEqDiff, Nat.reduceLT, Nat.reduceAdd, Nat.reduceMul, Nat.reduceSub, Int.reduceLT, Int.reduceLE, Int.reduceEq, Int.reduceToNat, Int.reduceAdd, Int.reduceSub, Int.reduceMul, Int.reduceNeg, Int.cast_ofNat_Int, false_and, and_false]) (fun h' f' e1 e2 => k h' (f.trans f') ?_ ?_)
        · rw [e1]; rw [skp_p c]
        · rw [e2]
          show _ = if cD (X.1 b) then nmL X.1 a n (b + 1) (if b < a + 3 then 10 * v + X.1 b - 48 else v) else v
          rw [if_pos c, if_neg c3]
    · simp only [rX6_endNumber_11, rX6_endNumber_14, rX6_endNumber_15, rX6_endNumber_18, rX6_endNumber_21, rX6_endNumber_22, rX6_endNumber_25, rX6_endNumber_26, rX6_endNumber_29, rX6_endNumber_30, rX6_endNumber_33, rX6_endNumber_36, rX6_endNumber_37, rX6_endNumber_40, rX6_endNumber_41, rX6_endNumber_44, rX6_endNumber_45, rX6_endNumber_46, rX6_endNumber_49, rX6_endNumber_50, rX6_endNumber_52, rX6_endNumber_53, rX6_endNumber_56, rX6_endNumber_57, rX6_endNumber_58, rX6_endNumber_61, rX6_endNumber_62, rX6_endNumber_65, rX6_endNumber_66, rX6_endNumber_67, rX6_endNumber_69, rX6_endNumber_70, rX6_endNumber_73, rX6_endNumber_74, rX6_endNumber_75, rX6_endNumber_78, rX6_endNumber_79, rX6_endNumber_80, rX6_endNumber_83, K, hb, I4, l, R0, K2, l9, t1, S_isDigit, zb_D t2 t3, zb_f c, psh_some, Int.toNat_natCast, Int.natCast_nonneg, true_and, and_true, and_self, if_true, if_false, or_true, true_or, or_false, false_or, ne_eq, not_true_eq_false, not_false_eq_true, Nat.reduceLeDiff, Nat.reduceEqDiff, Nat.reduceLT, Nat.reduceAdd, Nat.reduceMul, Nat.reduceSub, Int.reduceLT, Int.reduceLE, Int.reduceEq, Int.reduceToNat, Int.reduceAdd, Int.reduceSub, Int.reduceMul, Int.reduceNeg, Int.cast_ofNat_Int, false_and, and_false]
      refine k h (Fp.refl _ h) ?_ ?_
      · rw [hb]; rw [skp_n c]
      · rw [hv]; unfold nmL; rw [if_neg c]
