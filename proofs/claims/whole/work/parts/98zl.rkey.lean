/-! the reference's tokens: key words, the next one -/
/-- where the n-th key word begins in the row of them -/
def ks : Nat → Nat
  | 0 => 1
  | n + 1 => ks n + (KW.getD n []).length + 1
def KY : List Int := sbyz.getD 24 []
theorem ky_1 : ∀ n, n < 23 → ks n + (KW.getD n []).length < 120 ∧ KY.getD (ks n + (KW.getD n []).length) 0 = 32 ∧ ∀ i, i < (KW.getD n []).length → KY.getD (ks n + i) 0 = (KW.getD n []).getD i 0 ∧ (KW.getD n []).getD i 0 ≠ 32 := by decide +kernel
theorem ky_len : KY.length = 120 := by decide +kernel
theorem ky_w {k i n : Nat} (h : k + i < 120) : w32 ((k : Int) + (i : Int)) = ((k + i : Nat) : Int) ∧ (((k + i : Nat) : Int)) < (KY.length : Int) := by
  rw [ky_len]
  exact ⟨by rw [w32_i (by omega) (by omega)]; omega, by omega⟩
theorem ky_c {d : Nat} {Q : Option PV → Hp → Prop} {h : Hp} (sg : Sg h) {k : Nat} (hk : k < 120) : WP (d + 4) mJ0_charAt_5068e 0 [some (.inr (.inr 25)), some (.inl (k : Int))] [] h Q = Q (some (.inl (KY.getD k 0))) h := by
  have st : StrAt h 25 KY := sg.at 24 (by decide)
  have := S_chr (d := d) (Q := Q) st (z := (k : Int)) (Int.natCast_nonneg k) (by rw [ky_len]; omega)
  rwa [Int.toNat_natCast] at this
theorem a_i {a i b : Nat} (h : a + i ≤ 1000) : w32 ((a : Int) + (i : Int)) = ((a + i : Nat) : Int) ∧ (((a + i : Nat) : Int) < (b : Int)) = (a + i < b) ∧ (((a + i : Nat) : Int) = (b : Int)) = (a + i = b) := ⟨by rw [w32_i (by omega) (by omega)]; omega, propext (by omega), propext (by omega)⟩
theorem k_12w {k i : Nat} (h : k + i < 120) : w32 ((k : Int) + (i : Int)) = ((k + i : Nat) : Int) := by rw [w32_i (by omega) (by omega)]; omega
theorem k_a {i m l : Nat} (h : l = i + 0) : l = i := h
theorem k_b {i m l k : Nat} (h : l = i + (m + 1)) (hk : k + l < 120) : i < l ∧ k + i < 120 ∧ l = i + 1 + m ∧ i ≤ 1000 := ⟨by omega, by omega, by omega, by omega⟩
theorem k_c {a i b m : Nat} (h : a + i ≤ b) (h2 : b ≤ m) (hm : m ≤ 900) : a + i ≤ 1000 := by omega
theorem k_d {a i b m : Nat} (h : a + i < b) (h2 : b ≤ m) : a + i < m ∧ a + (i + 1) ≤ b := ⟨by omega, by omega⟩
theorem k_e {a i b : Nat} (h : a + i = b) : b - a = i := by omega
theorem k_f {a i b : Nat} (h : ¬ a + i = b) (h2 : a + i ≤ b) : ¬ b - a = i := by omega
theorem k_g {a i b l : Nat} (h : ¬ a + i < b) (h2 : i < l) (h3 : a ≤ b) : ¬ b - a = l := by omega
theorem k_h {i j : Nat} (h : j < i + 1) (h2 : ¬ j < i) : j = i := by omega
theorem R_kin {d : Nat} {Q : Option PV → Hp → Prop} {X : TX} {h : Hp} (g : RGd X h) {a b n k0 : Nat} {w : List Int} {cf : Nat → Int} (y1 : k0 + w.length < 120) (y2 : cf (k0 + w.length) = 32) (y3 : ∀ i, i < w.length → cf (k0 + i) = w.getD i 0 ∧ w.getD i 0 ≠ 32) (ch : ∀ k : Nat, k < 120 → ∀ (Q : Option PV → Hp → Prop), WP (d + 4) mJ0_charAt_5068e 0 [some (.inr (.inr 25)), some (.inl (k : Int))] [] h Q = Q (some (.inl (cf k))) h) (e6 : hI h 294 6 = (a : Int)) (e7 : hI h 294 7 = (b : Int)) (hb : b ≤ X.2) (hab : a ≤ b) (kT : wdOf X a b = w → Q (some (.inl (n : Int))) h) (kF : wdOf X a b ≠ w → ∀ y, WP (d + 5) mX12_keyAt 97 [some (.inr (.inr 294)), some (.inl (n : Int)), some (.inl (k0 : Int)), y] [] h Q) : ∀ m i, w.length = i + m → (∀ j, j < i → X.1 (a + j) = w.getD j 0) → a + i ≤ b → WP (d + 5) mX12_keyAt 15 [some (.inr (.inr 294)), some (.inl (n : Int)), some (.inl (k0 : Int)), some (.inl (i : Int))] [] h Q := by
  intro m
  have sg := g.1
  have KS : hK h 25 = (14, 0) := (sg.at 24 (by decide)).1
  have md := g.2.1
  have hX := g.2.2.2.1
  have T := g.2.2.2.2
  clear sg
  induction m with
  | zero =>
    intro i hi hp hai
    have hi := k_a (m := 0) hi
    rw [hi] at y1 y2
    have w1 := k_12w y1
    have ch := ch _ y1
    rw [y2] at ch
    obtain ⟨v1, v2, v3⟩ := a_i (b := b) (k_c hai hb hX)
    rw [rX12_keyAt_15]
    by_cases c : a + i = b
    · have v4 := v3.trans (eq_true c)
      simp only [rX12_keyAt_17, rX12_keyAt_18, rX12_keyAt_19, rX12_keyAt_20, rX12_keyAt_23, rX12_keyAt_25, rX12_keyAt_69, rX12_keyAt_71, rX12_keyAt_72, rX12_keyAt_73, rX12_keyAt_74, rX12_keyAt_77, rX12_keyAt_79, rX12_keyAt_82, rX12_keyAt_83, rX12_keyAt_86, rX12_keyAt_87, rX12_keyAt_88, rX12_keyAt_89, rX12_keyAt_92, rX12_keyAt_95, rX12_keyAt_96, KS, w1, ch, psh_some, Md_K280 md, e6, e7, v1, v4, Int.toNat_natCast, Int.natCast_nonneg, true_and, and_true, and_self, if_true, if_false, or_true, true_or, or_false, false_or, ne_eq, not_true_eq_false, not_false_eq_true, Nat.reduceLeDiff, Nat.reduceEqDiff, Nat.reduceLT, Nat.reduceAdd, Nat.reduceMul, Nat.reduceSub, Int.reduceLT, Int.reduceLE, Int.reduceEq, Int.reduceToNat, Int.reduceAdd, Int.reduceSub, Int.reduceMul, Int.reduceNeg, Int.cast_ofNat_Int, false_and, and_false]
      refine kT (wd_is.mpr ⟨(k_e c).trans hi.symm, fun j hj => ?_⟩)
      rw [Nat.zero_add]; exact hp j (hi ▸ hj)
    · have v4 := v3.trans (eq_false c)
      simp only [rX12_keyAt_17, rX12_keyAt_18, rX12_keyAt_19, rX12_keyAt_20, rX12_keyAt_23, rX12_keyAt_25, rX12_keyAt_69, rX12_keyAt_71, rX12_keyAt_72, rX12_keyAt_73, rX12_keyAt_74, rX12_keyAt_77, rX12_keyAt_79, rX12_keyAt_82, rX12_keyAt_83, rX12_keyAt_86, rX12_keyAt_87, rX12_keyAt_88, rX12_keyAt_89, rX12_keyAt_92, rX12_keyAt_95, rX12_keyAt_96, KS, w1, ch, psh_some, Md_K280 md, e6, e7, v1, v4, Int.toNat_natCast, Int.natCast_nonneg, true_and, and_true, and_self, if_true, if_false, or_true, true_or, or_false, false_or, ne_eq, not_true_eq_false, not_false_eq_true, Nat.reduceLeDiff, Nat.reduceEqDiff, Nat.reduceLT, Nat.reduceAdd, Nat.reduceMul, Nat.reduceSub, Int.reduceLT, Int.reduceLE, Int.reduceEq, Int.reduceToNat, Int.reduceAdd, Int.reduceSub, Int.reduceMul, Int.reduceNeg, Int.cast_ofNat_Int, false_and, and_false]
      exact kF (fun z => k_f c hai ((wd_is.mp z).1.trans hi)) _
  | succ m ih =>
    intro i hi hp hai
    obtain ⟨q1, yi, q3, q4⟩ := k_b hi y1
    obtain ⟨z1, z2⟩ := y3 i q1
    have w1 := k_12w yi
    have ch := ch _ yi
    rw [z1] at ch
    obtain ⟨v1, v2, v3⟩ := a_i (b := b) (k_c hai hb hX)
    have z2 := eq_false z2
    rw [rX12_keyAt_15]
    by_cases c : a + i < b
    · obtain ⟨p1, p2⟩ := k_d c hb
      have v4 := v2.trans (eq_true c)
      have l9 := n900 p1 hX
      obtain ⟨t1, _⟩ := T (a + i) p1
      by_cases c2 : X.1 (a + i) = w.getD i 0
      · have c3 := eq_true c2
        simp only [rX12_keyAt_17, rX12_keyAt_18, rX12_keyAt_19, rX12_keyAt_20, rX12_keyAt_23, rX12_keyAt_25, rX12_keyAt_28, rX12_keyAt_29, rX12_keyAt_32, rX12_keyAt_33, rX12_keyAt_34, rX12_keyAt_35, rX12_keyAt_38, rX12_keyAt_41, rX12_keyAt_42, rX12_keyAt_45, rX12_keyAt_46, rX12_keyAt_49, rX12_keyAt_50, rX12_keyAt_51, rX12_keyAt_52, rX12_keyAt_54, rX12_keyAt_55, rX12_keyAt_56, rX12_keyAt_57, rX12_keyAt_60, rX12_keyAt_63, rX12_keyAt_66, KS, w1, ch, psh_some, Md_K280 md, Md_R283 md, Md_K283 md, e6, e7, v1, v4, l9, t1, z2, c3, i_p1 q4, Int.toNat_natCast, Int.natCast_nonneg, true_and, and_true, and_self, if_true, if_false, or_true, true_or, or_false, false_or, ne_eq, not_true_eq_false, not_false_eq_true, Nat.reduceLeDiff, Nat.reduceEqDiff, Nat.reduceLT, Nat.reduceAdd, Nat.reduceMul, Nat.reduceSub, Int.reduceLT, Int.reduceLE, Int.reduceEq, Int.reduceToNat, Int.reduceAdd, Int.reduceSub, Int.reduceMul, Int.reduceNeg, Int.cast_ofNat_Int, false_and, and_false]
        refine ih (i + 1) q3 (fun j hj => ?_) p2
        by_cases hj2 : j < i
        · exact hp j hj2
        · rw [k_h hj hj2]; exact c2
      · have c3 := eq_false c2
        simp only [rX12_keyAt_17, rX12_keyAt_18, rX12_keyAt_19, rX12_keyAt_20, rX12_keyAt_23, rX12_keyAt_25, rX12_keyAt_28, rX12_keyAt_29, rX12_keyAt_32, rX12_keyAt_33, rX12_keyAt_34, rX12_keyAt_35, rX12_keyAt_38, rX12_keyAt_41, rX12_keyAt_42, rX12_keyAt_45, rX12_keyAt_46, rX12_keyAt_49, rX12_keyAt_50, rX12_keyAt_51, rX12_keyAt_52, rX12_keyAt_54, rX12_keyAt_55, rX12_keyAt_56, rX12_keyAt_57, rX12_keyAt_60, rX12_keyAt_63, rX12_keyAt_66, rX12_keyAt_69, rX12_keyAt_71, rX12_keyAt_72, rX12_keyAt_73, rX12_keyAt_74, rX12_keyAt_77, rX12_keyAt_79, rX12_keyAt_82, rX12_keyAt_83, rX12_keyAt_86, rX12_keyAt_87, rX12_keyAt_88, rX12_keyAt_89, rX12_keyAt_92, rX12_keyAt_95, rX12_keyAt_96, KS, w1, ch, psh_some, Md_K280 md, Md_R283 md, Md_K283 md, e6, e7, v1, v4, l9, t1, z2, c3, Int.toNat_natCast, Int.natCast_nonneg, true_and, and_true, and_self, if_true, if_false, or_true, true_or, or_false, false_or, ne_eq, not_true_eq_false, not_false_eq_true, Nat.reduceLeDiff, Nat.reduceEqDiff, Nat.reduceLT, Nat.reduceAdd, Nat.reduceMul, Nat.reduceSub, Int.reduceLT, Int.reduceLE, Int.reduceEq, Int.reduceToNat, Int.reduceAdd, Int.reduceSub, Int.reduceMul, Int.reduceNeg, Int.cast_ofNat_Int, false_and, and_false]
        exact kF (fun z => by have := (wd_is.mp z).2 i q1; rw [Nat.zero_add] at this; exact c2 this) _
    · have v4 := v2.trans (eq_false c)
      simp only [rX12_keyAt_17, rX12_keyAt_18, rX12_keyAt_19, rX12_keyAt_20, rX12_keyAt_23, rX12_keyAt_25, rX12_keyAt_28, rX12_keyAt_29, rX12_keyAt_32, rX12_keyAt_33, rX12_keyAt_34, rX12_keyAt_35, rX12_keyAt_38, rX12_keyAt_41, rX12_keyAt_42, rX12_keyAt_45, rX12_keyAt_46, rX12_keyAt_49, rX12_keyAt_50, rX12_keyAt_51, rX12_keyAt_52, rX12_keyAt_54, rX12_keyAt_55, rX12_keyAt_56, rX12_keyAt_57, rX12_keyAt_60, rX12_keyAt_63, rX12_keyAt_66, rX12_keyAt_69, rX12_keyAt_71, rX12_keyAt_72, rX12_keyAt_73, rX12_keyAt_74, rX12_keyAt_77, rX12_keyAt_79, rX12_keyAt_82, rX12_keyAt_83, rX12_keyAt_86, rX12_keyAt_87, rX12_keyAt_88, rX12_keyAt_89, rX12_keyAt_92, rX12_keyAt_95, rX12_keyAt_96, KS, w1, ch, psh_some, Md_K280 md, e6, e7, v1, v4, z2, Int.toNat_natCast, Int.natCast_nonneg, true_and, and_true, and_self, if_true, if_false, or_true, true_or, or_false, false_or, ne_eq, not_true_eq_false, not_false_eq_true, Nat.reduceLeDiff, Nat.reduceEqDiff, Nat.reduceLT, Nat.reduceAdd, Nat.reduceMul, Nat.reduceSub, Int.reduceLT, Int.reduceLE, Int.reduceEq, Int.reduceToNat, Int.reduceAdd, Int.reduceSub, Int.reduceMul, Int.reduceNeg, Int.cast_ofNat_Int, false_and, and_false]
      exact kF (fun z => k_g c q1 hab (wd_is.mp z).1) _
theorem k_s {k : Nat} (h : k ≤ 1000) : w32 ((k : Int) + 1) = ((k + 1 : Nat) : Int) := i_p1 h
theorem R_ksk {d : Nat} {Q : Option PV → Hp → Prop} {X : TX} {h : Hp} (g : RGd X h) {n : Nat} (hn : n < 23) {y : Option PV} (k : WP (d + 5) mX12_keyAt 4 [some (.inr (.inr 294)), some (.inl ((n + 1 : Nat) : Int)), some (.inl (ks (n + 1) : Int)), y] [] h Q) : ∀ m i, (KW.getD n []).length = i + m → WP (d + 5) mX12_keyAt 97 [some (.inr (.inr 294)), some (.inl (n : Int)), some (.inl ((ks n + i : Nat) : Int)), y] [] h Q := by
  intro m
  obtain ⟨y1, y2, y3⟩ := ky_1 n hn
  have sg := g.1
  have KS : hK h 25 = (14, 0) := (sg.at 24 (by decide)).1
  induction m with
  | zero =>
    intro i hi
    have hi : (KW.getD n []).length = i := by omega
    have e : ks (n + 1) = ks n + i + 1 := by show ks n + (KW.getD n []).length + 1 = _; rw [hi]
    rw [hi] at y1 y2
    have ch := fun (Q : Option PV → Hp → Prop) => ky_c (d := d) (Q := Q) sg y1
    rw [y2] at ch
    rw [rX12_keyAt_97]
    simp only [rX12_keyAt_99, rX12_keyAt_100, rX12_keyAt_103, rX12_keyAt_105, rX12_keyAt_108, rX12_keyAt_111, rX12_keyAt_114, rX12_keyAt_117, rX12_keyAt_120, KS, ch, psh_some, i_p1 (show n ≤ 1000 by omega), i_p1 (show ks n + i ≤ 1000 by omega), Int.toNat_natCast, Int.natCast_nonneg, true_and, and_true, and_self, if_true, if_false, or_true, true_or, or_false, false_or, ne_eq, not_true_eq_false, not_false_eq_true, Nat.reduceLeDiff, Nat.reduceEqDiff, Nat.reduceLT, Nat.reduceAdd, Nat.reduceMul, Nat.reduceSub, Int.reduceLT, Int.reduceLE, Int.reduceEq, Int.reduceToNat, Int.reduceAdd, Int.reduceSub, Int.reduceMul, Int.reduceNeg, Int.cast_ofNat_Int, false_and, and_false]
    rw [e] at k
    exact k
  | succ m ih =>
    intro i hi
    obtain ⟨z1, z2⟩ := y3 i (by omega)
    have yi : ks n + i < 120 := by omega
    have ch := fun (Q : Option PV → Hp → Prop) => ky_c (d := d) (Q := Q) sg yi
    rw [z1] at ch
    have z2 := eq_false z2
    rw [rX12_keyAt_97]
    simp only [rX12_keyAt_99, rX12_keyAt_100, rX12_keyAt_103, rX12_keyAt_105, rX12_keyAt_108, rX12_keyAt_111, KS, ch, psh_some, z2, i_p1 (show ks n + i ≤ 1000 by omega), Int.toNat_natCast, Int.natCast_nonneg, true_and, and_true, and_self, if_true, if_false, or_true, true_or, or_false, false_or, ne_eq, not_true_eq_false, not_false_eq_true, Nat.reduceLeDiff, Nat.reduceEqDiff, Nat.reduceLT, Nat.reduceAdd, Nat.reduceMul, Nat.reduceSub, Int.reduceLT, Int.reduceLE, Int.reduceEq, Int.reduceToNat, Int.reduceAdd, Int.reduceSub, Int.reduceMul, Int.reduceNeg, Int.cast_ofNat_Int, false_and, and_false]
    exact ih (i + 1) (by omega)
theorem kw_not {w : List Int} (h : ∀ j, j < 23 → w ≠ KW.getD j []) : kwN w = 23 := by
  have r := kwN_le w
  by_cases c : kwN w = 23
  · exact c
  · have e : kwN w = ((kwN w).toNat : Int) := by omega
    exact absurd ((kwN_is (i := (kwN w).toNat) (by omega) w).mp e) (h _ (by omega))
theorem R_kout {d : Nat} {Q : Option PV → Hp → Prop} {X : TX} {h : Hp} (g : RGd X h) {a b : Nat} (e6 : hI h 294 6 = (a : Int)) (e7 : hI h 294 7 = (b : Int)) (hb : b ≤ X.2) (hab : a ≤ b) (k : Q (some (.inl (kwN (wdOf X a b)))) h) : ∀ m n y, 23 = n + m → (∀ j, j < n → wdOf X a b ≠ KW.getD j []) → WP (d + 5) mX12_keyAt 4 [some (.inr (.inr 294)), some (.inl (n : Int)), some (.inl (ks n : Int)), y] [] h Q := by
  intro m
  have sg := g.1
  have st : StrAt h 25 KY := sg.at 24 (by decide)
  have KS := st.1
  have sl := fun (Q : Option PV → Hp → Prop) => S_len (d := d + 3) (Q := Q) st
  rw [ky_len] at sl
  induction m with
  | zero =>
    intro n y hn hp
    have hn : n = 23 := by omega
    subst hn
    have e : (((ks 23 : Nat) : Int) < 120) = False := eq_false (by decide +kernel)
    rw [rX12_keyAt_4]
    simp only [rX12_keyAt_5, rX12_keyAt_7, rX12_keyAt_10, rX12_keyAt_123, rX12_keyAt_125, KS, sl, psh_some, e, Int.toNat_natCast, Int.natCast_nonneg, true_and, and_true, and_self, if_true, if_false, or_true, true_or, or_false, false_or, ne_eq, not_true_eq_false, not_false_eq_true, Nat.reduceLeDiff, Nat.reduceEqDiff, Nat.reduceLT, Nat.reduceAdd, Nat.reduceMul, Nat.reduceSub, Int.reduceLT, Int.reduceLE, Int.reduceEq, Int.reduceToNat, Int.reduceAdd, Int.reduceSub, Int.reduceMul, Int.reduceNeg, Int.cast_ofNat_Int, false_and, and_false]
    rw [kw_not hp] at k
    exact k
  | succ m ih =>
    intro n y hn hp
    have hn2 : n < 23 := by omega
    obtain ⟨y1, y2, y3⟩ := ky_1 n hn2
    have e : (((ks n : Nat) : Int) < 120) = True := eq_true (by omega)
    rw [rX12_keyAt_4]
    simp only [rX12_keyAt_5, rX12_keyAt_7, rX12_keyAt_10, rX12_keyAt_13, rX12_keyAt_14, KS, sl, psh_some, e, Int.toNat_natCast, Int.natCast_nonneg, true_and, and_true, and_self, if_true, if_false, or_true, true_or, or_false, false_or, ne_eq, not_true_eq_false, not_false_eq_true, Nat.reduceLeDiff, Nat.reduceEqDiff, Nat.reduceLT, Nat.reduceAdd, Nat.reduceMul, Nat.reduceSub, Int.reduceLT, Int.reduceLE, Int.reduceEq, Int.reduceToNat, Int.reduceAdd, Int.reduceSub, Int.reduceMul, Int.reduceNeg, Int.cast_ofNat_Int, false_and, and_false]
    refine R_kin g y1 y2 y3 (fun k hk Q => ky_c sg hk) e6 e7 hb hab (fun z => ?_) (fun z y => ?_) (KW.getD n []).length 0 (by omega) (fun j hj => absurd hj (by omega)) (by omega)
    · have : kwN (wdOf X a b) = (n : Int) := (kwN_is hn2 _).mpr z
      rw [this] at k; exact k
    · refine R_ksk g hn2 (ih (n + 1) y (by omega) (fun j hj => ?_)) (KW.getD n []).length 0 (by omega)
      by_cases c : j < n
      · exact hp j c
      · rw [show j = n by omega]; exact z
theorem R_keyAt {d : Nat} {Q : Option PV → Hp → Prop} {X : TX} {h : Hp} (g : RGd X h) {a b : Nat} (e6 : hI h 294 6 = (a : Int)) (e7 : hI h 294 7 = (b : Int)) (hb : b ≤ X.2) (hab : a ≤ b) (k : Q (some (.inl (kwN (wdOf X a b)))) h) : WP (d + 5) mX12_keyAt 0 [some (.inr (.inr 294)), none, none, none] [] h Q := by
  simp only [rX12_keyAt_0, rX12_keyAt_1, rX12_keyAt_2, rX12_keyAt_3]
  exact R_kout g e6 e7 hb hab k 23 0 _ (by omega) (fun j hj => absurd hj (by omega))
def TkR (X : TX) (h : Hp) (q : Nat) : Prop := hI h 294 6 = (tAt X q : Int) ∧ hI h 294 7 = (tBh X q : Int) ∧ hI h 294 9 = tk X q ∧ (tk X q = 24 → hI h 294 10 = tNm X q)
def RTok (X : TX) (h : Hp) (b : Nat) (s : TS) : Prop := match s with
  | .inl q => b ≤ q ∧ q ≤ X.2 ∧ hI h 294 11 = 0 ∧ TkR X h q
  | .inr e => e.1 ≠ 0 ∧ hI h 294 11 = e.1 ∧ hI h 294 12 = (e.2 : Int)
def RN (a k : Nat) : Prop := a = 294 ∧ (k = 6 ∨ k = 7 ∨ k = 9 ∨ k = 10)
theorem RN_s (a k : Nat) (p : RN a k) : RT a k := by unfold RN at p; unfold RT; omega
theorem F6_n (a k : Nat) (p : F6 a k) : RN a k := by unfold F6 at p; unfold RN; omega
theorem F7_n (a k : Nat) (p : F7 a k) : RN a k := by unfold F7 at p; unfold RN; omega
theorem F9_n (a k : Nat) (p : F9 a k) : RN a k := by unfold F9 at p; unfold RN; omega
theorem F710_n (a k : Nat) (p : F710 a k) : RN a k := by unfold F710 at p; unfold RN; omega
theorem RGd.rn {X : TX} {h h' : Hp} (g : RGd X h) (f : Fp RN h h') : RGd X h' := g.rt (f.mono RN_s)
theorem R_next0 {d : Nat} {Q : Option PV → Hp → Prop} {X : TX} {h : Hp} {q : Nat} (g : RGd X h) (hq : q ≤ X.2) (e7 : hI h 294 7 = (q : Int)) (k : ∀ h', Fp RN h h' → TkR X h' q → Q none h') : WP (d + 6) mX12_next 0 [some (.inr (.inr 294)), none] [] h Q := by
  have md := g.2.1
  simp only [rX12_next_0, rX12_next_1, rX12_next_2, rX12_next_5, Md_K280 md, e7, Int.toNat_natCast, Int.natCast_nonneg, true_and, and_true, and_self, if_true, if_false, or_true, true_or, or_false, false_or, ne_eq, not_true_eq_false, not_false_eq_true, Nat.reduceLeDiff, Nat.reduceEqDiff, Nat.reduceLT, Nat.reduceAdd, Nat.reduceMul, Nat.reduceSub, Int.reduceLT, Int.reduceLE, Int.reduceEq, Int.reduceToNat, Int.reduceAdd, Int.reduceSub, Int.reduceMul, Int.reduceNeg, Int.cast_ofNat_Int, false_and, and_false]
  have f0 : Fp RN h (wI h 294 6 (q : Int)) := (Fp.refl RN h).wI (by unfold RN; omega) _
  refine R_nbl (d := d + 5) (X.2 - q) q _ (g.rn f0) (q_sub hq) (by rw [hI_wI, if_pos ⟨rfl, rfl⟩]) ?_
  intro h1 f1 s1
  have fa := f0.trans (f1.mono F6_n)
  have g1 := g.rn fa
  have m1 := g1.2.1
  have I8 := g1.2.2.1
  have hX := g1.2.2.2.1
  have s1 : hI h1 294 6 = (tAt X q : Int) := s1
  have f2 : Fp RN h1 (wI h1 294 7 (tAt X q : Int)) := (Fp.refl RN h1).wI (by unfold RN; omega) _
  have g2 := g1.rn f2
  have m2 := g2.2.1
  by_cases c0 : X.2 ≤ tAt X q
  · have l := a_ge c0
    simp only [rX12_next_47, rX12_next_48, rX12_next_49, rX12_next_52, rX12_next_55, rX12_next_56, rX12_next_59, rX12_next_60, rX12_next_63, rX12_next_66, rX12_next_67, rX12_next_69, rX12_next_72, rX12_next_294, Md_K280 m1, s1, I8, l, hK_wI, hI_wI, hR_wI, Int.toNat_natCast, Int.natCast_nonneg, true_and, and_true, and_self, if_true, if_false, or_true, true_or, or_false, false_or, ne_eq, not_true_eq_false, not_false_eq_true, Nat.reduceLeDiff, Nat.reduceEqDiff, Nat.reduceLT, Nat.reduceAdd, Nat.reduceMul, Nat.reduceSub, Int.reduceLT, Int.reduceLE, Int.reduceEq, Int.reduceToNat, Int.reduceAdd, Int.reduceSub, Int.reduceMul, Int.reduceNeg, Int.cast_ofNat_Int, false_and, and_false]
    have e : tk X q = 25 := by unfold tk; rw [if_pos c0]
    refine k _ (fa.trans (f2.wI (by unfold RN; omega) _)) ⟨by simp only [hI_wI, s1, Int.toNat_natCast, Int.natCast_nonneg, true_and, and_true, and_self, if_true, if_false, or_true, true_or, or_false, false_or, ne_eq, not_true_eq_false, not_false_eq_true, Nat.reduceLeDiff, Nat.reduceEqDiff, Nat.reduceLT, Nat.reduceAdd, Nat.reduceMul, Nat.reduceSub, Int.reduceLT, Int.reduceLE, Int.reduceEq, Int.reduceToNat, Int.reduceAdd, Int.reduceSub, Int.reduceMul, Int.reduceNeg, Int.cast_ofNat_Int, false_and, and_false], ?_, by rw [e]; simp only [hI_wI, Int.toNat_natCast, Int.natCast_nonneg, true_and, and_true, and_self, if_true, if_false, or_true, true_or, or_false, false_or, ne_eq, not_true_eq_false, not_false_eq_true, Nat.reduceLeDiff, Nat.reduceEqDiff, Nat.reduceLT, Nat.reduceAdd, Nat.reduceMul, Nat.reduceSub, Int.reduceLT, Int.reduceLE, Int.reduceEq, Int.reduceToNat, Int.reduceAdd, Int.reduceSub, Int.reduceMul, Int.reduceNeg, Int.cast_ofNat_Int, false_and, and_false], fun z => by rw [e] at z; exact absurd z (by decide)⟩
    simp only [hI_wI, Int.toNat_natCast, Int.natCast_nonneg, true_and, and_true, and_self, if_true, if_false, or_true, true_or, or_false, false_or, ne_eq, not_true_eq_false, not_false_eq_true, Nat.reduceLeDiff, Nat.reduceEqDiff, Nat.reduceLT, Nat.reduceAdd, Nat.reduceMul, Nat.reduceSub, Int.reduceLT, Int.reduceLE, Int.reduceEq, Int.reduceToNat, Int.reduceAdd, Int.reduceSub, Int.reduceMul, Int.reduceNeg, Int.cast_ofNat_Int, false_and, and_false]
    unfold tBh; rw [if_pos c0]
  · obtain ⟨l, l9, lm, l1, ls⟩ := a_lt c0 hX
    have sv := fun (Q : Option PV → Hp → Prop) => S_rsee (d := d + 5) (Q := Q) (a := tAt X q) g2
    rw [see_lt lm] at sv
    by_cases c1 : cL (X.1 (tAt X q))
    · have z1 : zb (97 ≤ X.1 (tAt X q) ∧ X.1 (tAt X q) ≤ 122) = 1 := zb_t c1
      simp only [rX12_next_47, rX12_next_48, rX12_next_49, rX12_next_52, rX12_next_55, rX12_next_56, rX12_next_59, rX12_next_60, rX12_next_63, rX12_next_66, rX12_next_67, rX12_next_69, rX12_next_72, rX12_next_75, rX12_next_76, rX12_next_77, rX12_next_80, rX12_next_83, rX12_next_86, Md_K280 m1, s1, I8, l, sv, S_rSmall, z1, psh_some, hK_wI, hI_wI, hR_wI, Int.toNat_natCast, Int.natCast_nonneg, true_and, and_true, and_self, if_true, if_false, or_true, true_or, or_false, false_or, ne_eq, not_true_eq_false, not_false_eq_true, Nat.reduceLeDiff, Nat.reduceEqDiff, Nat.reduceLT, Nat.reduceAdd, Nat.reduceMul, Nat.reduceSub, Int.reduceLT, Int.reduceLE, Int.reduceEq, Int.reduceToNat, Int.reduceAdd, Int.reduceSub, Int.reduceMul, Int.reduceNeg, Int.cast_ofNat_Int, false_and, and_false]
      refine R_nlt (d := d + 5) (X.2 - tAt X q) (tAt X q) _ g2 ls (by simp only [hI_wI, Int.toNat_natCast, Int.natCast_nonneg, true_and, and_true, and_self, if_true, if_false, or_true, true_or, or_false, false_or, ne_eq, not_true_eq_false, not_false_eq_true, Nat.reduceLeDiff, Nat.reduceEqDiff, Nat.reduceLT, Nat.reduceAdd, Nat.reduceMul, Nat.reduceSub, Int.reduceLT, Int.reduceLE, Int.reduceEq, Int.reduceToNat, Int.reduceAdd, Int.reduceSub, Int.reduceMul, Int.reduceNeg, Int.cast_ofNat_Int, false_and, and_false]) ?_
      intro h2 f4 s2
      obtain ⟨w1, w2, w3, w4⟩ := tk_L c0 c1
      rw [← w1] at s2
      have fb := f2.trans (f4.mono F7_n)
      have g3 := g1.rn fb
      have i6 : hI h2 294 6 = (tAt X q : Int) := by rw [f4.I (by unfold F7; omega)]; simp only [hI_wI, s1, Int.toNat_natCast, Int.natCast_nonneg, true_and, and_true, and_self, if_true, if_false, or_true, true_or, or_false, false_or, ne_eq, not_true_eq_false, not_false_eq_true, Nat.reduceLeDiff, Nat.reduceEqDiff, Nat.reduceLT, Nat.reduceAdd, Nat.reduceMul, Nat.reduceSub, Int.reduceLT, Int.reduceLE, Int.reduceEq, Int.reduceToNat, Int.reduceAdd, Int.reduceSub, Int.reduceMul, Int.reduceNeg, Int.cast_ofNat_Int, false_and, and_false]
      have ge : tAt X q ≤ tBh X q := by rw [w1]; exact skp_ge _ _ _ _
      have K2 := Md_K280 g3.2.1
      simp only [rX12_next_116, rX12_next_117, rX12_next_118, K2, Int.toNat_natCast, Int.natCast_nonneg, true_and, and_true, and_self, if_true, if_false, or_true, true_or, or_false, false_or, ne_eq, not_true_eq_false, not_false_eq_true, Nat.reduceLeDiff, Nat.reduceEqDiff, Nat.reduceLT, Nat.reduceAdd, Nat.reduceMul, Nat.reduceSub, Int.reduceLT, Int.reduceLE, Int.reduceEq, Int.reduceToNat, Int.reduceAdd, Int.reduceSub, Int.reduceMul, Int.reduceNeg, Int.cast_ofNat_Int, false_and, and_false]
      refine R_keyAt (d := d) g3 i6 s2 (tBh_le hq) ge ?_
      simp only [psh_some, rX12_next_121, rX12_next_124, rX12_next_294, K2, Int.toNat_natCast, Int.natCast_nonneg, true_and, and_true, and_self, if_true, if_false, or_true, true_or, or_false, false_or, ne_eq, not_true_eq_false, not_false_eq_true, Nat.reduceLeDiff, Nat.reduceEqDiff, Nat.reduceLT, Nat.reduceAdd, Nat.reduceMul, Nat.reduceSub, Int.reduceLT, Int.reduceLE, Int.reduceEq, Int.reduceToNat, Int.reduceAdd, Int.reduceSub, Int.reduceMul, Int.reduceNeg, Int.cast_ofNat_Int, false_and, and_false]
      have e : tk X q = kwN (wdOf X (tAt X q) (tBh X q)) := by unfold tk; rw [if_neg c0, if_pos c1]
      refine k _ (fa.trans (fb.wI (by unfold RN; omega) _)) ⟨by simp only [hI_wI, i6, Int.toNat_natCast, Int.natCast_nonneg, true_and, and_true, and_self, if_true, if_false, or_true, true_or, or_false, false_or, ne_eq, not_true_eq_false, not_false_eq_true, Nat.reduceLeDiff, Nat.reduceEqDiff, Nat.reduceLT, Nat.reduceAdd, Nat.reduceMul, Nat.reduceSub, Int.reduceLT, Int.reduceLE, Int.reduceEq, Int.reduceToNat, Int.reduceAdd, Int.reduceSub, Int.reduceMul, Int.reduceNeg, Int.cast_ofNat_Int, false_and, and_false], by simp only [hI_wI, s2, Int.toNat_natCast, Int.natCast_nonneg, true_and, and_true, and_self, if_true, if_false, or_true, true_or, or_false, false_or, ne_eq, not_true_eq_false, not_false_eq_true, Nat.reduceLeDiff, Nat.reduceEqDiff, Nat.reduceLT, Nat.reduceAdd, Nat.reduceMul, Nat.reduceSub, Int.reduceLT, Int.reduceLE, Int.reduceEq, Int.reduceToNat, Int.reduceAdd, Int.reduceSub, Int.reduceMul, Int.reduceNeg, Int.cast_ofNat_Int, false_and, and_false], by rw [e]; simp only [hI_wI, Int.toNat_natCast, Int.natCast_nonneg, true_and, and_true, and_self, if_true, if_false, or_true, true_or, or_false, false_or, ne_eq, not_true_eq_false, not_false_eq_true, Nat.reduceLeDiff, Nat.reduceEqDiff, Nat.reduceLT, Nat.reduceAdd, Nat.reduceMul, Nat.reduceSub, Int.reduceLT, Int.reduceLE, Int.reduceEq, Int.reduceToNat, Int.reduceAdd, Int.reduceSub, Int.reduceMul, Int.reduceNeg, Int.cast_ofNat_Int, false_and, and_false], fun z => absurd z w4⟩
    · have z1 : zb (97 ≤ X.1 (tAt X q) ∧ X.1 (tAt X q) ≤ 122) = 0 := zb_f c1
      by_cases c2 : cD (X.1 (tAt X q))
      · have z2 : zb (48 ≤ X.1 (tAt X q) ∧ X.1 (tAt X q) ≤ 57) = 1 := zb_t c2
        simp only [rX12_next_47, rX12_next_48, rX12_next_49, rX12_next_52, rX12_next_55, rX12_next_56, rX12_next_59, rX12_next_60, rX12_next_63, rX12_next_66, rX12_next_67, rX12_next_69, rX12_next_72, rX12_next_75, rX12_next_76, rX12_next_77, rX12_next_80, rX12_next_83, rX12_next_86, rX12_next_127, rX12_next_128, rX12_next_129, rX12_next_132, rX12_next_135, rX12_next_138, rX12_next_141, rX12_next_142, rX12_next_143, Md_K280 m1, s1, I8, l, sv, S_rSmall, S_rDigit, z1, z2, psh_some, hK_wI, hI_wI, hR_wI, Int.toNat_natCast, Int.natCast_nonneg, true_and, and_true, and_self, if_true, if_false, or_true, true_or, or_false, false_or, ne_eq, not_true_eq_false, not_false_eq_true, Nat.reduceLeDiff, Nat.reduceEqDiff, Nat.reduceLT, Nat.reduceAdd, Nat.reduceMul, Nat.reduceSub, Int.reduceLT, Int.reduceLE, Int.reduceEq, Int.reduceToNat, Int.reduceAdd, Int.reduceSub, Int.reduceMul, Int.reduceNeg, Int.cast_ofNat_Int, false_and, and_false]
        have f3 : Fp RN h1 (wI (wI h1 294 7 (tAt X q : Int)) 294 10 0) := f2.wI (by unfold RN; omega) _
        refine R_nnm (d := d + 5) (a := tAt X q) (X.2 - tAt X q) (tAt X q) 0 _ (g1.rn f3) ls (Nat.le_refl _) (by unfold nOk; omega) (by simp only [hI_wI, s1, Int.toNat_natCast, Int.natCast_nonneg, true_and, and_true, and_self, if_true, if_false, or_true, true_or, or_false, false_or, ne_eq, not_true_eq_false, not_false_eq_true, Nat.reduceLeDiff, Nat.reduceEqDiff, Nat.reduceLT, Nat.reduceAdd, Nat.reduceMul, Nat.reduceSub, Int.reduceLT, Int.reduceLE, Int.reduceEq, Int.reduceToNat, Int.reduceAdd, Int.reduceSub, Int.reduceMul, Int.reduceNeg, Int.cast_ofNat_Int, false_and, and_false]) (by simp only [hI_wI, Int.toNat_natCast, Int.natCast_nonneg, true_and, and_true, and_self, if_true, if_false, or_true, true_or, or_false, false_or, ne_eq, not_true_eq_false, not_false_eq_true, Nat.reduceLeDiff, Nat.reduceEqDiff, Nat.reduceLT, Nat.reduceAdd, Nat.reduceMul, Nat.reduceSub, Int.reduceLT, Int.reduceLE, Int.reduceEq, Int.reduceToNat, Int.reduceAdd, Int.reduceSub, Int.reduceMul, Int.reduceNeg, Int.cast_ofNat_Int, false_and, and_false]) (by simp only [hI_wI, Int.toNat_natCast, Int.natCast_nonneg, true_and, and_true, and_self, if_true, if_false, or_true, true_or, or_false, false_or, ne_eq, not_true_eq_false, not_false_eq_true, Nat.reduceLeDiff, Nat.reduceEqDiff, Nat.reduceLT, Nat.reduceAdd, Nat.reduceMul, Nat.reduceSub, Int.reduceLT, Int.reduceLE, Int.reduceEq, Int.reduceToNat, Int.reduceAdd, Int.reduceSub, Int.reduceMul, Int.reduceNeg, Int.cast_ofNat_Int, false_and, and_false]) ?_
        intro h2 f4 s2 s3
        obtain ⟨w1, w2⟩ := tk_D c0 c1 c2
        rw [← w1] at s2
        have s3 : hI h2 294 10 = tNm X q := s3
        have i6 : hI h2 294 6 = (tAt X q : Int) := by rw [f4.I (by unfold F710; omega)]; simp only [hI_wI, s1, Int.toNat_natCast, Int.natCast_nonneg, true_and, and_true, and_self, if_true, if_false, or_true, true_or, or_false, false_or, ne_eq, not_true_eq_false, not_false_eq_true, Nat.reduceLeDiff, Nat.reduceEqDiff, Nat.reduceLT, Nat.reduceAdd, Nat.reduceMul, Nat.reduceSub, Int.reduceLT, Int.reduceLE, Int.reduceEq, Int.reduceToNat, Int.reduceAdd, Int.reduceSub, Int.reduceMul, Int.reduceNeg, Int.cast_ofNat_Int, false_and, and_false]
        have fb := f3.trans (f4.mono F710_n)
        have K2 := Md_K280 (g1.rn fb).2.1
        have ge : tAt X q ≤ tBh X q := by rw [w1]; exact skp_ge _ _ _ _
        have d0 := n_d (m := 0) ge (Nat.le_trans (tBh_le hq) (Nat.le_trans hX (by decide)))
        have d4 := n_4 ge
        have d5 := n_5 ge
        by_cases c3 : tAt X q + 3 < tBh X q
        · rw [if_pos c3] at w2
          have d6 : (tBh X q ≤ tAt X q + 3) = False := eq_false (by omega)
          simp only [rX12_next_209, rX12_next_210, rX12_next_211, rX12_next_214, rX12_next_215, rX12_next_218, rX12_next_219, rX12_next_220, rX12_next_223, rX12_next_225, rX12_next_228, rX12_next_230, rX12_next_233, rX12_next_294, K2, i6, s2, d0, d4, d5, d6, c3, Int.toNat_natCast, Int.natCast_nonneg, true_and, and_true, and_self, if_true, if_false, or_true, true_or, or_false, false_or, ne_eq, not_true_eq_false, not_false_eq_true, Nat.reduceLeDiff, Nat.reduceEqDiff, Nat.reduceLT, Nat.reduceAdd, Nat.reduceMul, Nat.reduceSub, Int.reduceLT, Int.reduceLE, Int.reduceEq, Int.reduceToNat, Int.reduceAdd, Int.reduceSub, Int.reduceMul, Int.reduceNeg, Int.cast_ofNat_Int, false_and, and_false]
          exact k _ (fa.trans (fb.wI (by unfold RN; omega) _)) ⟨by simp only [hI_wI, i6, Int.toNat_natCast, Int.natCast_nonneg, true_and, and_true, and_self, if_true, if_false, or_true, true_or, or_false, false_or, ne_eq, not_true_eq_false, not_false_eq_true, Nat.reduceLeDiff, Nat.reduceEqDiff, Nat.reduceLT, Nat.reduceAdd, Nat.reduceMul, Nat.reduceSub, Int.reduceLT, Int.reduceLE, Int.reduceEq, Int.reduceToNat, Int.reduceAdd, Int.reduceSub, Int.reduceMul, Int.reduceNeg, Int.cast_ofNat_Int, false_and, and_false], by simp only [hI_wI, s2, Int.toNat_natCast, Int.natCast_nonneg, true_and, and_true, and_self, if_true, if_false, or_true, true_or, or_false, false_or, ne_eq, not_true_eq_false, not_false_eq_true, Nat.reduceLeDiff, Nat.reduceEqDiff, Nat.reduceLT, Nat.reduceAdd, Nat.reduceMul, Nat.reduceSub, Int.reduceLT, Int.reduceLE, Int.reduceEq, Int.reduceToNat, Int.reduceAdd, Int.reduceSub, Int.reduceMul, Int.reduceNeg, Int.cast_ofNat_Int, false_and, and_false], by rw [w2]; simp only [hI_wI, Int.toNat_natCast, Int.natCast_nonneg, true_and, and_true, and_self, if_true, if_false, or_true, true_or, or_false, false_or, ne_eq, not_true_eq_false, not_false_eq_true, Nat.reduceLeDiff, Nat.reduceEqDiff, Nat.reduceLT, Nat.reduceAdd, Nat.reduceMul, Nat.reduceSub, Int.reduceLT, Int.reduceLE, Int.reduceEq, Int.reduceToNat, Int.reduceAdd, Int.reduceSub, Int.reduceMul, Int.reduceNeg, Int.cast_ofNat_Int, false_and, and_false], fun _ => by simp only [hI_wI, s3, Int.toNat_natCast, Int.natCast_nonneg, true_and, and_true, and_self, if_true, if_false, or_true, true_or, or_false, false_or, ne_eq, not_true_eq_false, not_false_eq_true, Nat.reduceLeDiff, Nat.reduceEqDiff, Nat.reduceLT, Nat.reduceAdd, Nat.reduceMul, Nat.reduceSub, Int.reduceLT, Int.reduceLE, Int.reduceEq, Int.reduceToNat, Int.reduceAdd, Int.reduceSub, Int.reduceMul, Int.reduceNeg, Int.cast_ofNat_Int, false_and, and_false]⟩
        · rw [if_neg c3] at w2
          have d6 : (tBh X q ≤ tAt X q + 3) = True := eq_true (by omega)
          simp only [rX12_next_209, rX12_next_210, rX12_next_211, rX12_next_214, rX12_next_215, rX12_next_218, rX12_next_219, rX12_next_220, rX12_next_223, rX12_next_225, rX12_next_228, rX12_next_230, rX12_next_233, rX12_next_294, K2, i6, s2, d0, d4, d5, d6, c3, Int.toNat_natCast, Int.natCast_nonneg, true_and, and_true, and_self, if_true, if_false, or_true, true_or, or_false, false_or, ne_eq, not_true_eq_false, not_false_eq_true, Nat.reduceLeDiff, Nat.reduceEqDiff, Nat.reduceLT, Nat.reduceAdd, Nat.reduceMul, Nat.reduceSub, Int.reduceLT, Int.reduceLE, Int.reduceEq, Int.reduceToNat, Int.reduceAdd, Int.reduceSub, Int.reduceMul, Int.reduceNeg, Int.cast_ofNat_Int, false_and, and_false]
          exact k _ (fa.trans (fb.wI (by unfold RN; omega) _)) ⟨by simp only [hI_wI, i6, Int.toNat_natCast, Int.natCast_nonneg, true_and, and_true, and_self, if_true, if_false, or_true, true_or, or_false, false_or, ne_eq, not_true_eq_false, not_false_eq_true, Nat.reduceLeDiff, Nat.reduceEqDiff, Nat.reduceLT, Nat.reduceAdd, Nat.reduceMul, Nat.reduceSub, Int.reduceLT, Int.reduceLE, Int.reduceEq, Int.reduceToNat, Int.reduceAdd, Int.reduceSub, Int.reduceMul, Int.reduceNeg, Int.cast_ofNat_Int, false_and, and_false], by simp only [hI_wI, s2, Int.toNat_natCast, Int.natCast_nonneg, true_and, and_true, and_self, if_true, if_false, or_true, true_or, or_false, false_or, ne_eq, not_true_eq_false, not_false_eq_true, Nat.reduceLeDiff, Nat.reduceEqDiff, Nat.reduceLT, Nat.reduceAdd, Nat.reduceMul, Nat.reduceSub, Int.reduceLT, Int.reduceLE, Int.reduceEq, Int.reduceToNat, Int.reduceAdd, Int.reduceSub, Int.reduceMul, Int.reduceNeg, Int.cast_ofNat_Int, false_and, and_false], by rw [w2]; simp only [hI_wI, Int.toNat_natCast, Int.natCast_nonneg, true_and, and_true, and_self, if_true, if_false, or_true, true_or, or_false, false_or, ne_eq, not_true_eq_false, not_false_eq_true, Nat.reduceLeDiff, Nat.reduceEqDiff, Nat.reduceLT, Nat.reduceAdd, Nat.reduceMul, Nat.reduceSub, Int.reduceLT, Int.reduceLE, Int.reduceEq, Int.reduceToNat, Int.reduceAdd, Int.reduceSub, Int.reduceMul, Int.reduceNeg, Int.cast_ofNat_Int, false_and, and_false], fun _ => by simp only [hI_wI, s3, Int.toNat_natCast, Int.natCast_nonneg, true_and, and_true, and_self, if_true, if_false, or_true, true_or, or_false, false_or, ne_eq, not_true_eq_false, not_false_eq_true, Nat.reduceLeDiff, Nat.reduceEqDiff, Nat.reduceLT, Nat.reduceAdd, Nat.reduceMul, Nat.reduceSub, Int.reduceLT, Int.reduceLE, Int.reduceEq, Int.reduceToNat, Int.reduceAdd, Int.reduceSub, Int.reduceMul, Int.reduceNeg, Int.cast_ofNat_Int, false_and, and_false]⟩
      · have z2 : zb (48 ≤ X.1 (tAt X q) ∧ X.1 (tAt X q) ≤ 57) = 0 := zb_f c2
        obtain ⟨w1, w2⟩ := tk_S c0 c1 c2
        simp only [rX12_next_47, rX12_next_48, rX12_next_49, rX12_next_52, rX12_next_55, rX12_next_56, rX12_next_59, rX12_next_60, rX12_next_63, rX12_next_66, rX12_next_67, rX12_next_69, rX12_next_72, rX12_next_75, rX12_next_76, rX12_next_77, rX12_next_80, rX12_next_83, rX12_next_86, rX12_next_127, rX12_next_128, rX12_next_129, rX12_next_132, rX12_next_135, rX12_next_138, rX12_next_236, rX12_next_237, rX12_next_238, rX12_next_241, rX12_next_242, rX12_next_243, rX12_next_246, rX12_next_247, rX12_next_249, rX12_next_252, rX12_next_253, Md_K280 m1, s1, I8, l, sv, S_rSmall, S_rDigit, z1, z2, psh_some, hK_wI, hI_wI, hR_wI, i_p1 l1, Int.toNat_natCast, Int.natCast_nonneg, true_and, and_true, and_self, if_true, if_false, or_true, true_or, or_false, false_or, ne_eq, not_true_eq_false, not_false_eq_true, Nat.reduceLeDiff, Nat.reduceEqDiff, Nat.reduceLT, Nat.reduceAdd, Nat.reduceMul, Nat.reduceSub, Int.reduceLT, Int.reduceLE, Int.reduceEq, Int.reduceToNat, Int.reduceAdd, Int.reduceSub, Int.reduceMul, Int.reduceNeg, Int.cast_ofNat_Int, false_and, and_false]
        have f3 : Fp RN h1 (wI (wI (wI h1 294 7 (tAt X q : Int)) 294 7 ((tAt X q + 1 : Nat) : Int)) 294 9 26) := (f2.wI (by unfold RN; omega) _).wI (by unfold RN; omega) _
        refine R_nsg (d := d + 1) (a := tAt X q) 12 0 26 _ (g1.rn f3) rfl (by simp only [hI_wI, s1, Int.toNat_natCast, Int.natCast_nonneg, true_and, and_true, and_self, if_true, if_false, or_true, true_or, or_false, false_or, ne_eq, not_true_eq_false, not_false_eq_true, Nat.reduceLeDiff, Nat.reduceEqDiff, Nat.reduceLT, Nat.reduceAdd, Nat.reduceMul, Nat.reduceSub, Int.reduceLT, Int.reduceLE, Int.reduceEq, Int.reduceToNat, Int.reduceAdd, Int.reduceSub, Int.reduceMul, Int.reduceNeg, Int.cast_ofNat_Int, false_and, and_false]) lm (by simp only [hI_wI, Int.toNat_natCast, Int.natCast_nonneg, true_and, and_true, and_self, if_true, if_false, or_true, true_or, or_false, false_or, ne_eq, not_true_eq_false, not_false_eq_true, Nat.reduceLeDiff, Nat.reduceEqDiff, Nat.reduceLT, Nat.reduceAdd, Nat.reduceMul, Nat.reduceSub, Int.reduceLT, Int.reduceLE, Int.reduceEq, Int.reduceToNat, Int.reduceAdd, Int.reduceSub, Int.reduceMul, Int.reduceNeg, Int.cast_ofNat_Int, false_and, and_false]) ?_
        intro h2 f4 s2
        rw [sgf_is, ← w2] at s2
        have J : ∀ i, i ≠ 9 → hI h2 294 i = hI (wI (wI (wI h1 294 7 (tAt X q : Int)) 294 7 ((tAt X q + 1 : Nat) : Int)) 294 9 26) 294 i := fun i hi => f4.I (by unfold F9; omega)
        exact k _ (fa.trans (f3.trans (f4.mono F9_n))) ⟨by rw [J 6 (by decide)]; simp only [hI_wI, s1, Int.toNat_natCast, Int.natCast_nonneg, true_and, and_true, and_self, if_true, if_false, or_true, true_or, or_false, false_or, ne_eq, not_true_eq_false, not_false_eq_true, Nat.reduceLeDiff, Nat.reduceEqDiff, Nat.reduceLT, Nat.reduceAdd, Nat.reduceMul, Nat.reduceSub, Int.reduceLT, Int.reduceLE, Int.reduceEq, Int.reduceToNat, Int.reduceAdd, Int.reduceSub, Int.reduceMul, Int.reduceNeg, Int.cast_ofNat_Int, false_and, and_false], by rw [J 7 (by decide), w1]; simp only [hI_wI, Int.toNat_natCast, Int.natCast_nonneg, true_and, and_true, and_self, if_true, if_false, or_true, true_or, or_false, false_or, ne_eq, not_true_eq_false, not_false_eq_true, Nat.reduceLeDiff, Nat.reduceEqDiff, Nat.reduceLT, Nat.reduceAdd, Nat.reduceMul, Nat.reduceSub, Int.reduceLT, Int.reduceLE, Int.reduceEq, Int.reduceToNat, Int.reduceAdd, Int.reduceSub, Int.reduceMul, Int.reduceNeg, Int.cast_ofNat_Int, false_and, and_false], s2, fun z => by have := sgn_ge (X.1 (tAt X q)); omega⟩
