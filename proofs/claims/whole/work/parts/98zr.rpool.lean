/-! the reference reads lines: laws, a line, a pool -/
def preA (A : Nat → Int) : List Int := (List.range (A 188).toNat).map (fun j => A (189 + j))
theorem preA_len (A : Nat → Int) : (preA A).length = (A 188).toNat := by unfold preA; rw [List.length_map, List.length_range]
theorem preA_get {A : Nat → Int} {j : Nat} (h : j < (A 188).toNat) : (preA A).getD j 0 = A (189 + j) := by
  have hl : j < (preA A).length := by rw [preA_len]; exact h
  rw [List.getD, List.getElem?_eq_getElem hl]
  show ((List.range (A 188).toNat).map (fun j => A (189 + j)))[j]'(by simpa [preA] using hl) = _
  rw [List.getElem_map, List.getElem_range]
theorem app_l {a b : List Int} {j : Nat} (h : j < a.length) : (a ++ b).getD j 0 = a.getD j 0 := by
  rw [List.getD, List.getD, List.getElem?_append_left h]
theorem app_r {a b : List Int} {j : Nat} : (a ++ b).getD (a.length + j) 0 = b.getD j 0 := by
  rw [List.getD, List.getD, List.getElem?_append_right (by omega), show a.length + j - a.length = j by omega]
theorem l_w {law : Nat} (h : law < 2) : w32 (3 + (law : Int)) = ((3 + law : Nat) : Int) ∧ (((3 + law : Nat) : Int) < 1089) = True ∧ w32 (5 + (law : Int)) = ((5 + law : Nat) : Int) ∧ (((5 + law : Nat) : Int) < 1089) = True ∧ w32 (7 + (law : Int)) = ((7 + law : Nat) : Int) ∧ (((7 + law : Nat) : Int) < 1089) = True :=
  ⟨by rw [w32_i (by omega) (by omega)]; omega, eq_true (by omega), by rw [w32_i (by omega) (by omega)]; omega, eq_true (by omega), by rw [w32_i (by omega) (by omega)]; omega, eq_true (by omega)⟩
theorem l_sub {n m : Nat} (h : n + m ≤ 1000) : w32 (((n + m : Nat) : Int) - (n : Int)) = (m : Int) := by rw [w32_i (by omega) (by omega)]; omega
/-- where a law was read whole, what the row holds -/
theorem put_row {A : Nat → Int} {law : Nat} {cs : List Int} {h h1 : Hp} (hl : law < 2) (a : AI A) (f : Fp RF h1 h) (e1 : ∀ k, k < 1089 → hI h1 298 k = A k) {q' p' : Nat} (c : RCod (preA A) h p' (.inl (q', cs))) : ∀ k, k < 1089 → hI (wI (wI (wI h 298 (3 + law) 1) 298 (5 + law) (A 188)) 298 (7 + law) (cs.length : Int)) 298 k = lawPut A law cs k := by
  obtain ⟨_, c2, c3, c4⟩ := c
  have c2 : hI h 298 188 = ((preA A ++ cs).length : Int) := c2
  have c3 : ∀ j, j < (preA A ++ cs).length → hI h 298 (189 + j) = (preA A ++ cs).getD j 0 := c3
  have c4 : ∀ k, 189 + (preA A ++ cs).length ≤ k → k < 1089 → hI h 298 k = 0 := c4
  have el : (preA A ++ cs).length = (A 188).toNat + cs.length := by rw [List.length_append, preA_len]
  rw [el] at c2 c3 c4
  have a0 := a.2.2.1
  intro k hk
  rw [hI_wI, hI_wI, hI_wI]
  unfold lawPut
  by_cases k7 : k = 7 + law
  · rw [if_pos ⟨rfl, k7⟩, if_neg (by omega), if_neg (by omega), if_pos k7]
  rw [if_neg (fun z => k7 z.2)]
  by_cases k5 : k = 5 + law
  · rw [if_pos ⟨rfl, k5⟩, if_neg (by omega), if_pos k5]
  rw [if_neg (fun z => k5 z.2)]
  by_cases k3 : k = 3 + law
  · rw [if_pos ⟨rfl, k3⟩, if_pos k3]
  rw [if_neg (fun z => k3 z.2), if_neg k3, if_neg k5, if_neg k7]
  by_cases k8 : k = 188
  · rw [if_pos k8, k8, c2]; omega
  rw [if_neg k8]
  by_cases kc : 189 + (A 188).toNat ≤ k ∧ k < 189 + (A 188).toNat + cs.length
  · rw [if_pos kc]
    have := c3 (k - 189) (by omega)
    rw [show 189 + (k - 189) = k by omega] at this
    rw [this, show k - 189 = (preA A).length + (k - (189 + (A 188).toNat)) by rw [preA_len]; omega, app_r]
  rw [if_neg kc]
  by_cases kl : k < 188
  · rw [f.I (by unfold RF; omega)]; exact e1 k hk
  by_cases kp : k < 189 + (A 188).toNat
  · have := c3 (k - 189) (by omega)
    rw [show 189 + (k - 189) = k by omega] at this
    rw [this, app_l (by rw [preA_len]; omega), preA_get (by omega), show 189 + (k - 189) = k by omega]
  · rw [c4 k (by omega) hk, a.2.2.2 k (by omega)]
theorem pr_1 {z : Int} {q : Nat} (h : z + 1 ≤ (q : Int)) (h0 : 0 ≤ z) : z.toNat + 1 ≤ q := by omega
theorem pr_2 {z : Int} (h0 : 0 ≤ z) : z = ((z.toNat : Nat) : Int) := by omega
theorem pr_3 {j q n : Nat} (h : j < n) (h2 : n + 1 ≤ q) (hq : q ≤ 900) : 189 + j < 1089 := by omega
theorem pr_4 {n c q q' m : Nat} (h : c + q ≤ q') (h2 : n + 1 ≤ q) (hq : q' ≤ m) (hm : m ≤ 900) : n + c ≤ 1000 := by omega
theorem rel_0 {A : Nat → Int} {h : Hp} {q2 : Nat} (a : AI A) (a3 : A 188 + 1 ≤ (q2 : Int)) (hq : q2 ≤ 900) (ea : ∀ k, k < 1089 → hI h 298 k = A k) : RCod (preA A) h 1 (.inl (q2, [])) := by
  obtain ⟨_, _, a0, a4⟩ := a
  have p1 := pr_1 a3 a0
  have e0 : (preA A ++ []).length = (A 188).toNat := by rw [List.append_nil, preA_len]
  have g1 : (preA A ++ []).length + 1 ≤ q2 := by rw [e0]; exact p1
  have g2 : hI h 298 188 = ((preA A ++ []).length : Int) := by rw [e0, ea 188 (by decide)]; exact pr_2 a0
  have g3 : ∀ j, j < (preA A ++ []).length → hI h 298 (189 + j) = (preA A ++ []).getD j 0 := fun j hj => by
    rw [e0] at hj
    rw [List.append_nil, preA_get hj]
    exact ea _ (pr_3 hj p1 hq)
  have g4 : ∀ k, 189 + (preA A ++ []).length ≤ k → k < 1089 → hI h 298 k = 0 := fun k h1 h2 => by
    rw [e0] at h1
    rw [ea k h2]; exact a4 k h1
  exact ⟨g1, g2, g3, g4⟩
def pLawG (X : TX) (law : Nat) (S : PS → PS) (r : LN) : LN := match mvn (eats X 31) (mvn (nxs X) r) with
  | .inl x => lawEnd X law x.2 (S (.inl (x.1, [])))
  | .inr e => .inr e
theorem pLaw_eq (X : TX) (law : Nat) (r : LN) : pLaw X law r = pLawG X law (lvl X law 6).1 r := rfl
theorem pLawG_b {X : TX} {law : Nat} {S : PS → PS} {r : LN} {e : Int × Nat} (h : mvn (eats X 31) (mvn (nxs X) r) = .inr e) : pLawG X law S r = .inr e := by unfold pLawG; rw [h]
theorem pLawG_o {X : TX} {law : Nat} {S : PS → PS} {r : LN} {q : Nat} {A : Nat → Int} (h : mvn (eats X 31) (mvn (nxs X) r) = .inl (q, A)) : pLawG X law S r = lawEnd X law A (S (.inl (q, []))) := by unfold pLawG; rw [h]
theorem l_188 {law : Nat} (h : law < 2) : ((188 : Nat) = 3 + law) = False ∧ ((188 : Nat) = 5 + law) = False := ⟨eq_false (by omega), eq_false (by omega)⟩
theorem N_lawG {d : Nat} {Q : Option PV → Hp → Prop} {X : TX} {h : Hp} {b law : Nat} {r : LN} {S : PS → PS} (sp : ∀ pre, RMt X law pre (d + 149) mX12_readSum [some (.inr (.inr 294)), some (.inl ((0 : Nat) : Int)), none] S) (sb : ∀ e, S (.inr e) = .inr e) (sr : ∀ q q' cs, S (.inl (q, [])) = .inl (q', cs) → q ≤ q' ∧ (q ≤ X.2 → q' ≤ X.2) ∧ cs.length + q ≤ q' ∧ trun (5 + law) cs [] = some [false]) (hl : law < 2) (x : RLn X h b r) (iv : Inv X AI r) (c : 0 ≤ tkl X r) (c' : tkl X r ≠ 25) (k : ∀ h', RLn X h' b (pLawG X law S r) → Fp RX h h' → Q none h') : WP (d + 150) mX12_readLaw 0 [some (.inr (.inr 294)), some (.inl (law : Int)), none] [] h Q := by
  have iv2 := mv_inv (eat_mono (k := 31)) (mv_inv nx_mono iv)
  have lt2 : ∀ q A, mvn (eats X 31) (mvn (nxs X) r) = .inl (q, A) → A 188 + 1 ≤ (q : Int) := fun q A e => by
    obtain ⟨q1, e1, e2⟩ := mvn_inl e
    obtain ⟨q0, e3, e4⟩ := mvn_inl e1
    have i0 := iv q0 A e3
    rw [e3] at c'
    have g0 : q0 + 1 ≤ tBh X q0 := tBh_gt c'
    have e4 : tBh X q0 = q1 := by cases e4; rfl
    have i1 := eat_mono q1 q (by rw [← e4]; exact tBh_le i0.2.2) e2
    omega
  simp only [rX12_readLaw_0, rX12_readLaw_1, Md_K280 x.1.2.1, Int.toNat_natCast, Int.natCast_nonneg, true_and, and_true, and_self, if_true, if_false, or_true, true_or, or_false, false_or, ne_eq, not_true_eq_false, not_false_eq_true, Nat.reduceLeDiff, Nat.reduceEqDiff, Nat.reduceLT, Nat.reduceAdd, Nat.reduceMul, Nat.reduceSub, Int.reduceLT, Int.reduceLE, Int.reduceEq, Int.reduceToNat, Int.reduceAdd, Int.reduceSub, Int.reduceMul, Int.reduceNeg, Int.cast_ofNat_Int, false_and, and_false]
  refine N_next (d := d + 143) x c c' (fun h1 x1 f1 => ?_)
  have mid : ∀ h', RLn X h' b (mvn (eats X 31) (mvn (nxs X) r)) → Fp RX h h' → WP (d + 150) mX12_readLaw 18 [some (.inr (.inr 294)), some (.inl (law : Int)), none] [] h' Q := fun h2 x2 f2 => by
    have m2 := x2.1.2.1
    simp only [rX12_readLaw_18, rX12_readLaw_19, rX12_readLaw_22, rX12_readLaw_25, rX12_readLaw_26, rX12_readLaw_27, rX12_readLaw_28, rX12_readLaw_29, rX12_readLaw_32, rX12_readLaw_33, rX12_readLaw_34, Md_K280 m2, Md_R284 m2, Md_K284 m2, hK_wI, Int.toNat_natCast, Int.natCast_nonneg, true_and, and_true, and_self, if_true, if_false, or_true, true_or, or_false, false_or, ne_eq, not_true_eq_false, not_false_eq_true, Nat.reduceLeDiff, Nat.reduceEqDiff, Nat.reduceLT, Nat.reduceAdd, Nat.reduceMul, Nat.reduceSub, Int.reduceLT, Int.reduceLE, Int.reduceEq, Int.reduceToNat, Int.reduceAdd, Int.reduceSub, Int.reduceMul, Int.reduceNeg, Int.cast_ofNat_Int, false_and, and_false]
    have f3 : Fp RX h2 (wI h2 294 15 (law : Int)) := (Fp.refl RX h2).wI (Or.inl ⟨rfl, Or.inr (Or.inr (Or.inr (Or.inr (Or.inr (Or.inr rfl)))))⟩) _
    have J : ∀ i, i ≠ 15 → hI (wI h2 294 15 (law : Int)) 294 i = hI h2 294 i := fun i hi => by rw [hI_wI, if_neg (fun z => hi z.2)]
    have J4 : ∀ i, hI (wI h2 294 15 (law : Int)) 298 i = hI h2 298 i := fun i => by rw [hI_wI, if_neg (fun z => absurd z.1 (by decide))]
    have g3 := x2.1.fp f3 RX_s
    have l3 : hI (wI h2 294 15 (law : Int)) 294 15 = (law : Int) := by rw [hI_wI, if_pos ⟨rfl, rfl⟩]
    cases hr : mvn (eats X 31) (mvn (nxs X) r) with
    | inr e =>
      rw [pLawG_b hr] at k
      rw [hr] at x2
      have t := x2.2.1
      refine sp [] _ _ (.inr e) b 0 ⟨g3, l3, ⟨t.1, (J 11 (by decide)).trans t.2.1, (J 12 (by decide)).trans t.2.2⟩, trivial⟩ (fun h4 x4 f4 => ?_)
      rw [sb e] at x4
      have w : (hI h4 294 11 = 0) = False := eq_false (x4.2.2.1.bad (fun q z => by cases z))
      simp only [psh_none, rX12_readLaw_37, rX12_readLaw_38, rX12_readLaw_41, rX12_readLaw_44, Md_K280 x4.1.2.1, w, Int.toNat_natCast, Int.natCast_nonneg, true_and, and_true, and_self, if_true, if_false, or_true, true_or, or_false, false_or, ne_eq, not_true_eq_false, not_false_eq_true, Nat.reduceLeDiff, Nat.reduceEqDiff, Nat.reduceLT, Nat.reduceAdd, Nat.reduceMul, Nat.reduceSub, Int.reduceLT, Int.reduceLE, Int.reduceEq, Int.reduceToNat, Int.reduceAdd, Int.reduceSub, Int.reduceMul, Int.reduceNeg, Int.cast_ofNat_Int, false_and, and_false]
      exact k h4 ⟨x4.1, x4.2.2.1, fun q A z => by cases z⟩ (f2.trans (f3.trans (f4.mono RF_RX)))
    | inl y =>
      obtain ⟨q2, A⟩ := y
      rw [pLawG_o hr] at k
      rw [hr] at x2
      obtain ⟨a, a1, a2⟩ := iv2 q2 A hr
      have a3 := lt2 q2 A hr
      have a0 := a.2.2.1
      have t := x2.2.1
      have ea := x2.2.2 q2 A rfl
      have n0 : hI h2 298 188 = A 188 := ea 188 (by decide)
      have h9 := x2.1.2.2.2.1
      have rel : RRel X law (preA A) (wI h2 294 15 (law : Int)) b 1 (.inl (q2, [])) := by
        refine ⟨g3, l3, ⟨t.1, t.2.1, (J 11 (by decide)).trans t.2.2.1, (J 6 (by decide)).trans t.2.2.2.1, (J 7 (by decide)).trans t.2.2.2.2.1, (J 9 (by decide)).trans t.2.2.2.2.2.1, fun z => (J 10 (by decide)).trans (t.2.2.2.2.2.2 z)⟩, ?_⟩
        exact rel_0 a a3 (Nat.le_trans a2 h9) (fun k hk => (J4 k).trans (ea k hk))
      rw [n0]
      refine sp (preA A) _ _ (.inl (q2, [])) b 0 rel (fun h4 x4 f4 => ?_)
      cases hy : S (.inl (q2, [])) with
      | inr e =>
        rw [hy] at x4 k
        have w : (hI h4 294 11 = 0) = False := eq_false (x4.2.2.1.bad (fun q z => by cases z))
        simp only [psh_none, rX12_readLaw_37, rX12_readLaw_38, rX12_readLaw_41, rX12_readLaw_44, Md_K280 x4.1.2.1, w, Int.toNat_natCast, Int.natCast_nonneg, true_and, and_true, and_self, if_true, if_false, or_true, true_or, or_false, false_or, ne_eq, not_true_eq_false, not_false_eq_true, Nat.reduceLeDiff, Nat.reduceEqDiff, Nat.reduceLT, Nat.reduceAdd, Nat.reduceMul, Nat.reduceSub, Int.reduceLT, Int.reduceLE, Int.reduceEq, Int.reduceToNat, Int.reduceAdd, Int.reduceSub, Int.reduceMul, Int.reduceNeg, Int.cast_ofNat_Int, false_and, and_false]
        exact k h4 ⟨x4.1, x4.2.2.1, fun q A z => by cases z⟩ (f2.trans (f3.trans (f4.mono RF_RX)))
      | inl y =>
        obtain ⟨q3, cs⟩ := y
        rw [hy] at x4 k
        obtain ⟨b1, b2, b3, b4⟩ := sr _ _ _ hy
        obtain ⟨w1, w2, w3, w4, w5, w6⟩ := l_w hl
        have t4 := x4.2.2.1
        have w : hI h4 294 11 = 0 := t4.2.2.1
        have m4 := x4.1.2.1
        have c2 : hI h4 298 188 = ((preA A ++ cs).length : Int) := x4.2.2.2.2.1
        have el : (preA A ++ cs).length = (A 188).toNat + cs.length := by rw [List.length_append, preA_len]
        have q3l : q3 ≤ X.2 := t4.2.1
        have en : A 188 = ((A 188).toNat : Int) := pr_2 a0
        have sub : w32 (((((A 188).toNat + cs.length : Nat) : Int)) - A 188) = (cs.length : Int) := by
          have := l_sub (n := (A 188).toNat) (m := cs.length) (pr_4 b3 (pr_1 a3 a0) q3l h9)
          rwa [← en] at this
        obtain ⟨z3, z5⟩ := l_188 hl
        rw [el] at c2
        simp only [psh_none, rX12_readLaw_37, rX12_readLaw_38, rX12_readLaw_41, rX12_readLaw_45, rX12_readLaw_46, rX12_readLaw_49, rX12_readLaw_50, rX12_readLaw_51, rX12_readLaw_52, rX12_readLaw_53, rX12_readLaw_54, rX12_readLaw_55, rX12_readLaw_58, rX12_readLaw_59, rX12_readLaw_60, rX12_readLaw_61, rX12_readLaw_62, rX12_readLaw_63, rX12_readLaw_64, rX12_readLaw_67, rX12_readLaw_69, rX12_readLaw_70, rX12_readLaw_71, rX12_readLaw_72, rX12_readLaw_75, rX12_readLaw_78, rX12_readLaw_79, rX12_readLaw_80, rX12_readLaw_81, rX12_readLaw_82, Md_K280 m4, Md_R284 m4, Md_K284 m4, w, w1, w2, w3, w4, w5, w6, hK_wI, hI_wI, hR_wI, c2, sub, z3, z5, Int.toNat_natCast, Int.natCast_nonneg, true_and, and_true, and_self, if_true, if_false, or_true, true_or, or_false, false_or, ne_eq, not_true_eq_false, not_false_eq_true, Nat.reduceLeDiff, Nat.reduceEqDiff, Nat.reduceLT, Nat.reduceAdd, Nat.reduceMul, Nat.reduceSub, Int.reduceLT, Int.reduceLE, Int.reduceEq, Int.reduceToNat, Int.reduceAdd, Int.reduceSub, Int.reduceMul, Int.reduceNeg, Int.cast_ofNat_Int, false_and, and_false]
        have f5 : Fp RX h4 (wI (wI (wI h4 298 (3 + law) 1) 298 (5 + law) (A 188)) 298 (7 + law) (cs.length : Int)) := (((Fp.refl RX h4).wI (Or.inr rfl) _).wI (Or.inr rfl) _).wI (Or.inr rfl) _
        have J5 : ∀ i, hI (wI (wI (wI h4 298 (3 + law) 1) 298 (5 + law) (A 188)) 298 (7 + law) (cs.length : Int)) 294 i = hI h4 294 i := fun i => by rw [hI_wI, if_neg (fun z => absurd z.1 (by decide)), hI_wI, if_neg (fun z => absurd z.1 (by decide)), hI_wI, if_neg (fun z => absurd z.1 (by decide))]
        refine k _ ⟨x4.1.fp f5 RX_s, ⟨t4.1, t4.2.1, (J5 11).trans t4.2.2.1, (J5 6).trans t4.2.2.2.1, (J5 7).trans t4.2.2.2.2.1, (J5 9).trans t4.2.2.2.2.2.1, fun z => (J5 10).trans (t4.2.2.2.2.2.2 z)⟩, fun q B e => ?_⟩ (f2.trans (f3.trans ((f4.mono RF_RX).trans f5)))
        have eB : lawPut A law cs = B := by cases e; rfl
        rw [← eB]
        exact put_row hl a f4 (fun k hk => (J4 k).trans (ea k hk)) x4.2.2.2
  by_cases c2 : tkl X (mvn (nxs X) r) = 31
  · simp only [psh_none, rX12_readLaw_4, rX12_readLaw_5, rX12_readLaw_7, Md_K280 x1.1.2.1, Int.toNat_natCast, Int.natCast_nonneg, true_and, and_true, and_self, if_true, if_false, or_true, true_or, or_false, false_or, ne_eq, not_true_eq_false, not_false_eq_true, Nat.reduceLeDiff, Nat.reduceEqDiff, Nat.reduceLT, Nat.reduceAdd, Nat.reduceMul, Nat.reduceSub, Int.reduceLT, Int.reduceLE, Int.reduceEq, Int.reduceToNat, Int.reduceAdd, Int.reduceSub, Int.reduceMul, Int.reduceNeg, Int.cast_ofNat_Int, false_and, and_false]
    refine N_eats1 (d := d + 142) x1 (by decide) (by decide) c2 (fun h2 x2 f2 => ?_)
    simp only [psh_some, rX12_readLaw_10, Int.toNat_natCast, Int.natCast_nonneg, true_and, and_true, and_self, if_true, if_false, or_true, true_or, or_false, false_or, ne_eq, not_true_eq_false, not_false_eq_true, Nat.reduceLeDiff, Nat.reduceEqDiff, Nat.reduceLT, Nat.reduceAdd, Nat.reduceMul, Nat.reduceSub, Int.reduceLT, Int.reduceLE, Int.reduceEq, Int.reduceToNat, Int.reduceAdd, Int.reduceSub, Int.reduceMul, Int.reduceNeg, Int.cast_ofNat_Int, false_and, and_false]
    exact mid h2 (by rw [mv_e1 c2]; exact x2.weak (Nat.le_succ_of_le (Nat.le_succ b))) (f1.trans f2)
  · have e0 := fun (Q : Option PV → Hp → Prop) => R_eats0 (d := d + 142) (Q := Q) x1.1 x1.2.1 (z := 31) (by decide) c2
    simp only [psh_none, rX12_readLaw_4, rX12_readLaw_5, rX12_readLaw_7, rX12_readLaw_10, rX12_readLaw_13, rX12_readLaw_14, rX12_readLaw_15, Md_K280 x1.1.2.1, e0, psh_some, Int.toNat_natCast, Int.natCast_nonneg, true_and, and_true, and_self, if_true, if_false, or_true, true_or, or_false, false_or, ne_eq, not_true_eq_false, not_false_eq_true, Nat.reduceLeDiff, Nat.reduceEqDiff, Nat.reduceLT, Nat.reduceAdd, Nat.reduceMul, Nat.reduceSub, Int.reduceLT, Int.reduceLE, Int.reduceEq, Int.reduceToNat, Int.reduceAdd, Int.reduceSub, Int.reduceMul, Int.reduceNeg, Int.cast_ofNat_Int, false_and, and_false]
    refine N_fails x1 (by decide) (fun h2 x2 f2 => ?_)
    simp only [psh_none]
    exact mid h2 (by rw [mv_e0 c2]; exact x2.weak (Nat.le_succ b)) (f1.trans f2)
theorem N_law {d : Nat} {Q : Option PV → Hp → Prop} {X : TX} {h : Hp} {b law : Nat} {r : LN} (hl : law < 2) (x : RLn X h b r) (iv : Inv X AI r) (c : 0 ≤ tkl X r) (c' : tkl X r ≠ 25) (k : ∀ h', RLn X h' b (pLaw X law r) → Fp RX h h' → Q none h') : WP (d + 150) mX12_readLaw 0 [some (.inr (.inr 294)), some (.inl (law : Int)), none] [] h Q :=
  N_lawG (S := (lvl X law 6).1) (fun pre => (M_lvl (X := X) (pre := pre) hl 6 0 rfl).1 (d + 149) (by omega)) (lvl_typ (X := X) hl 6 (Nat.le_refl _)).1.1 (fun q q' cs e => law_read hl e) hl x iv c c' k
theorem N_line {d : Nat} {Q : Option PV → Hp → Prop} {X : TX} {h : Hp} {b : Nat} {r : LN} (x : RLn X h b r) (iv : Inv X AI r) (c : 0 ≤ tkl X r) (c' : tkl X r ≠ 25) (k : ∀ h', RLn X h' b (pRead X r) → Fp RX h h' → Q none h') : WP (d + 151) mX12_readLine 0 [some (.inr (.inr 294))] [] h Q := by
  have K := Md_K280 x.1.2.1
  have w0 : hI h 294 11 = 0 := by
    rcases x.ok with z | z
    · exact z.1
    · omega
  have w9 : hI h 294 9 = tkl X r := by
    have t := x.2.1
    cases r with
    | inl y => exact t.2.2.2.2.2.1
    | inr e => exact absurd c (by show ¬ (0 : Int) ≤ -1; decide)
  have s1 : ∀ (Q : Option PV → Hp → Prop), WP (d + 150) mX12_is 0 [some (.inr (.inr 294)), some (.inl 1)] [] h Q = Q (some (.inl (zb (tkl X r = 1)))) h := fun Q => R_is (d := d + 150) (Q := Q) x.1 x.2.1 (z := 1) (by decide)
  have s6 : ∀ (Q : Option PV → Hp → Prop), WP (d + 150) mX12_is 0 [some (.inr (.inr 294)), some (.inl 6)] [] h Q = Q (some (.inl (zb (tkl X r = 6)))) h := fun Q => R_is (d := d + 150) (Q := Q) x.1 x.2.1 (z := 6) (by decide)
  have s10 : ∀ (Q : Option PV → Hp → Prop), WP (d + 150) mX12_is 0 [some (.inr (.inr 294)), some (.inl 10)] [] h Q = Q (some (.inl (zb (tkl X r = 10)))) h := fun Q => R_is (d := d + 150) (Q := Q) x.1 x.2.1 (z := 10) (by decide)
  have s11 : ∀ (Q : Option PV → Hp → Prop), WP (d + 150) mX12_is 0 [some (.inr (.inr 294)), some (.inl 11)] [] h Q = Q (some (.inl (zb (tkl X r = 11)))) h := fun Q => R_is (d := d + 150) (Q := Q) x.1 x.2.1 (z := 11) (by decide)
  unfold pRead at k
  by_cases c1 : tkl X r = 1
  · rw [if_pos c1] at k
    simp only [rX12_readLine_0, rX12_readLine_1, rX12_readLine_4, rX12_readLine_7, rX12_readLine_8, rX12_readLine_9, rX12_readLine_10, rX12_readLine_13, rX12_readLine_16, rX12_readLine_17, K, w0, s1, zb_t c1, psh_some, Int.toNat_natCast, Int.natCast_nonneg, true_and, and_true, and_self, if_true, if_false, or_true, true_or, or_false, false_or, ne_eq, not_true_eq_false, not_false_eq_true, Nat.reduceLeDiff, Nat.reduceEqDiff, Nat.reduceLT, Nat.reduceAdd, Nat.reduceMul, Nat.reduceSub, Int.reduceLT, Int.reduceLE, Int.reduceEq, Int.reduceToNat, Int.reduceAdd, Int.reduceSub, Int.reduceMul, Int.reduceNeg, Int.cast_ofNat_Int, false_and, and_false]
    refine N_thing (d := d + 141) x iv c1 (fun h1 x1 f1 => ?_)
    simp only [psh_none, rX12_readLine_20, rX12_readLine_76]
    exact k h1 x1 f1
  rw [if_neg c1] at k
  by_cases c6 : tkl X r = 6
  · rw [if_pos c6] at k
    simp only [rX12_readLine_0, rX12_readLine_1, rX12_readLine_4, rX12_readLine_7, rX12_readLine_8, rX12_readLine_9, rX12_readLine_10, rX12_readLine_13, rX12_readLine_23, rX12_readLine_24, rX12_readLine_26, rX12_readLine_29, rX12_readLine_32, rX12_readLine_33, K, w0, s1, s6, zb_f c1, zb_t c6, psh_some, Int.toNat_natCast, Int.natCast_nonneg, true_and, and_true, and_self, if_true, if_false, or_true, true_or, or_false, false_or, ne_eq, not_true_eq_false, not_false_eq_true, Nat.reduceLeDiff, Nat.reduceEqDiff, Nat.reduceLT, Nat.reduceAdd, Nat.reduceMul, Nat.reduceSub, Int.reduceLT, Int.reduceLE, Int.reduceEq, Int.reduceToNat, Int.reduceAdd, Int.reduceSub, Int.reduceMul, Int.reduceNeg, Int.cast_ofNat_Int, false_and, and_false]
    refine N_goer (d := d + 141) x iv c6 (fun h1 x1 f1 => ?_)
    simp only [psh_none, rX12_readLine_36, rX12_readLine_76]
    exact k h1 x1 f1
  rw [if_neg c6] at k
  by_cases c10 : tkl X r = 10
  · rw [if_pos c10] at k
    rw [c10] at w9
    simp only [rX12_readLine_0, rX12_readLine_1, rX12_readLine_4, rX12_readLine_7, rX12_readLine_8, rX12_readLine_9, rX12_readLine_10, rX12_readLine_13, rX12_readLine_23, rX12_readLine_24, rX12_readLine_26, rX12_readLine_29, rX12_readLine_39, rX12_readLine_40, rX12_readLine_42, rX12_readLine_45, rX12_readLine_48, rX12_readLine_49, rX12_readLine_51, rX12_readLine_54, rX12_readLine_57, rX12_readLine_58, rX12_readLine_59, rX12_readLine_62, rX12_readLine_64, rX12_readLine_65, K, w0, w9, s1, s6, s10, zb_f c1, zb_f c6, zb_t c10, psh_some, show w32 0 = 0 from rfl, Int.toNat_natCast, Int.natCast_nonneg, true_and, and_true, and_self, if_true, if_false, or_true, true_or, or_false, false_or, ne_eq, not_true_eq_false, not_false_eq_true, Nat.reduceLeDiff, Nat.reduceEqDiff, Nat.reduceLT, Nat.reduceAdd, Nat.reduceMul, Nat.reduceSub, Int.reduceLT, Int.reduceLE, Int.reduceEq, Int.reduceToNat, Int.reduceAdd, Int.reduceSub, Int.reduceMul, Int.reduceNeg, Int.cast_ofNat_Int, false_and, and_false]
    refine N_law (d := d) (law := 0) (by decide) x iv c c' (fun h1 x1 f1 => ?_)
    simp only [psh_none, rX12_readLine_68, rX12_readLine_76]
    exact k h1 x1 f1
  rw [if_neg c10] at k
  by_cases c11 : tkl X r = 11
  · rw [if_pos c11] at k
    rw [c11] at w9
    simp only [rX12_readLine_0, rX12_readLine_1, rX12_readLine_4, rX12_readLine_7, rX12_readLine_8, rX12_readLine_9, rX12_readLine_10, rX12_readLine_13, rX12_readLine_23, rX12_readLine_24, rX12_readLine_26, rX12_readLine_29, rX12_readLine_39, rX12_readLine_40, rX12_readLine_42, rX12_readLine_45, rX12_readLine_48, rX12_readLine_49, rX12_readLine_51, rX12_readLine_54, rX12_readLine_57, rX12_readLine_58, rX12_readLine_59, rX12_readLine_62, rX12_readLine_64, rX12_readLine_65, K, w0, w9, s1, s6, s10, s11, zb_f c1, zb_f c6, zb_f c10, zb_t c11, psh_some, show w32 1 = 1 from rfl, Int.toNat_natCast, Int.natCast_nonneg, true_and, and_true, and_self, if_true, if_false, or_true, true_or, or_false, false_or, ne_eq, not_true_eq_false, not_false_eq_true, Nat.reduceLeDiff, Nat.reduceEqDiff, Nat.reduceLT, Nat.reduceAdd, Nat.reduceMul, Nat.reduceSub, Int.reduceLT, Int.reduceLE, Int.reduceEq, Int.reduceToNat, Int.reduceAdd, Int.reduceSub, Int.reduceMul, Int.reduceNeg, Int.cast_ofNat_Int, false_and, and_false]
    refine N_law (d := d) (law := 1) (by decide) x iv c c' (fun h1 x1 f1 => ?_)
    simp only [psh_none, rX12_readLine_68, rX12_readLine_76]
    exact k h1 x1 f1
  rw [if_neg c11] at k
  simp only [rX12_readLine_0, rX12_readLine_1, rX12_readLine_4, rX12_readLine_7, rX12_readLine_8, rX12_readLine_9, rX12_readLine_10, rX12_readLine_13, rX12_readLine_23, rX12_readLine_24, rX12_readLine_26, rX12_readLine_29, rX12_readLine_39, rX12_readLine_40, rX12_readLine_42, rX12_readLine_45, rX12_readLine_48, rX12_readLine_49, rX12_readLine_51, rX12_readLine_54, rX12_readLine_71, rX12_readLine_72, rX12_readLine_73, K, w0, s1, s6, s10, s11, zb_f c1, zb_f c6, zb_f c10, zb_f c11, psh_some, Int.toNat_natCast, Int.natCast_nonneg, true_and, and_true, and_self, if_true, if_false, or_true, true_or, or_false, false_or, ne_eq, not_true_eq_false, not_false_eq_true, Nat.reduceLeDiff, Nat.reduceEqDiff, Nat.reduceLT, Nat.reduceAdd, Nat.reduceMul, Nat.reduceSub, Int.reduceLT, Int.reduceLE, Int.reduceEq, Int.reduceToNat, Int.reduceAdd, Int.reduceSub, Int.reduceMul, Int.reduceNeg, Int.cast_ofNat_Int, false_and, and_false]
  refine N_fails x (by decide) (fun h1 x1 f1 => ?_)
  simp only [psh_none, rX12_readLine_76]
  exact k h1 x1 f1
