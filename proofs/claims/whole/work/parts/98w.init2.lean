/-! more constructors -/
def Di0 (h : Hp) (a : Nat) : Prop := hK h a = (0, 0) ∧ hR h a 0 = a + 1 ∧ hR h a 1 = a + 2 ∧ hK h (a + 1) = (21, 6) ∧ hK h (a + 2) = (21, 64)
def Rd0 (h : Hp) (a : Nat) : Prop := hK h a = (6, 0) ∧ hR h a 0 = a + 1 ∧ hR h a 1 = a + 2 ∧ hK h (a + 1) = (20, 900) ∧ hK h (a + 2) = (21, 900) ∧ hI h a 3 = 0 ∧ hI h a 11 = 0 ∧ hI h a 12 = -1
def Im0 (h : Hp) (a : Nat) : Prop := hK h a = (2, 0) ∧ hR h a 0 = a + 1 ∧ hI h a 2 = 0 ∧ St0 h (a + 1)
set_option maxRecDepth 20000 in
theorem I_diver {d : Nat} {Q : Option PV → Hp → Prop} {h : Hp} {M : Nat} (hM : hN h = M) (k : ∀ h', Fa (fun _ => False) h h' → hN h' = M + 3 → hS h' ≤ hS h + 80 → Di0 h' (200 + M) → Q none h') : WP d mX0_init 0 [some (.inr (.inr (200 + M)))] [] (nw h 0 0 6) Q := by
  simp only [rX0_init_0, rX0_init_1, rX0_init_4, rX0_init_5, rX0_init_7, rX0_init_9, rX0_init_12, rX0_init_13, rX0_init_15, rX0_init_17, rX0_init_20, hN_wI, hN_wJ, hN_wR, hS_wI, hS_wJ, hS_wR, hK_wI, hK_wJ, hK_wR, hI_wI, hI_wJ, hI_wR, hJ_wI, hJ_wJ, hJ_wR, hR_wI, hR_wJ, hR_wR, hN_nw, hS_nw, hK_nw, hI_nw, hJ_nw, hR_nw, psh_some, psh_none, Int.toNat_natCast, Int.natCast_nonneg, true_and, and_true, and_self, if_true, if_false, or_true, true_or, or_false, false_or, ne_eq, not_true_eq_false, not_false_eq_true, Nat.reduceLeDiff, Nat.reduceEqDiff, Nat.reduceLT, Nat.reduceAdd, Nat.reduceMul, Nat.reduceSub, Int.reduceLT, Int.reduceLE, Int.reduceEq, Int.reduceToNat, Int.reduceAdd, Int.reduceSub, Int.reduceMul, Int.reduceNeg, Int.cast_ofNat_Int, false_and, and_false, hM, Nat.add_assoc, nwj, nw0, nw0', ge2, ge2']
  have w0 : ∀ {h1 : Hp} (_ : Fa (fun a => 200 + hN h ≤ a) h h1) (k v : Nat), Fa (fun a => 200 + hN h ≤ a) h (wR h1 (200 + M) k v) := fun f k v => f.wR (by rw [hM]; omega) k v
  have nn : ∀ {h1 : Hp} (_ : Fa (fun a => 200 + hN h ≤ a) h h1) (c l q : Nat), Fa (fun a => 200 + hN h ≤ a) h (nw h1 c l q) := fun f c l q => f.nw c l q
  refine k _ (Fa.new (w0 (nn (w0 (nn (nn (Fa.refl _ h) _ _ _) _ _ _) _ _) _ _ _) _ _)) ?_ ?_ ?_
  · simp only [hN_wI, hN_wJ, hN_wR, hS_wI, hS_wJ, hS_wR, hK_wI, hK_wJ, hK_wR, hI_wI, hI_wJ, hI_wR, hJ_wI, hJ_wJ, hJ_wR, hR_wI, hR_wJ, hR_wR, hN_nw, hS_nw, hK_nw, hI_nw, hJ_nw, hR_nw, psh_some, psh_none, hM, Nat.add_assoc, Nat.reduceAdd]
  · simp only [hN_wI, hN_wJ, hN_wR, hS_wI, hS_wJ, hS_wR, hK_wI, hK_wJ, hK_wR, hI_wI, hI_wJ, hI_wR, hJ_wI, hJ_wJ, hJ_wR, hR_wI, hR_wJ, hR_wR, hN_nw, hS_nw, hK_nw, hI_nw, hJ_nw, hR_nw, psh_some, psh_none, Int.toNat_natCast, Int.natCast_nonneg, true_and, and_true, and_self, if_true, if_false, or_true, true_or, or_false, false_or, ne_eq, not_true_eq_false, not_false_eq_true, Nat.reduceLeDiff, Nat.reduceEqDiff, Nat.reduceLT, Nat.reduceAdd, Nat.reduceMul, Nat.reduceSub, Int.reduceLT, Int.reduceLE, Int.reduceEq, Int.reduceToNat, Int.reduceAdd, Int.reduceSub, Int.reduceMul, Int.reduceNeg, Int.cast_ofNat_Int, false_and, and_false, Nat.add_assoc]; omega
  · unfold Di0
    simp only [hN_wI, hN_wJ, hN_wR, hS_wI, hS_wJ, hS_wR, hK_wI, hK_wJ, hK_wR, hI_wI, hI_wJ, hI_wR, hJ_wI, hJ_wJ, hJ_wR, hR_wI, hR_wJ, hR_wR, hN_nw, hS_nw, hK_nw, hI_nw, hJ_nw, hR_nw, psh_some, psh_none, Int.toNat_natCast, Int.natCast_nonneg, true_and, and_true, and_self, if_true, if_false, or_true, true_or, or_false, false_or, ne_eq, not_true_eq_false, not_false_eq_true, Nat.reduceLeDiff, Nat.reduceEqDiff, Nat.reduceLT, Nat.reduceAdd, Nat.reduceMul, Nat.reduceSub, Int.reduceLT, Int.reduceLE, Int.reduceEq, Int.reduceToNat, Int.reduceAdd, Int.reduceSub, Int.reduceMul, Int.reduceNeg, Int.cast_ofNat_Int, false_and, and_false, hM, Nat.add_assoc, nwj, nw0, nw0', implies_true]
set_option maxRecDepth 20000 in
theorem I_image {d : Nat} {Q : Option PV → Hp → Prop} {h : Hp} {M : Nat} (hM : hN h = M) (k : ∀ h', Fa (fun _ => False) h h' → hN h' = M + 11 → hS h' ≤ hS h + 110 → Im0 h' (200 + M) → Q none h') : WP (d + 1) mX2_init 0 [some (.inr (.inr (200 + M)))] [] (nw h 2 0 3) Q := by
  simp only [rX2_init_0, rX2_init_1, rX2_init_4, rX2_init_5, rX2_init_8, rX2_init_9, rX2_init_12, rX2_init_15, rX2_init_16, rX2_init_19, rX2_init_20, rX2_init_23, rX2_init_26, rX8_init_0, rX8_init_1, rX8_init_4, rX8_init_5, rX8_init_7, rX8_init_9, rX8_init_12, rX8_init_13, rX8_init_15, rX8_init_17, rX8_init_20, rX5_init_0, rX5_init_1, rX5_init_4, rX5_init_5, rX5_init_7, rX5_init_9, rX5_init_12, rX5_init_13, rX5_init_15, rX5_init_17, rX5_init_20, rX5_init_21, rX5_init_23, rX5_init_25, rX5_init_28, rX5_init_29, rX5_init_31, rX5_init_33, rX5_init_36, rX5_init_37, rX5_init_39, rX5_init_41, rX5_init_44, rX5_init_45, rX5_init_47, rX5_init_49, rX5_init_52, rX5_init_53, rX5_init_56, rX5_init_59, rX5_init_60, rX5_init_63, rX5_init_66, hN_wI, hN_wJ, hN_wR, hS_wI, hS_wJ, hS_wR, hK_wI, hK_wJ, hK_wR, hI_wI, hI_wJ, hI_wR, hJ_wI, hJ_wJ, hJ_wR, hR_wI, hR_wJ, hR_wR, hN_nw, hS_nw, hK_nw, hI_nw, hJ_nw, hR_nw, psh_some, psh_none, Int.toNat_natCast, Int.natCast_nonneg, true_and, and_true, and_self, if_true, if_false, or_true, true_or, or_false, false_or, ne_eq, not_true_eq_false, not_false_eq_true, Nat.reduceLeDiff, Nat.reduceEqDiff, Nat.reduceLT, Nat.reduceAdd, Nat.reduceMul, Nat.reduceSub, Int.reduceLT, Int.reduceLE, Int.reduceEq, Int.reduceToNat, Int.reduceAdd, Int.reduceSub, Int.reduceMul, Int.reduceNeg, Int.cast_ofNat_Int, false_and, and_false, hM, Nat.add_assoc, nwj, nw0, nw0', ge2, ge2']
  have w0 : ∀ {h1 : Hp} (_ : Fa (fun a => 200 + hN h ≤ a) h h1) (k v : Nat), Fa (fun a => 200 + hN h ≤ a) h (wR h1 (200 + M) k v) := fun f k v => f.wR (by rw [hM]; omega) k v
  have w : ∀ {h1 : Hp} (_ : Fa (fun a => 200 + hN h ≤ a) h h1) (i k v : Nat), Fa (fun a => 200 + hN h ≤ a) h (wR h1 (200 + (M + i)) k v) := fun f i k v => f.wR (by rw [hM]; omega) k v
  have nn : ∀ {h1 : Hp} (_ : Fa (fun a => 200 + hN h ≤ a) h h1) (c l q : Nat), Fa (fun a => 200 + hN h ≤ a) h (nw h1 c l q) := fun f c l q => f.nw c l q
  refine k _ (Fa.new ?_) ?_ ?_ ?_
  · refine w0 ?_ _ _
    refine w (w (w (nn (w (nn (w (nn (w (nn (w (nn (w (nn (nn ?_ _ _ _) _ _ _) _ _ _) _ _ _) _ _ _) _ _ _) _ _ _) _ _ _) _ _ _) _ _ _) _ _ _) _ _ _) _ _ _) _ _ _) _ _ _
    exact w0 (w (nn (w (nn (nn (nn (Fa.refl _ h) _ _ _) _ _ _) _ _ _) _ _ _) _ _ _) _ _ _) _ _
  · simp only [hN_wI, hN_wJ, hN_wR, hS_wI, hS_wJ, hS_wR, hK_wI, hK_wJ, hK_wR, hI_wI, hI_wJ, hI_wR, hJ_wI, hJ_wJ, hJ_wR, hR_wI, hR_wJ, hR_wR, hN_nw, hS_nw, hK_nw, hI_nw, hJ_nw, hR_nw, psh_some, psh_none, hM, Nat.add_assoc, Nat.reduceAdd]
  · simp only [hN_wI, hN_wJ, hN_wR, hS_wI, hS_wJ, hS_wR, hK_wI, hK_wJ, hK_wR, hI_wI, hI_wJ, hI_wR, hJ_wI, hJ_wJ, hJ_wR, hR_wI, hR_wJ, hR_wR, hN_nw, hS_nw, hK_nw, hI_nw, hJ_nw, hR_nw, psh_some, psh_none, Int.toNat_natCast, Int.natCast_nonneg, true_and, and_true, and_self, if_true, if_false, or_true, true_or, or_false, false_or, ne_eq, not_true_eq_false, not_false_eq_true, Nat.reduceLeDiff, Nat.reduceEqDiff, Nat.reduceLT, Nat.reduceAdd, Nat.reduceMul, Nat.reduceSub, Int.reduceLT, Int.reduceLE, Int.reduceEq, Int.reduceToNat, Int.reduceAdd, Int.reduceSub, Int.reduceMul, Int.reduceNeg, Int.cast_ofNat_Int, false_and, and_false, Nat.add_assoc]; omega
  · unfold Im0 St0
    simp only [hN_wI, hN_wJ, hN_wR, hS_wI, hS_wJ, hS_wR, hK_wI, hK_wJ, hK_wR, hI_wI, hI_wJ, hI_wR, hJ_wI, hJ_wJ, hJ_wR, hR_wI, hR_wJ, hR_wR, hN_nw, hS_nw, hK_nw, hI_nw, hJ_nw, hR_nw, psh_some, psh_none, Int.toNat_natCast, Int.natCast_nonneg, true_and, and_true, and_self, if_true, if_false, or_true, true_or, or_false, false_or, ne_eq, not_true_eq_false, not_false_eq_true, Nat.reduceLeDiff, Nat.reduceEqDiff, Nat.reduceLT, Nat.reduceAdd, Nat.reduceMul, Nat.reduceSub, Int.reduceLT, Int.reduceLE, Int.reduceEq, Int.reduceToNat, Int.reduceAdd, Int.reduceSub, Int.reduceMul, Int.reduceNeg, Int.cast_ofNat_Int, false_and, and_false, hM, Nat.add_assoc, nwj, nw0, nw0', implies_true]
set_option maxRecDepth 20000 in
theorem I_reader {d : Nat} {Q : Option PV → Hp → Prop} {h : Hp} {M : Nat} (hM : hN h = M) (k : ∀ h', Fa (fun _ => False) h h' → hN h' = M + 10 → hS h' ≤ hS h + 2000 → Rd0 h' (200 + M) → Q none h') : WP (d + 1) mX6_init 0 [some (.inr (.inr (200 + M)))] [] (nw h 6 0 13) Q := by
  simp only [rX6_init_0, rX6_init_1, rX6_init_4, rX6_init_5, rX6_init_8, rX6_init_10, rX6_init_13, rX6_init_14, rX6_init_17, rX6_init_19, rX6_init_22, rX6_init_23, rX6_init_26, rX6_init_27, rX6_init_30, rX6_init_33, rX6_init_34, rX6_init_35, rX6_init_38, rX5_init_0, rX5_init_1, rX5_init_4, rX5_init_5, rX5_init_7, rX5_init_9, rX5_init_12, rX5_init_13, rX5_init_15, rX5_init_17, rX5_init_20, rX5_init_21, rX5_init_23, rX5_init_25, rX5_init_28, rX5_init_29, rX5_init_31, rX5_init_33, rX5_init_36, rX5_init_37, rX5_init_39, rX5_init_41, rX5_init_44, rX5_init_45, rX5_init_47, rX5_init_49, rX5_init_52, rX5_init_53, rX5_init_56, rX5_init_59, rX5_init_60, rX5_init_63, rX5_init_66, hN_wI, hN_wJ, hN_wR, hS_wI, hS_wJ, hS_wR, hK_wI, hK_wJ, hK_wR, hI_wI, hI_wJ, hI_wR, hJ_wI, hJ_wJ, hJ_wR, hR_wI, hR_wJ, hR_wR, hN_nw, hS_nw, hK_nw, hI_nw, hJ_nw, hR_nw, psh_some, psh_none, Int.toNat_natCast, Int.natCast_nonneg, true_and, and_true, and_self, if_true, if_false, or_true, true_or, or_false, false_or, ne_eq, not_true_eq_false, not_false_eq_true, Nat.reduceLeDiff, Nat.reduceEqDiff, Nat.reduceLT, Nat.reduceAdd, Nat.reduceMul, Nat.reduceSub, Int.reduceLT, Int.reduceLE, Int.reduceEq, Int.reduceToNat, Int.reduceAdd, Int.reduceSub, Int.reduceMul, Int.reduceNeg, Int.cast_ofNat_Int, false_and, and_false, hM, Nat.add_assoc, nwj, nw0, nw0', ge2, ge2']
  have w0 : ∀ {h1 : Hp} (_ : Fa (fun a => 200 + hN h ≤ a) h h1) (k v : Nat), Fa (fun a => 200 + hN h ≤ a) h (wR h1 (200 + M) k v) := fun f k v => f.wR (by rw [hM]; omega) k v
  have wi : ∀ {h1 : Hp} (_ : Fa (fun a => 200 + hN h ≤ a) h h1) (k : Nat) (v : Int), Fa (fun a => 200 + hN h ≤ a) h (wI h1 (200 + M) k v) := fun f k v => f.wI (by rw [hM]; omega) k v
  have w : ∀ {h1 : Hp} (_ : Fa (fun a => 200 + hN h ≤ a) h h1) (i k v : Nat), Fa (fun a => 200 + hN h ≤ a) h (wR h1 (200 + (M + i)) k v) := fun f i k v => f.wR (by rw [hM]; omega) k v
  have nn : ∀ {h1 : Hp} (_ : Fa (fun a => 200 + hN h ≤ a) h h1) (c l q : Nat), Fa (fun a => 200 + hN h ≤ a) h (nw h1 c l q) := fun f c l q => f.nw c l q
  refine k _ (Fa.new ?_) ?_ ?_ ?_
  · refine wi (w0 ?_ _ _) _ _
    refine w (w (w (nn (w (nn (w (nn (w (nn (w (nn (w (nn (nn ?_ _ _ _) _ _ _) _ _ _) _ _ _) _ _ _) _ _ _) _ _ _) _ _ _) _ _ _) _ _ _) _ _ _) _ _ _) _ _ _) _ _ _) _ _ _
    exact w0 (nn (w0 (nn (nn (Fa.refl _ h) _ _ _) _ _ _) _ _) _ _ _) _ _
  · simp only [hN_wI, hN_wJ, hN_wR, hS_wI, hS_wJ, hS_wR, hK_wI, hK_wJ, hK_wR, hI_wI, hI_wJ, hI_wR, hJ_wI, hJ_wJ, hJ_wR, hR_wI, hR_wJ, hR_wR, hN_nw, hS_nw, hK_nw, hI_nw, hJ_nw, hR_nw, psh_some, psh_none, hM, Nat.add_assoc, Nat.reduceAdd]
  · simp only [hN_wI, hN_wJ, hN_wR, hS_wI, hS_wJ, hS_wR, hK_wI, hK_wJ, hK_wR, hI_wI, hI_wJ, hI_wR, hJ_wI, hJ_wJ, hJ_wR, hR_wI, hR_wJ, hR_wR, hN_nw, hS_nw, hK_nw, hI_nw, hJ_nw, hR_nw, psh_some, psh_none, Int.toNat_natCast, Int.natCast_nonneg, true_and, and_true, and_self, if_true, if_false, or_true, true_or, or_false, false_or, ne_eq, not_true_eq_false, not_false_eq_true, Nat.reduceLeDiff, Nat.reduceEqDiff, Nat.reduceLT, Nat.reduceAdd, Nat.reduceMul, Nat.reduceSub, Int.reduceLT, Int.reduceLE, Int.reduceEq, Int.reduceToNat, Int.reduceAdd, Int.reduceSub, Int.reduceMul, Int.reduceNeg, Int.cast_ofNat_Int, false_and, and_false, Nat.add_assoc]; omega
  · unfold Rd0
    simp only [hN_wI, hN_wJ, hN_wR, hS_wI, hS_wJ, hS_wR, hK_wI, hK_wJ, hK_wR, hI_wI, hI_wJ, hI_wR, hJ_wI, hJ_wJ, hJ_wR, hR_wI, hR_wJ, hR_wR, hN_nw, hS_nw, hK_nw, hI_nw, hJ_nw, hR_nw, psh_some, psh_none, Int.toNat_natCast, Int.natCast_nonneg, true_and, and_true, and_self, if_true, if_false, or_true, true_or, or_false, false_or, ne_eq, not_true_eq_false, not_false_eq_true, Nat.reduceLeDiff, Nat.reduceEqDiff, Nat.reduceLT, Nat.reduceAdd, Nat.reduceMul, Nat.reduceSub, Int.reduceLT, Int.reduceLE, Int.reduceEq, Int.reduceToNat, Int.reduceAdd, Int.reduceSub, Int.reduceMul, Int.reduceNeg, Int.cast_ofNat_Int, false_and, and_false, hM, Nat.add_assoc, nwj, nw0, nw0', implies_true]
theorem St0.fa {S : Nat → Prop} {h h' : Hp} {a : Nat} (x : St0 h a) (f : Fa S h h') (hn : a + 2 < 200 + hN h) (h0 : ¬ S a) (h1 : ¬ S (a + 1)) (h2 : ¬ S (a + 2)) : St0 h' a := by
  have n0 : a < 200 + hN h := by omega
  have n1 : a + 1 < 200 + hN h := by omega
  obtain ⟨x0, x1, x2, x3, x4, x5⟩ := x
  refine ⟨(f.K n0 h0).trans x0, (f.R n0 h0 _).trans x1, (f.R n0 h0 _).trans x2, (f.K n1 h1).trans x3, (f.K hn h2).trans x4, fun k => ⟨(f.I n0 h0 k).trans (x5 k).1, (f.I n1 h1 k).trans (x5 k).2.1, (f.I hn h2 k).trans (x5 k).2.2⟩⟩
/-- the ring is laid as far as i -/
def Pa0 (h : Hp) (i : Nat) : Prop := hN h = 22 + 3 * i ∧ hK h 220 = (4, 0) ∧ hR h 220 0 = 221 ∧ hK h 221 = (25, 11) ∧ hI h 220 1 = 0 ∧ hI h 220 2 = 0 ∧ ∀ j, j < i → hR h 221 j = 222 + 3 * j ∧ St0 h (222 + 3 * j)
theorem pa_w {i : Nat} (h : i < 11) : w32 ((i : Int) + 1) = ((i + 1 : Nat) : Int) := by rw [w32_i (by omega) (by omega)]; omega
theorem pa_l {i : Nat} (h : i < 11) : (((i : Nat) : Int) < 11) = True := eq_true (by omega)
theorem pa_a (i : Nat) : 200 + (22 + 3 * i) = 222 + 3 * i := by omega
theorem ge_2 (i : Nat) : (200 ≤ 222 + 3 * i) = True := eq_true (by omega)
theorem pa_s {h h1 : Hp} {i : Nat} (x : Pa0 h i) (f : Fa (fun _ => False) h h1) (n : hN h1 = 22 + 3 * i + 3) (s : St0 h1 (222 + 3 * i)) : Pa0 (wR h1 221 i (222 + 3 * i)) (i + 1) := by
  obtain ⟨x0, x1, x2, x3, x4, x5, x6⟩ := x
  have b0 : 220 < 200 + hN h := by omega
  have b1 : 221 < 200 + hN h := by omega
  have fw : Fa (fun a => a = 221) h1 (wR h1 221 i (222 + 3 * i)) := (Fa.refl (fun a => a = 221) h1).wR rfl i (222 + 3 * i)
  refine ⟨?_, ?_, ?_, ?_, ?_, ?_, fun j hj => ?_⟩
  · rw [hN_wR, n]; omega
  · rw [hK_wR, f.K b0 id, x1]
  · rw [fw.R (by omega) (by omega), f.R b0 id, x2]
  · rw [hK_wR, f.K b1 id, x3]
  · rw [hI_wR, f.I b0 id, x4]
  · rw [hI_wR, f.I b0 id, x5]
  · by_cases e : j = i
    · subst e
      refine ⟨?_, s.fa fw (by omega) (by omega) (by omega) (by omega)⟩
      rw [hR_wR]; simp
    · have y := x6 j (by omega)
      refine ⟨?_, (y.2.fa f (by omega) id id id).fa fw (by omega) (by omega) (by omega) (by omega)⟩
      rw [hR_wR, f.R b1 id, y.1]; simp [e]
theorem I_ring {d : Nat} {Q : Option PV → Hp → Prop} : ∀ (n i : Nat) (h : Hp), i + n = 11 → Pa0 h i → (∀ h', Fa (fun a => a = 221) h h' → hS h' = hS h + 16 * n → Pa0 h' 11 → Q none h') → WP (d + 1) mX4_init 15 [some (.inr (.inr 220)), some (.inl (i : Int))] [] h Q := by
  intro n
  induction n with
  | zero =>
    intro i h hi x k
    have e : i = 11 := by omega
    subst e
    simp only [rX4_init_15, rX4_init_16, rX4_init_18, rX4_init_21, rX4_init_22, rX4_init_25, rX4_init_26, rX4_init_29, rX4_init_30, rX4_init_33, rX4_init_34, rX4_init_37, rX4_init_40, Int.toNat_natCast, Int.natCast_nonneg, true_and, and_true, and_self, if_true, if_false, or_true, true_or, or_false, false_or, ne_eq, not_true_eq_false, not_false_eq_true, Nat.reduceLeDiff, Nat.reduceEqDiff, Nat.reduceLT, Nat.reduceAdd, Nat.reduceMul, Nat.reduceSub, Int.reduceLT, Int.reduceLE, Int.reduceEq, Int.reduceToNat, Int.reduceAdd, Int.reduceSub, Int.reduceMul, Int.reduceNeg, Int.cast_ofNat_Int, false_and, and_false]
    exact k h (Fa.refl _ h) rfl x
  | succ n ih =>
    intro i h hi x k
    have x' := x
    obtain ⟨x0, x1, x2, x3, x4, x5, x6⟩ := x'
    have i11 : i < 11 := by omega
    simp only [rX4_init_15, rX4_init_16, rX4_init_18, rX4_init_21, rX4_init_22, rX4_init_25, rX4_init_26, rX4_init_29, rX4_init_30, pa_l i11, x0, x1, x2, x3, ge2', Int.toNat_natCast, Int.natCast_nonneg, true_and, and_true, and_self, if_true, if_false, or_true, true_or, or_false, false_or, ne_eq, not_true_eq_false, not_false_eq_true, Nat.reduceLeDiff, Nat.reduceEqDiff, Nat.reduceLT, Nat.reduceAdd, Nat.reduceMul, Nat.reduceSub, Int.reduceLT, Int.reduceLE, Int.reduceEq, Int.reduceToNat, Int.reduceAdd, Int.reduceSub, Int.reduceMul, Int.reduceNeg, Int.cast_ofNat_Int, false_and, and_false]
    refine I_stand x0 ?_
    intro h1 f1 n1 s1 st1
    rw [pa_a] at st1
    have y := pa_s x f1 n1 st1
    have K221 : hK h1 221 = (25, 11) := by rw [f1.K (by omega) id, x3]
    simp only [psh_none, rX4_init_33, rX4_init_34, rX4_init_37, K221, st1.1, pa_l i11, pa_w i11, elC, ge2', pa_a, ge_2 i, Int.toNat_natCast, Int.natCast_nonneg, true_and, and_true, and_self, if_true, if_false, or_true, true_or, or_false, false_or, ne_eq, not_true_eq_false, not_false_eq_true, Nat.reduceLeDiff, Nat.reduceEqDiff, Nat.reduceLT, Nat.reduceAdd, Nat.reduceMul, Nat.reduceSub, Int.reduceLT, Int.reduceLE, Int.reduceEq, Int.reduceToNat, Int.reduceAdd, Int.reduceSub, Int.reduceMul, Int.reduceNeg, Int.cast_ofNat_Int, false_and, and_false]
    refine ih (i + 1) _ (by omega) y (fun h' f' s' y' => k h' ?_ ?_ y')
    · exact Fa.trans (Fa.trans (f1.mono (fun _ q => q.elim)) ((Fa.refl (fun a => a = 221) h1).wR rfl i (222 + 3 * i))) f'
    · rw [s', hS_wR, s1]; omega
