/-! the class's search: all that can be -/
def fiP (se n x a k : Nat) : Prop := (a = se + 6 ∧ k = n) ∨ (a = se + 7 ∧ k = x) ∨ (a = se + 8 ∧ k = n) ∨ (a = se + 9 ∧ k = n) ∨ (a = se + 10 ∧ k = n) ∨ (a = se ∧ k = 12)
theorem S_findOld {d : Nat} {Q : Option PV → Hp → Prop} {h : Hp} {se n x p : Nat} {kk g : Int} (sh : Shp h se) (hn : hI h se 12 = (n : Int)) (hx : x < 6400) (h7 : hI h (se + 7) x = (p : Int)) (hp : p < n) (hn6 : n ≤ 1600) (h6 : hI h (se + 6) p = (x : Int)) (k : Q none h) :
    WP d mX7_find 0 [some (.inr (.inr se)), some (.inl (x : Int)), some (.inl kk), some (.inl g), none] [] h Q := by
  have x6 : (x : Int) < 6400 := by omega
  have p6 : (p : Int) < 1600 := by omega
  have pn : (p : Int) < (n : Int) := by omega
  obtain ⟨K0, R0, R1, R2, R3, R4, R5, R6, R7, R8, R9, K1, r0, r1, K2, K3, K4, K5, K6, K7, K8, K9, K10, K11⟩ := id sh
  simp only [rX7_find_0, rX7_find_1, rX7_find_4, rX7_find_5, rX7_find_6, rX7_find_8, rX7_find_10, rX7_find_11, rX7_find_14, rX7_find_17, rX7_find_18, rX7_find_21, rX7_find_23, rX7_find_24, rX7_find_25, rX7_find_38, K0, R4, R5, K6, K7, hn, h7, h6, x6, p6, pn, Int.toNat_natCast, Int.natCast_nonneg, true_and, and_true, and_self, if_true, if_false, or_true, true_or, or_false, false_or, ne_eq, not_true_eq_false, not_false_eq_true, Nat.reduceLeDiff, Nat.reduceEqDiff, Nat.reduceLT, Nat.reduceAdd, Nat.reduceMul, Nat.reduceSub, Int.reduceLT, Int.reduceLE, Int.reduceEq, Int.reduceToNat, Int.reduceAdd, Int.reduceSub, Int.reduceMul, Int.reduceNeg, Int.cast_ofNat_Int, false_and, and_false]
  exact k
theorem find_heap (h : Hp) (se n x kk : Nat) (g v : Int) : ∃ h', h' = wI (wI (wI (wI (wI (wI h (se + 6) n (x : Int)) (se + 7) x (n : Int)) (se + 8) n (kk : Int)) (se + 9) n g) (se + 10) n v) se 12 ((n + 1 : Nat) : Int) ∧ Fp (fiP se n x) h h' ∧ hI h' (se + 6) n = (x : Int) ∧ hI h' (se + 7) x = (n : Int) ∧ hI h' (se + 8) n = (kk : Int) ∧ hI h' (se + 9) n = g ∧ hI h' (se + 10) n = v ∧ hI h' se 12 = ((n + 1 : Nat) : Int) := by
  refine ⟨_, rfl, ?_, ?_, ?_, ?_, ?_, ?_, ?_⟩
  · exact ((((((Fp.refl (fiP se n x) h).wI (by unfold fiP; simp) _).wI (by unfold fiP; simp) _).wI (by unfold fiP; simp) _).wI (by unfold fiP; simp) _).wI (by unfold fiP; simp) _).wI (by unfold fiP; simp) _
  · rw [hI_wI, if_neg (by omega), hI_wI, if_neg (by omega), hI_wI, if_neg (by omega), hI_wI, if_neg (by omega), hI_wI, if_neg (by omega), hI_wI, if_pos ⟨rfl, rfl⟩]
  · rw [hI_wI, if_neg (by omega), hI_wI, if_neg (by omega), hI_wI, if_neg (by omega), hI_wI, if_neg (by omega), hI_wI, if_pos ⟨rfl, rfl⟩]
  · rw [hI_wI, if_neg (by omega), hI_wI, if_neg (by omega), hI_wI, if_neg (by omega), hI_wI, if_pos ⟨rfl, rfl⟩]
  · rw [hI_wI, if_neg (by omega), hI_wI, if_neg (by omega), hI_wI, if_pos ⟨rfl, rfl⟩]
  · rw [hI_wI, if_neg (by omega), hI_wI, if_pos ⟨rfl, rfl⟩]
  · rw [hI_wI, if_pos ⟨rfl, rfl⟩]
set_option maxHeartbeats 1000000 in
theorem S_findNew {d : Nat} {Q : Option PV → Hp → Prop} {h : Hp} {se n x kk : Nat} {g : Int} (sh : Shp h se) (se3 : 314 ≤ se) (hn : hI h se 12 = (n : Int)) (hx : x < 6400) (h7 : 0 ≤ hI h (se + 7) x) (hn6 : n < 1600) (hk : kk < 1600) (no : hI h (se + 7) x < (n : Int) → hI h (se + 6) (hI h (se + 7) x).toNat ≠ (x : Int)) (dv : Nat) (hd : n ≠ 0 → hI h (se + 10) kk = (dv : Int)) (dv6 : dv ≤ 6400)
    (k : ∀ h', Fp (fiP se n x) h h' → hI h' (se + 6) n = (x : Int) → hI h' (se + 7) x = (n : Int) → hI h' (se + 8) n = (kk : Int) → hI h' (se + 9) n = g → hI h' (se + 10) n = (if n = 0 then 0 else ((dv + 1 : Nat) : Int)) → hI h' se 12 = ((n + 1 : Nat) : Int) → Q none h') :
    WP d mX7_find 0 [some (.inr (.inr se)), some (.inl (x : Int)), some (.inl (kk : Int)), some (.inl g), none] [] h Q := by
  have x6 : (x : Int) < 6400 := by omega
  have n6 : (n : Int) < 1600 := by omega
  have k6 : (kk : Int) < 1600 := by omega
  have l1 : w32 ((n : Int) + 1) = ((n + 1 : Nat) : Int) := w32_s (by omega)
  have l2 : w32 ((dv : Int) + 1) = ((dv + 1 : Nat) : Int) := w32_s (by omega)
  have g0 : 200 ≤ se := by omega
  have g6 : 200 ≤ se + 6 := by omega
  have g7 : 200 ≤ se + 7 := by omega
  have g8 : 200 ≤ se + 8 := by omega
  have g9 : 200 ≤ se + 9 := by omega
  have g10 : 200 ≤ se + 10 := by omega
  have q1 : ∀ j, 0 < j → ¬ (se = se + j) := fun j h => by omega
  have d9 : ¬ (se + 10 = se + 9) := by omega
  have d8 : ¬ (se + 10 = se + 8) := by omega
  have d7 : ¬ (se + 10 = se + 7) := by omega
  have d6 : ¬ (se + 10 = se + 6) := by omega
  obtain ⟨K0, R0, R1, R2, R3, R4, R5, R6, R7, R8, R9, K1, r0, r1, K2, K3, K4, K5, K6, K7, K8, K9, K10, K11⟩ := id sh
  have n0 : ((n : Int) = 0) = (n = 0) := propext ⟨fun h => by omega, fun h => by omega⟩
  have tail0 : WP d mX7_find 39 [some (.inr (.inr se)), some (.inl (x : Int)), some (.inl (kk : Int)), some (.inl g), some (.inl (hI h (se + 7) x))] [] h Q := by
    have dd : ¬ (n = 0) → ∀ v w u : Int, hI (wI (wI (wI (wI h (se + 6) n v) (se + 7) x w) (se + 8) n u) (se + 9) n g) (se + 10) kk = (dv : Int) := fun hz v w u => by
      rw [hI_wI, if_neg (fun q => d9 q.1), hI_wI, if_neg (fun q => d8 q.1), hI_wI, if_neg (fun q => d7 q.1), hI_wI, if_neg (fun q => d6 q.1)]; exact hd hz
    by_cases hn0 : n = 0
    · obtain ⟨h', e, f1, f2, f3, f4, f5, f6, f7⟩ := find_heap h se n x kk g 0
      have k0 := k h' f1 f2 f3 f4 f5 (by rw [if_pos hn0]; exact f6) f7
      rw [e] at k0
      simp only [rX7_find_39, rX7_find_40, rX7_find_43, rX7_find_44, rX7_find_47, rX7_find_48, rX7_find_49, rX7_find_50, rX7_find_53, rX7_find_54, rX7_find_55, rX7_find_58, rX7_find_59, rX7_find_60, rX7_find_63, rX7_find_64, rX7_find_67, rX7_find_68, rX7_find_69, rX7_find_70, rX7_find_73, rX7_find_74, rX7_find_77, rX7_find_78, rX7_find_79, rX7_find_80, rX7_find_83, rX7_find_84, rX7_find_87, rX7_find_88, rX7_find_91, rX7_find_94, rX7_find_95, rX7_find_98, rX7_find_99, rX7_find_102, rX7_find_103, rX7_find_104, rX7_find_105, rX7_find_106, rX7_find_107, rX7_find_108, rX7_find_109, rX7_find_112, rX7_find_113, rX7_find_114, rX7_find_117, hN_wI, hN_wJ, hN_wR, hS_wI, hS_wJ, hS_wR, hK_wI, hK_wJ, hK_wR, hI_wI, hI_wJ, hI_wR, hJ_wI, hJ_wJ, hJ_wR, hR_wI, hR_wJ, hR_wR, hN_nw, hS_nw, hK_nw, hI_nw, hJ_nw, hR_nw, psh_some, psh_none, K0, R4, R5, R6, R7, R8, K6, K7, K8, K9, K10, hn, x6, n6, k6, l1, g0, g6, g7, g8, g9, g10, q1 6 (by decide), q1 7 (by decide), q1 8 (by decide), q1 9 (by decide), q1 10 (by decide), n0, Int.toNat_natCast, Int.natCast_nonneg, true_and, and_true, and_self, if_true, if_false, or_true, true_or, or_false, false_or, ne_eq, not_true_eq_false, not_false_eq_true, Nat.reduceLeDiff, Nat.reduceEqDiff, Nat.reduceLT, Nat.reduceAdd, Nat.reduceMul, Nat.reduceSub, Int.reduceLT, Int.reduceLE, Int.reduceEq, Int.reduceToNat, Int.reduceAdd, Int.reduceSub, Int.reduceMul, Int.reduceNeg, Int.cast_ofNat_Int, false_and, and_false]
      rw [if_pos hn0]
      exact k0
    · obtain ⟨h', e, f1, f2, f3, f4, f5, f6, f7⟩ := find_heap h se n x kk g ((dv + 1 : Nat) : Int)
      have k0 := k h' f1 f2 f3 f4 f5 (by rw [if_neg hn0]; exact f6) f7
      rw [e] at k0
      simp only [rX7_find_39, rX7_find_40, rX7_find_43, rX7_find_44, rX7_find_47, rX7_find_48, rX7_find_49, rX7_find_50, rX7_find_53, rX7_find_54, rX7_find_55, rX7_find_58, rX7_find_59, rX7_find_60, rX7_find_63, rX7_find_64, rX7_find_67, rX7_find_68, rX7_find_69, rX7_find_70, rX7_find_73, rX7_find_74, rX7_find_77, rX7_find_78, rX7_find_79, rX7_find_80, rX7_find_83, rX7_find_84, rX7_find_87, rX7_find_88, rX7_find_91, hN_wI, hK_wI, hI_wI, hR_wI, K0, R4, R5, R6, R7, R8, K6, K7, K8, K9, K10, hn, x6, n6, k6, l1, g0, g6, g7, g8, g9, g10, q1 6 (by decide), q1 7 (by decide), q1 8 (by decide), q1 9 (by decide), q1 10 (by decide), n0, Int.toNat_natCast, Int.natCast_nonneg, true_and, and_true, and_self, if_true, if_false, or_true, true_or, or_false, false_or, ne_eq, not_true_eq_false, not_false_eq_true, Nat.reduceLeDiff, Nat.reduceEqDiff, Nat.reduceLT, Nat.reduceAdd, Nat.reduceMul, Nat.reduceSub, Int.reduceLT, Int.reduceLE, Int.reduceEq, Int.reduceToNat, Int.reduceAdd, Int.reduceSub, Int.reduceMul, Int.reduceNeg, Int.cast_ofNat_Int, false_and, and_false]
      rw [if_neg hn0]
      simp only [rX7_find_98, rX7_find_99, rX7_find_102, rX7_find_103, rX7_find_104, rX7_find_105, rX7_find_106, rX7_find_107, rX7_find_108, rX7_find_109, rX7_find_112, rX7_find_113, rX7_find_114, rX7_find_117, hK_wI, hR_wI, K0, R8, K10, k6, dd hn0, l2, g10, n6, Int.toNat_natCast, Int.natCast_nonneg, true_and, and_true, and_self, if_true, if_false, or_true, true_or, or_false, false_or, ne_eq, not_true_eq_false, not_false_eq_true, Nat.reduceLeDiff, Nat.reduceEqDiff, Nat.reduceLT, Nat.reduceAdd, Nat.reduceMul, Nat.reduceSub, Int.reduceLT, Int.reduceLE, Int.reduceEq, Int.reduceToNat, Int.reduceAdd, Int.reduceSub, Int.reduceMul, Int.reduceNeg, Int.cast_ofNat_Int, false_and, and_false]
      simp only [hN_wI, hN_wJ, hN_wR, hS_wI, hS_wJ, hS_wR, hK_wI, hK_wJ, hK_wR, hI_wI, hI_wJ, hI_wR, hJ_wI, hJ_wJ, hJ_wR, hR_wI, hR_wJ, hR_wR, hN_nw, hS_nw, hK_nw, hI_nw, hJ_nw, hR_nw, psh_some, psh_none, K0, hn, l1, g0, q1 6 (by decide), q1 7 (by decide), q1 8 (by decide), q1 9 (by decide), q1 10 (by decide), Int.toNat_natCast, Int.natCast_nonneg, true_and, and_true, and_self, if_true, if_false, or_true, true_or, or_false, false_or, ne_eq, not_true_eq_false, not_false_eq_true, Nat.reduceLeDiff, Nat.reduceEqDiff, Nat.reduceLT, Nat.reduceAdd, Nat.reduceMul, Nat.reduceSub, Int.reduceLT, Int.reduceLE, Int.reduceEq, Int.reduceToNat, Int.reduceAdd, Int.reduceSub, Int.reduceMul, Int.reduceNeg, Int.cast_ofNat_Int, false_and, and_false]
      exact k0
  have tail : WP d mX7_find 28 [some (.inr (.inr se)), some (.inl (x : Int)), some (.inl (kk : Int)), some (.inl g), some (.inl (hI h (se + 7) x))] [] h Q := by
    simp only [rX7_find_28, rX7_find_29, rX7_find_32, rX7_find_35, K0, hn, n6, Int.toNat_natCast, Int.natCast_nonneg, true_and, and_true, and_self, if_true, if_false, or_true, true_or, or_false, false_or, ne_eq, not_true_eq_false, not_false_eq_true, Nat.reduceLeDiff, Nat.reduceEqDiff, Nat.reduceLT, Nat.reduceAdd, Nat.reduceMul, Nat.reduceSub, Int.reduceLT, Int.reduceLE, Int.reduceEq, Int.reduceToNat, Int.reduceAdd, Int.reduceSub, Int.reduceMul, Int.reduceNeg, Int.cast_ofNat_Int, false_and, and_false]
    exact tail0
  simp only [rX7_find_0, rX7_find_1, rX7_find_4, rX7_find_5, rX7_find_6, rX7_find_8, rX7_find_10, rX7_find_11, rX7_find_14, rX7_find_17, rX7_find_18, rX7_find_21, rX7_find_23, rX7_find_24, rX7_find_25, K0, R4, R5, K6, K7, hn, x6, h7, Int.toNat_natCast, Int.natCast_nonneg, true_and, and_true, and_self, if_true, if_false, or_true, true_or, or_false, false_or, ne_eq, not_true_eq_false, not_false_eq_true, Nat.reduceLeDiff, Nat.reduceEqDiff, Nat.reduceLT, Nat.reduceAdd, Nat.reduceMul, Nat.reduceSub, Int.reduceLT, Int.reduceLE, Int.reduceEq, Int.reduceToNat, Int.reduceAdd, Int.reduceSub, Int.reduceMul, Int.reduceNeg, Int.cast_ofNat_Int, false_and, and_false]
  by_cases c1 : hI h (se + 7) x < (n : Int)
  · rw [if_pos c1]
    have c2 : hI h (se + 7) x < 1600 := by omega
    refine ⟨c2, ?_⟩
    rw [if_neg (no c1)]
    exact tail
  · rw [if_neg c1]
    exact tail
