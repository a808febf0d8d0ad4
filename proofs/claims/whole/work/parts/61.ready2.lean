/-! the class's search is ready -/
theorem Sx.ok {h : Hp} {se : Nat} {A F : Nat → Int} (x : Sx h se A F) : SrOk h se := by
  obtain ⟨x1, x2, x3, x4, x5, x6, x7⟩ := x
  refine ⟨x3, A, F, SrC_iff.2 ⟨x4, x5⟩, ?_⟩
  rcases x7 with q | q
  · exact Or.inl q
  · exact Or.inr ⟨q, x6⟩
/-- a call that wrote to the search and the diver alone -/
theorem CRep.sr {S : Nat → Prop} {h h' : Hp} {σ : AS} (f : Fa S h h') (x : CRep h σ) (h8 : hR h 200 8 ≠ 0) (hs : ∀ a, S a → (211 ≤ a ∧ a ≤ 213) ∨ seS (hR h 200 8) a) (m' : CsOk h') (so : SrOk h' (hR h 200 8)) : CRep h' σ := by
  have b := x.2.1
  have n := x.1.2.1
  have b1 : 314 ≤ hR h 200 8 ∧ hR h 200 8 + 11 < 200 + hN h := by have := b.1; omega
  have nS : ∀ a, a < 314 → ¬ (211 ≤ a ∧ a ≤ 213) → ¬ S a := fun a h1 h2 q => by
    rcases hs a q with q | q
    · exact h2 q
    · unfold seS at q; omega
  have r := f.R (a := 200) (by omega) (nS _ (by omega) (by omega))
  refine ⟨x.1.fa f b (fun a q => ?_) m', ?_, ?_, ?_, ?_⟩
  · rcases hs a q with q | q
    · exact Or.inl (by unfold scr; omega)
    · exact Or.inr (Or.inl ⟨h8, q.1, q.2⟩)
  · have := f.1
    unfold Blk at b ⊢
    simp only [r]
    omega
  · rw [r]; intro _; exact so
  · simp only [r]
    intro h9
    have := x.2.2.2.1 h9
    have b2 := b.2.1.resolve_left h9
    have n9 : ∀ a, hR h 200 9 ≤ a → a ≤ hR h 200 9 + 6 → ¬ S a := fun a h1 h2 q => by
      rcases hs a q with q | q
      · omega
      · unfold seS at q; omega
    unfold TlOk at this ⊢
    rw [f.K (by omega) (n9 _ (by omega) (by omega)), f.K (by omega) (n9 (hR h 200 9 + 1) (by omega) (by omega)), f.K (by omega) (n9 (hR h 200 9 + 2) (by omega) (by omega)), f.K (by omega) (n9 (hR h 200 9 + 3) (by omega) (by omega)), f.K (by omega) (n9 (hR h 200 9 + 4) (by omega) (by omega)), f.K (by omega) (n9 (hR h 200 9 + 5) (by omega) (by omega)), f.K (by omega) (n9 (hR h 200 9 + 6) (by omega) (by omega))]
    simp only [f.R (a := hR h 200 9) (by omega) (n9 _ (by omega) (by omega))]
    exact this
  · simp only [r]
    intro h10
    have := x.2.2.2.2 h10
    have b2 := b.2.2.resolve_left h10
    have n10 : ∀ a, hR h 200 10 ≤ a → a ≤ hR h 200 10 + 5 → ¬ S a := fun a h1 h2 q => by
      rcases hs a q with q | q
      · omega
      · unfold seS at q; omega
    unfold GmOk at this ⊢
    rw [f.K (by omega) (n10 _ (by omega) (by omega)), f.K (by omega) (n10 (hR h 200 10 + 1) (by omega) (by omega)), f.K (by omega) (n10 (hR h 200 10 + 2) (by omega) (by omega)), f.K (by omega) (n10 (hR h 200 10 + 3) (by omega) (by omega)), f.K (by omega) (n10 (hR h 200 10 + 4) (by omega) (by omega)), f.K (by omega) (n10 (hR h 200 10 + 5) (by omega) (by omega))]
    simp only [f.R (a := hR h 200 10) (by omega) (n10 _ (by omega) (by omega))]
    exact this
theorem Cfr.sr {S : Nat → Prop} {h h' : Hp} (f : Fa S h h') (n : 114 ≤ hN h) (hs : ∀ a, S a → (201 ≤ a ∧ a < 294) ∨ 314 ≤ a) (eN : hN h' = hN h) (eS : hS h' = hS h) : Cfr h h' := by
  have r := f.R (a := 200) (by omega) (fun q => by have := hs _ q; omega)
  refine ⟨fun a ha => f.2 a (by omega) (fun q => by have := hs _ q; omega), f.1, ?_, ?_⟩
  · unfold Phn; rw [r, r, r, eN]; omega
  · unfold Phs; rw [r, r, r, eS]; omega
theorem Cfr.trans0 {h h1 h2 : Hp} (a : Cfr h h1) (b : Cfr h1 h2) (e1 : Phn h1 ≤ Phn h) (e2 : Phs h1 ≤ Phs h) : Cfr h h2 := by
  refine ⟨fun q hq => ?_, Nat.le_trans a.2.1 b.2.1, by have := b.2.2.1; omega, by have := b.2.2.2; omega⟩
  have x := a.1 q hq
  have y := b.1 q hq
  exact ⟨y.1.trans x.1, fun k => ⟨(y.2 k).1.trans (x.2 k).1, (y.2 k).2.1.trans (x.2 k).2.1, (y.2 k).2.2.trans (x.2 k).2.2⟩⟩
theorem nwj (M i j : Nat) : (200 + (M + j) = 200 + (M + i)) = (j = i) := propext ⟨fun h => by omega, fun h => by rw [h]⟩
theorem nw0 (M i : Nat) : (200 + M = 200 + (M + i)) = (0 = i) := propext ⟨fun h => by omega, fun h => by rw [← h, Nat.add_zero]⟩
theorem nw0' (M i : Nat) : (200 + (M + i) = 200 + M) = (i = 0) := propext ⟨fun h => by omega, fun h => by rw [h, Nat.add_zero]⟩
theorem ge2 (M i : Nat) : (200 ≤ 200 + (M + i)) = True := by simp
theorem ge2' (M : Nat) : (200 ≤ 200 + M) = True := by simp
set_option maxRecDepth 20000 in
set_option maxHeartbeats 4000000 in
theorem S_newSearch {d : Nat} {Q : Option PV → Hp → Prop} {h : Hp} {p M : Nat} (hM : hN h = M)
    (k : ∀ h', Fa (fun _ => False) h h' → hN h' = M + 12 → hS h' ≤ hS h + 80000 → Shp h' (200 + M) → hR h' (200 + M) 10 = p → hI h' (200 + M) 11 = -1 → (∀ g, g < 6 → hI h' (200 + M + 5) g = 1) → (∀ j, hI h' (200 + M + 4) j = 0) → (∀ j, hI h' (200 + M + 7) j = 0) → (∀ i j, 1 ≤ i → i ≤ 3 → hI h' (200 + M + i) j = 0) → Q none h') :
    WP (d + 2) mX7_init 0 [some (.inr (.inr (200 + M))), some (.inr (.inr 211)), some (.inr (.inr p))] [] (nw h 7 0 13) Q := by
  have f0 : Fa (fun _ => False) h (nw h 7 0 13) := (Fa.refl _ h).nw _ _ _
  simp only [rX7_init_0, rX7_init_1, rX7_init_4, rX7_init_5, rX7_init_8, rX7_init_9, rX7_init_12, rX7_init_15, rX7_init_16, rX7_init_18, rX7_init_20, rX7_init_23, rX7_init_24, rX7_init_26, rX7_init_28, rX7_init_31, rX7_init_32, rX7_init_35, rX7_init_37, rX7_init_40, rX7_init_41, rX7_init_44, rX7_init_46, rX7_init_49, rX7_init_50, rX7_init_53, rX7_init_55, rX7_init_58, rX7_init_59, rX7_init_62, rX7_init_64, rX7_init_67, rX7_init_68, rX7_init_71, rX7_init_73, rX7_init_76, rX7_init_77, rX7_init_79, rX7_init_81, rX7_init_84, rX7_init_85, rX7_init_86, rX7_init_89, rX7_init_90, rX7_init_91, rX7_init_94, rX7_init_95, rX7_init_96, rX7_init_99, rX7_init_100, rX7_init_103, rX7_init_104, rX8_init_0, rX8_init_1, rX8_init_4, rX8_init_5, rX8_init_7, rX8_init_9, rX8_init_12, rX8_init_13, rX8_init_15, rX8_init_17, rX8_init_20, hN_wI, hN_wJ, hN_wR, hS_wI, hS_wJ, hS_wR, hK_wI, hK_wJ, hK_wR, hI_wI, hI_wJ, hI_wR, hJ_wI, hJ_wJ, hJ_wR, hR_wI, hR_wJ, hR_wR, hN_nw, hS_nw, hK_nw, hI_nw, hJ_nw, hR_nw, psh_some, psh_none, Int.toNat_natCast, Int.natCast_nonneg, true_and, and_true, and_self, if_true, if_false, or_true, true_or, or_false, false_or, ne_eq, not_true_eq_false, not_false_eq_true, Nat.reduceLeDiff, Nat.reduceEqDiff, Nat.reduceLT, Nat.reduceAdd, Nat.reduceMul, Nat.reduceSub, Int.reduceLT, Int.reduceLE, Int.reduceEq, Int.reduceToNat, Int.reduceAdd, Int.reduceSub, Int.reduceMul, Int.reduceNeg, Int.cast_ofNat_Int, false_and, and_false, hM, Nat.add_assoc, nwj, nw0, nw0', ge2, ge2']
  refine S_fillI (n := 6) (by simp) (by simp only [hN_wI, hN_wJ, hN_wR, hS_wI, hS_wJ, hS_wR, hK_wI, hK_wJ, hK_wR, hI_wI, hI_wJ, hI_wR, hJ_wI, hJ_wJ, hJ_wR, hR_wI, hR_wJ, hR_wR, hN_nw, hS_nw, hK_nw, hI_nw, hJ_nw, hR_nw, psh_some, psh_none, Int.toNat_natCast, Int.natCast_nonneg, true_and, and_true, and_self, if_true, if_false, or_true, true_or, or_false, false_or, ne_eq, not_true_eq_false, not_false_eq_true, Nat.reduceLeDiff, Nat.reduceEqDiff, Nat.reduceLT, Nat.reduceAdd, Nat.reduceMul, Nat.reduceSub, Int.reduceLT, Int.reduceLE, Int.reduceEq, Int.reduceToNat, Int.reduceAdd, Int.reduceSub, Int.reduceMul, Int.reduceNeg, Int.cast_ofNat_Int, false_and, and_false, hM, Nat.add_assoc, nwj, nw0, nw0']) (by decide) ?_
  intro h2 f2 z2
  have n5 : ∀ i, i ≠ 5 → ¬ (200 + (M + i) = 200 + (M + 5)) := fun i hi => by omega
  have n0 : ¬ (200 + M = 200 + (M + 5)) := by omega
  have fa : Fa (fun a => 200 + hN h ≤ a) h h2 := by
    refine Fa.trans ?_ (f2.fa (S := fun a => 200 + hN h ≤ a) (fun a k q => by rw [q, hM]; omega))
    have w : ∀ {h1 : Hp} (_ : Fa (fun a => 200 + hN h ≤ a) h h1) (i k v : Nat), Fa (fun a => 200 + hN h ≤ a) h (wR h1 (200 + (M + i)) k v) := fun f i k v => f.wR (by rw [hM]; omega) k v
    have w0 : ∀ {h1 : Hp} (_ : Fa (fun a => 200 + hN h ≤ a) h h1) (k v : Nat), Fa (fun a => 200 + hN h ≤ a) h (wR h1 (200 + M) k v) := fun f k v => f.wR (by rw [hM]; omega) k v
    have wi : ∀ {h1 : Hp} (_ : Fa (fun a => 200 + hN h ≤ a) h h1) (k : Nat) (v : Int), Fa (fun a => 200 + hN h ≤ a) h (wI h1 (200 + M) k v) := fun f k v => f.wI (by rw [hM]; omega) k v
    have nn : ∀ {h1 : Hp} (_ : Fa (fun a => 200 + hN h ≤ a) h h1) (c l q : Nat), Fa (fun a => 200 + hN h ≤ a) h (nw h1 c l q) := fun f c l q => f.nw c l q
    exact w0 (w0 (wi (w0 (nn (w0 (nn (w0 (nn (w0 (nn (w0 (nn (w0 (nn (w0 (nn (w0 (nn (w0 (w (nn (w (nn (nn (nn (Fa.refl _ h) _ _ _) _ _ _) _ _ _) _ _ _) _ _ _) _ _ _) _ _) _ _ _) _ _) _ _ _) _ _) _ _ _) _ _) _ _ _) _ _) _ _ _) _ _) _ _ _) _ _) _ _ _) _ _) _ _ _) _ _) _ _) _ _) _ _
  have fl : Fa (fun _ => False) h h2 := ⟨fa.1, fun q hq _ => fa.2 q hq (by omega)⟩
  simp only [psh_none, rX7_init_107]
  refine k h2 fl ?_ ?_ ?_ ?_ ?_ ?_ ?_ ?_ ?_
  · rw [f2.N]; simp only [hN_wI, hN_wJ, hN_wR, hS_wI, hS_wJ, hS_wR, hK_wI, hK_wJ, hK_wR, hI_wI, hI_wJ, hI_wR, hJ_wI, hJ_wJ, hJ_wR, hR_wI, hR_wJ, hR_wR, hN_nw, hS_nw, hK_nw, hI_nw, hJ_nw, hR_nw, psh_some, psh_none, hM, Nat.add_assoc, Nat.reduceAdd]
  · rw [f2.S]; simp only [hN_wI, hN_wJ, hN_wR, hS_wI, hS_wJ, hS_wR, hK_wI, hK_wJ, hK_wR, hI_wI, hI_wJ, hI_wR, hJ_wI, hJ_wJ, hJ_wR, hR_wI, hR_wJ, hR_wR, hN_nw, hS_nw, hK_nw, hI_nw, hJ_nw, hR_nw, psh_some, psh_none, Int.toNat_natCast, Int.natCast_nonneg, true_and, and_true, and_self, if_true, if_false, or_true, true_or, or_false, false_or, ne_eq, not_true_eq_false, not_false_eq_true, Nat.reduceLeDiff, Nat.reduceEqDiff, Nat.reduceLT, Nat.reduceAdd, Nat.reduceMul, Nat.reduceSub, Int.reduceLT, Int.reduceLE, Int.reduceEq, Int.reduceToNat, Int.reduceAdd, Int.reduceSub, Int.reduceMul, Int.reduceNeg, Int.cast_ofNat_Int, false_and, and_false]; omega
  · unfold Shp
    simp only [f2.K, f2.R, hN_wI, hN_wJ, hN_wR, hS_wI, hS_wJ, hS_wR, hK_wI, hK_wJ, hK_wR, hI_wI, hI_wJ, hI_wR, hJ_wI, hJ_wJ, hJ_wR, hR_wI, hR_wJ, hR_wR, hN_nw, hS_nw, hK_nw, hI_nw, hJ_nw, hR_nw, psh_some, psh_none, Int.toNat_natCast, Int.natCast_nonneg, true_and, and_true, and_self, if_true, if_false, or_true, true_or, or_false, false_or, ne_eq, not_true_eq_false, not_false_eq_true, Nat.reduceLeDiff, Nat.reduceEqDiff, Nat.reduceLT, Nat.reduceAdd, Nat.reduceMul, Nat.reduceSub, Int.reduceLT, Int.reduceLE, Int.reduceEq, Int.reduceToNat, Int.reduceAdd, Int.reduceSub, Int.reduceMul, Int.reduceNeg, Int.cast_ofNat_Int, false_and, and_false, hM, Nat.add_assoc, nwj, nw0, nw0']
  · simp only [f2.R, hN_wI, hN_wJ, hN_wR, hS_wI, hS_wJ, hS_wR, hK_wI, hK_wJ, hK_wR, hI_wI, hI_wJ, hI_wR, hJ_wI, hJ_wJ, hJ_wR, hR_wI, hR_wJ, hR_wR, hN_nw, hS_nw, hK_nw, hI_nw, hJ_nw, hR_nw, psh_some, psh_none, Int.toNat_natCast, Int.natCast_nonneg, true_and, and_true, and_self, if_true, if_false, or_true, true_or, or_false, false_or, ne_eq, not_true_eq_false, not_false_eq_true, Nat.reduceLeDiff, Nat.reduceEqDiff, Nat.reduceLT, Nat.reduceAdd, Nat.reduceMul, Nat.reduceSub, Int.reduceLT, Int.reduceLE, Int.reduceEq, Int.reduceToNat, Int.reduceAdd, Int.reduceSub, Int.reduceMul, Int.reduceNeg, Int.cast_ofNat_Int, false_and, and_false, hM, Nat.add_assoc, nwj, nw0, nw0']
  · rw [f2.I n0]; simp only [hN_wI, hN_wJ, hN_wR, hS_wI, hS_wJ, hS_wR, hK_wI, hK_wJ, hK_wR, hI_wI, hI_wJ, hI_wR, hJ_wI, hJ_wJ, hJ_wR, hR_wI, hR_wJ, hR_wR, hN_nw, hS_nw, hK_nw, hI_nw, hJ_nw, hR_nw, psh_some, psh_none, Int.toNat_natCast, Int.natCast_nonneg, true_and, and_true, and_self, if_true, if_false, or_true, true_or, or_false, false_or, ne_eq, not_true_eq_false, not_false_eq_true, Nat.reduceLeDiff, Nat.reduceEqDiff, Nat.reduceLT, Nat.reduceAdd, Nat.reduceMul, Nat.reduceSub, Int.reduceLT, Int.reduceLE, Int.reduceEq, Int.reduceToNat, Int.reduceAdd, Int.reduceSub, Int.reduceMul, Int.reduceNeg, Int.cast_ofNat_Int, false_and, and_false, hM, Nat.add_assoc, nwj, nw0, nw0']
  · intro g hg; rw [Nat.add_assoc]; exact z2 g hg
  · intro j; rw [Nat.add_assoc, f2.I (n5 4 (by decide))]; simp only [hN_wI, hN_wJ, hN_wR, hS_wI, hS_wJ, hS_wR, hK_wI, hK_wJ, hK_wR, hI_wI, hI_wJ, hI_wR, hJ_wI, hJ_wJ, hJ_wR, hR_wI, hR_wJ, hR_wR, hN_nw, hS_nw, hK_nw, hI_nw, hJ_nw, hR_nw, psh_some, psh_none, Int.toNat_natCast, Int.natCast_nonneg, true_and, and_true, and_self, if_true, if_false, or_true, true_or, or_false, false_or, ne_eq, not_true_eq_false, not_false_eq_true, Nat.reduceLeDiff, Nat.reduceEqDiff, Nat.reduceLT, Nat.reduceAdd, Nat.reduceMul, Nat.reduceSub, Int.reduceLT, Int.reduceLE, Int.reduceEq, Int.reduceToNat, Int.reduceAdd, Int.reduceSub, Int.reduceMul, Int.reduceNeg, Int.cast_ofNat_Int, false_and, and_false, hM, Nat.add_assoc, nwj, nw0, nw0']
  · intro j; rw [Nat.add_assoc, f2.I (n5 7 (by decide))]; simp only [hN_wI, hN_wJ, hN_wR, hS_wI, hS_wJ, hS_wR, hK_wI, hK_wJ, hK_wR, hI_wI, hI_wJ, hI_wR, hJ_wI, hJ_wJ, hJ_wR, hR_wI, hR_wJ, hR_wR, hN_nw, hS_nw, hK_nw, hI_nw, hJ_nw, hR_nw, psh_some, psh_none, Int.toNat_natCast, Int.natCast_nonneg, true_and, and_true, and_self, if_true, if_false, or_true, true_or, or_false, false_or, ne_eq, not_true_eq_false, not_false_eq_true, Nat.reduceLeDiff, Nat.reduceEqDiff, Nat.reduceLT, Nat.reduceAdd, Nat.reduceMul, Nat.reduceSub, Int.reduceLT, Int.reduceLE, Int.reduceEq, Int.reduceToNat, Int.reduceAdd, Int.reduceSub, Int.reduceMul, Int.reduceNeg, Int.cast_ofNat_Int, false_and, and_false, hM, Nat.add_assoc, nwj, nw0, nw0']
  · intro i j h1 h3
    have : i = 1 ∨ i = 2 ∨ i = 3 := by omega
    rcases this with rfl | rfl | rfl
    · rw [Nat.add_assoc, f2.I (n5 1 (by decide))]; simp only [hN_wI, hN_wJ, hN_wR, hS_wI, hS_wJ, hS_wR, hK_wI, hK_wJ, hK_wR, hI_wI, hI_wJ, hI_wR, hJ_wI, hJ_wJ, hJ_wR, hR_wI, hR_wJ, hR_wR, hN_nw, hS_nw, hK_nw, hI_nw, hJ_nw, hR_nw, psh_some, psh_none, Int.toNat_natCast, Int.natCast_nonneg, true_and, and_true, and_self, if_true, if_false, or_true, true_or, or_false, false_or, ne_eq, not_true_eq_false, not_false_eq_true, Nat.reduceLeDiff, Nat.reduceEqDiff, Nat.reduceLT, Nat.reduceAdd, Nat.reduceMul, Nat.reduceSub, Int.reduceLT, Int.reduceLE, Int.reduceEq, Int.reduceToNat, Int.reduceAdd, Int.reduceSub, Int.reduceMul, Int.reduceNeg, Int.cast_ofNat_Int, false_and, and_false, hM, Nat.add_assoc, nwj, nw0, nw0']
    · rw [Nat.add_assoc, f2.I (n5 2 (by decide))]; simp only [hN_wI, hN_wJ, hN_wR, hS_wI, hS_wJ, hS_wR, hK_wI, hK_wJ, hK_wR, hI_wI, hI_wJ, hI_wR, hJ_wI, hJ_wJ, hJ_wR, hR_wI, hR_wJ, hR_wR, hN_nw, hS_nw, hK_nw, hI_nw, hJ_nw, hR_nw, psh_some, psh_none, Int.toNat_natCast, Int.natCast_nonneg, true_and, and_true, and_self, if_true, if_false, or_true, true_or, or_false, false_or, ne_eq, not_true_eq_false, not_false_eq_true, Nat.reduceLeDiff, Nat.reduceEqDiff, Nat.reduceLT, Nat.reduceAdd, Nat.reduceMul, Nat.reduceSub, Int.reduceLT, Int.reduceLE, Int.reduceEq, Int.reduceToNat, Int.reduceAdd, Int.reduceSub, Int.reduceMul, Int.reduceNeg, Int.cast_ofNat_Int, false_and, and_false, hM, Nat.add_assoc, nwj, nw0, nw0']
    · rw [Nat.add_assoc, f2.I (n5 3 (by decide))]; simp only [hN_wI, hN_wJ, hN_wR, hS_wI, hS_wJ, hS_wR, hK_wI, hK_wJ, hK_wR, hI_wI, hI_wJ, hI_wR, hJ_wI, hJ_wJ, hJ_wR, hR_wI, hR_wJ, hR_wR, hN_nw, hS_nw, hK_nw, hI_nw, hJ_nw, hR_nw, psh_some, psh_none, Int.toNat_natCast, Int.natCast_nonneg, true_and, and_true, and_self, if_true, if_false, or_true, true_or, or_false, false_or, ne_eq, not_true_eq_false, not_false_eq_true, Nat.reduceLeDiff, Nat.reduceEqDiff, Nat.reduceLT, Nat.reduceAdd, Nat.reduceMul, Nat.reduceSub, Int.reduceLT, Int.reduceLE, Int.reduceEq, Int.reduceToNat, Int.reduceAdd, Int.reduceSub, Int.reduceMul, Int.reduceNeg, Int.cast_ofNat_Int, false_and, and_false, hM, Nat.add_assoc, nwj, nw0, nw0']
