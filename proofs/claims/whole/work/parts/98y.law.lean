/-! the law's loop -/
/-- what holds at the loop's head, after c calls of each -/
def LI (L : Nat) (xs : Nat → Int32) (h : Hp) (σ : AS) (c : Nat) : Prop := CRep h σ ∧ RRep h σ ∧ WF σ ∧ hK h 91 = (21, L) ∧ (∀ k, hI h 91 k = (xs k).toInt) ∧ Phn h ≤ 314 + 920 * c ∧ Phs h ≤ 600000 + 2000 * c ∧ Sg h
/-- between the class's call and the reference's -/
def LM (L : Nat) (xs : Nat → Int32) (h : Hp) (σ σ' : AS) (c : Nat) : Prop := CRep h σ' ∧ RRep h σ ∧ WF σ ∧ hK h 91 = (21, L) ∧ (∀ k, hI h 91 k = (xs k).toInt) ∧ Phn h ≤ 314 + 920 * (c + 1) ∧ Phs h ≤ 600000 + 2000 * (c + 1) ∧ Sg h
theorem ph_1 {a b c : Nat} (p : a ≤ 314 + 920 * c) (q : b ≤ a + 920) : b ≤ 314 + 920 * (c + 1) := by
  rw [Nat.mul_succ, ← Nat.add_assoc]; exact Nat.le_trans q (Nat.add_le_add_right p 920)
theorem ph_2 {a b c : Nat} (p : a ≤ 600000 + 2000 * c) (q : b ≤ a + 2000) : b ≤ 600000 + 2000 * (c + 1) := by
  rw [Nat.mul_succ, ← Nat.add_assoc]; exact Nat.le_trans q (Nat.add_le_add_right p 2000)
theorem LI.mid {L : Nat} {xs : Nat → Int32} {h h' : Hp} {σ σ' : AS} {c : Nat} (li : LI L xs h σ c) (x : CRep h' σ') (f : Cfr h h') : LM L xs h' σ σ' c := by
  obtain ⟨_, r, w, k, i, p, q, sg⟩ := li
  have g := f.1 91 (Or.inl (by omega))
  obtain ⟨_, f2, f3⟩ := f.2
  exact ⟨x, r.cf f, w, g.1.trans k, fun j => ((g.2 j).1).trans (i j), ph_1 p f2, ph_2 q f3, sg.cf f⟩
theorem LM.fin {L : Nat} {xs : Nat → Int32} {h h' : Hp} {σ σ' : AS} {c : Nat} (lm : LM L xs h σ σ' c) (x : RRep h' σ') (f : Fp rfP h h') (w' : WF σ') : LI L xs h' σ' (c + 1) := by
  obtain ⟨r, _, w, k, i, p, q, sg⟩ := lm
  refine ⟨r.rf f, x, w', (f.K 91).trans k, fun j => (f.I (fun z => by unfold rfP at z; omega)).trans (i j), ?_, ?_, sg.rf f⟩
  · refine Nat.le_trans (Nat.le_of_eq ?_) p; unfold Phn; rw [f.R, f.R, f.R, f.N]
  · refine Nat.le_trans (Nat.le_of_eq ?_) q; unfold Phs; rw [f.R, f.R, f.R, f.S]
theorem iw_1 {i L : Nat} (hi : i + 6 ≤ L) (hL : L ≤ 3072) : w32 ((i : Int) + 1) = ((i + 1 : Nat) : Int) ∧ (((i + 1 : Nat) : Int) < (L : Int)) = True := by
  refine ⟨?_, eq_true (by omega)⟩
  rw [w32_i (by omega) (by omega)]; omega
theorem iw_2 {i L : Nat} (hi : i + 6 ≤ L) (hL : L ≤ 3072) : w32 ((i : Int) + 2) = ((i + 2 : Nat) : Int) ∧ (((i + 2 : Nat) : Int) < (L : Int)) = True := by
  refine ⟨?_, eq_true (by omega)⟩
  rw [w32_i (by omega) (by omega)]; omega
theorem iw_3 {i L : Nat} (hi : i + 6 ≤ L) (hL : L ≤ 3072) : w32 ((i : Int) + 3) = ((i + 3 : Nat) : Int) ∧ (((i + 3 : Nat) : Int) < (L : Int)) = True := by
  refine ⟨?_, eq_true (by omega)⟩
  rw [w32_i (by omega) (by omega)]; omega
theorem iw_4 {i L : Nat} (hi : i + 6 ≤ L) (hL : L ≤ 3072) : w32 ((i : Int) + 4) = ((i + 4 : Nat) : Int) ∧ (((i + 4 : Nat) : Int) < (L : Int)) = True := by
  refine ⟨?_, eq_true (by omega)⟩
  rw [w32_i (by omega) (by omega)]; omega
theorem iw_5 {i L : Nat} (hi : i + 6 ≤ L) (hL : L ≤ 3072) : w32 ((i : Int) + 5) = ((i + 5 : Nat) : Int) ∧ (((i + 5 : Nat) : Int) < (L : Int)) = True := by
  refine ⟨?_, eq_true (by omega)⟩
  rw [w32_i (by omega) (by omega)]; omega
theorem iw_6 {i L : Nat} (hi : i + 6 ≤ L) (hL : L ≤ 3072) : w32 ((i : Int) + 6) = ((i + 6 : Nat) : Int) := by
  rw [w32_i (by omega) (by omega)]; omega
theorem xs_i (z : Int32) : i32 z.toInt := by
  have h1 := Int32.le_toInt z
  have h2 := Int32.toInt_lt z
  unfold i32; omega
theorem lcm_self (a : Int) : lcm a a = 0 := by unfold lcm; simp
set_option maxHeartbeats 1000000 in
theorem lk_0 {d : Nat} {Q : Option PV → Hp → Prop} {L : Nat} {xs : Nat → Int32} {h : Hp} {σ : AS} {c i : Nat} (hi : i + 6 ≤ L) (hL : L ≤ 3072) (li : LI L xs h σ c) (k : ∀ h' σ', LI L xs h' σ' (c + 1) → WP (d + 80) mL_law 1600 [some (.inr (.inr 91)), some (.inr (.inr 200)), some (.inr (.inr 294)), some (.inl (i : Int))] [] h' Q) : WP (d + 80) mL_law 224 [some (.inr (.inr 91)), some (.inr (.inr 200)), some (.inr (.inr 294)), some (.inl (i : Int))] [] h Q := by
  obtain ⟨e1, l1⟩ := iw_1 hi hL
  obtain ⟨e2, l2⟩ := iw_2 hi hL
  obtain ⟨e3, l3⟩ := iw_3 hi hL
  obtain ⟨e4, l4⟩ := iw_4 hi hL
  obtain ⟨e5, l5⟩ := iw_5 hi hL
  have K := li.2.2.2.1
  have I := li.2.2.2.2.1
  have K2 := li.1.1.1
  simp only [rL_law_224, rL_law_225, rL_law_226, rL_law_227, rL_law_228, rL_law_229, rL_law_230, rL_law_231, rL_law_232, rL_law_233, rL_law_234, rL_law_235, rL_law_236, rL_law_237, rL_law_238, rL_law_239, rL_law_240, rL_law_241, rL_law_242, rL_law_243, rL_law_244, rL_law_245, rL_law_246, rL_law_247, rL_law_248, rL_law_249, rL_law_250, K, I, Cs_K200 K2, Cs_R200_0 K2, Cs_R200_1 K2, Cs_R200_2 K2, Cs_R200_3 K2, Cs_R200_4 K2, Cs_R200_5 K2, Cs_R200_6 K2, Cs_K201 K2, Cs_R201_0 K2, Cs_R201_1 K2, Cs_K202 K2, Cs_K203 K2, Cs_K211 K2, Cs_R211_0 K2, Cs_R211_1 K2, Cs_K212 K2, Cs_K213 K2, Cs_K214 K2, Cs_R214_0 K2, Cs_R214_1 K2, Cs_K215 K2, Cs_K216 K2, Cs_K217 K2, Cs_R217_0 K2, Cs_R217_1 K2, Cs_K218 K2, Cs_K219 K2, Cs_K220 K2, Cs_R220_0 K2, Cs_K221 K2, Cs_K262 K2, Cs_K271 K2, Cs_R271_0 K2, Cs_R271_1 K2, Cs_K272 K2, Cs_K276 K2, Cs_R272_0 K2, Cs_R276_0 K2, Cs_K273 K2, Cs_R273_0 K2, Cs_R273_1 K2, Cs_K274 K2, Cs_K275 K2, Cs_K277 K2, Cs_R277_0 K2, Cs_R277_1 K2, Cs_K278 K2, Cs_K279 K2, Cs_R262_0 K2, Cs_K263 K2, Cs_R263_0 K2, Cs_K264 K2, Cs_R262_1 K2, Cs_K265 K2, Cs_R265_0 K2, Cs_K266 K2, Cs_R262_2 K2, Cs_K267 K2, Cs_R267_0 K2, Cs_K268 K2, Cs_R262_3 K2, Cs_K269 K2, Cs_R269_0 K2, Cs_K270 K2, e1, l1, e2, l2, e3, l3, e4, l4, e5, l5, Int.toNat_natCast, Int.natCast_nonneg, true_and, and_true, and_self, if_true, if_false, or_true, true_or, or_false, false_or, ne_eq, not_true_eq_false, not_false_eq_true, Nat.reduceLeDiff, Nat.reduceEqDiff, Nat.reduceLT, Nat.reduceAdd, Nat.reduceMul, Nat.reduceSub, Int.reduceLT, Int.reduceLE, Int.reduceEq, Int.reduceToNat, Int.reduceAdd, Int.reduceSub, Int.reduceMul, Int.reduceNeg, Int.cast_ofNat_Int, false_and, and_false]
  obtain ⟨v, s', w', cs, rs⟩ := L_feed (d := d) li.2.2.1 (a := (xs (i + 1)).toInt) (b := (xs (i + 2)).toInt) (c := (xs (i + 3)).toInt) (e := (xs (i + 4)).toInt) (f := (xs (i + 5)).toInt)
  refine cs h _ li.1 li.2.2.1 ?_
  intro h1 x1 f1
  have lm := li.mid x1 f1
  have K1 := lm.2.2.2.1
  have I1 := lm.2.2.2.2.1
  have M1 := lm.2.1.1
  simp only [psh_some, rL_law_253, rL_law_254, rL_law_255, rL_law_256, rL_law_257, rL_law_258, rL_law_259, rL_law_260, rL_law_261, rL_law_262, rL_law_263, rL_law_264, rL_law_265, rL_law_266, rL_law_267, rL_law_268, rL_law_269, rL_law_270, rL_law_271, rL_law_272, rL_law_273, rL_law_274, rL_law_275, rL_law_276, rL_law_277, rL_law_278, rL_law_279, K1, I1, Md_K280 M1, e1, l1, e2, l2, e3, l3, e4, l4, e5, l5, Int.toNat_natCast, Int.natCast_nonneg, true_and, and_true, and_self, if_true, if_false, or_true, true_or, or_false, false_or, ne_eq, not_true_eq_false, not_false_eq_true, Nat.reduceLeDiff, Nat.reduceEqDiff, Nat.reduceLT, Nat.reduceAdd, Nat.reduceMul, Nat.reduceSub, Int.reduceLT, Int.reduceLE, Int.reduceEq, Int.reduceToNat, Int.reduceAdd, Int.reduceSub, Int.reduceMul, Int.reduceNeg, Int.cast_ofNat_Int, false_and, and_false]
  refine rs h1 _ lm.2.1 lm.2.2.1 ?_
  intro h2 x2 f2
  simp only [psh_some, rL_law_282, Int.toNat_natCast, Int.natCast_nonneg, true_and, and_true, and_self, if_true, if_false, or_true, true_or, or_false, false_or, ne_eq, not_true_eq_false, not_false_eq_true, Nat.reduceLeDiff, Nat.reduceEqDiff, Nat.reduceLT, Nat.reduceAdd, Nat.reduceMul, Nat.reduceSub, Int.reduceLT, Int.reduceLE, Int.reduceEq, Int.reduceToNat, Int.reduceAdd, Int.reduceSub, Int.reduceMul, Int.reduceNeg, Int.cast_ofNat_Int, false_and, and_false]
  exact k h2 _ (lm.fin x2 f2 w')
set_option maxHeartbeats 1000000 in
theorem lk_1 {d : Nat} {Q : Option PV → Hp → Prop} {L : Nat} {xs : Nat → Int32} {h : Hp} {σ : AS} {c i : Nat} (hi : i + 6 ≤ L) (hL : L ≤ 3072) (li : LI L xs h σ c) (po : ∀ (σ : AS) (n : Int), WF σ → i32 n → ∃ y σ', WF σ' ∧ CSpS (d + 79) mX11_pool [some (.inr (.inr 200)), some (.inl n), none] σ (.inl y) σ' ∧ RSpS (d + 79) mX12_pool [some (.inr (.inr 294)), some (.inl n), none] σ (.inl y) σ') (k : ∀ h' σ', LI L xs h' σ' (c + 1) → WP (d + 80) mL_law 1600 [some (.inr (.inr 91)), some (.inr (.inr 200)), some (.inr (.inr 294)), some (.inl (i : Int))] [] h' Q) : WP (d + 80) mL_law 287 [some (.inr (.inr 91)), some (.inr (.inr 200)), some (.inr (.inr 294)), some (.inl (i : Int))] [] h Q := by
  obtain ⟨e1, l1⟩ := iw_1 hi hL
  have K := li.2.2.2.1
  have I := li.2.2.2.2.1
  have K2 := li.1.1.1
  simp only [rL_law_287, rL_law_288, rL_law_289, rL_law_290, rL_law_291, rL_law_292, rL_law_293, K, I, Cs_K200 K2, Cs_R200_0 K2, Cs_R200_1 K2, Cs_R200_2 K2, Cs_R200_3 K2, Cs_R200_4 K2, Cs_R200_5 K2, Cs_R200_6 K2, Cs_K201 K2, Cs_R201_0 K2, Cs_R201_1 K2, Cs_K202 K2, Cs_K203 K2, Cs_K211 K2, Cs_R211_0 K2, Cs_R211_1 K2, Cs_K212 K2, Cs_K213 K2, Cs_K214 K2, Cs_R214_0 K2, Cs_R214_1 K2, Cs_K215 K2, Cs_K216 K2, Cs_K217 K2, Cs_R217_0 K2, Cs_R217_1 K2, Cs_K218 K2, Cs_K219 K2, Cs_K220 K2, Cs_R220_0 K2, Cs_K221 K2, Cs_K262 K2, Cs_K271 K2, Cs_R271_0 K2, Cs_R271_1 K2, Cs_K272 K2, Cs_K276 K2, Cs_R272_0 K2, Cs_R276_0 K2, Cs_K273 K2, Cs_R273_0 K2, Cs_R273_1 K2, Cs_K274 K2, Cs_K275 K2, Cs_K277 K2, Cs_R277_0 K2, Cs_R277_1 K2, Cs_K278 K2, Cs_K279 K2, Cs_R262_0 K2, Cs_K263 K2, Cs_R263_0 K2, Cs_K264 K2, Cs_R262_1 K2, Cs_K265 K2, Cs_R265_0 K2, Cs_K266 K2, Cs_R262_2 K2, Cs_K267 K2, Cs_R267_0 K2, Cs_K268 K2, Cs_R262_3 K2, Cs_K269 K2, Cs_R269_0 K2, Cs_K270 K2, e1, l1, Int.toNat_natCast, Int.natCast_nonneg, true_and, and_true, and_self, if_true, if_false, or_true, true_or, or_false, false_or, ne_eq, not_true_eq_false, not_false_eq_true, Nat.reduceLeDiff, Nat.reduceEqDiff, Nat.reduceLT, Nat.reduceAdd, Nat.reduceMul, Nat.reduceSub, Int.reduceLT, Int.reduceLE, Int.reduceEq, Int.reduceToNat, Int.reduceAdd, Int.reduceSub, Int.reduceMul, Int.reduceNeg, Int.cast_ofNat_Int, false_and, and_false]
  obtain ⟨v, s', w', cs, rs⟩ := po σ _ li.2.2.1 (xs_i (xs (i + 1)))
  refine cs h _ li.2.2.2.2.2.2.2 li.1 li.2.2.1 ?_
  intro h1 x1 f1
  have lm := li.mid x1 f1
  have K1 := lm.2.2.2.1
  have I1 := lm.2.2.2.2.1
  have M1 := lm.2.1.1
  simp only [psh_some, rL_law_296, rL_law_297, rL_law_298, rL_law_299, rL_law_300, rL_law_301, rL_law_302, K1, I1, Md_K280 M1, e1, l1, Int.toNat_natCast, Int.natCast_nonneg, true_and, and_true, and_self, if_true, if_false, or_true, true_or, or_false, false_or, ne_eq, not_true_eq_false, not_false_eq_true, Nat.reduceLeDiff, Nat.reduceEqDiff, Nat.reduceLT, Nat.reduceAdd, Nat.reduceMul, Nat.reduceSub, Int.reduceLT, Int.reduceLE, Int.reduceEq, Int.reduceToNat, Int.reduceAdd, Int.reduceSub, Int.reduceMul, Int.reduceNeg, Int.cast_ofNat_Int, false_and, and_false]
  refine rs h1 _ lm.2.2.2.2.2.2.2 lm.2.1 lm.2.2.1 ?_
  intro h2 x2 f2
  simp only [psh_some, rL_law_305, Int.toNat_natCast, Int.natCast_nonneg, true_and, and_true, and_self, if_true, if_false, or_true, true_or, or_false, false_or, ne_eq, not_true_eq_false, not_false_eq_true, Nat.reduceLeDiff, Nat.reduceEqDiff, Nat.reduceLT, Nat.reduceAdd, Nat.reduceMul, Nat.reduceSub, Int.reduceLT, Int.reduceLE, Int.reduceEq, Int.reduceToNat, Int.reduceAdd, Int.reduceSub, Int.reduceMul, Int.reduceNeg, Int.cast_ofNat_Int, false_and, and_false]
  exact k h2 _ (lm.fin x2 f2 w')
set_option maxHeartbeats 1000000 in
theorem lk_2 {d : Nat} {Q : Option PV → Hp → Prop} {L : Nat} {xs : Nat → Int32} {h : Hp} {σ : AS} {c i : Nat} (hi : i + 6 ≤ L) (hL : L ≤ 3072) (li : LI L xs h σ c) (k : ∀ h' σ', LI L xs h' σ' (c + 1) → WP (d + 80) mL_law 1600 [some (.inr (.inr 91)), some (.inr (.inr 200)), some (.inr (.inr 294)), some (.inl (i : Int))] [] h' Q) : WP (d + 80) mL_law 310 [some (.inr (.inr 91)), some (.inr (.inr 200)), some (.inr (.inr 294)), some (.inl (i : Int))] [] h Q := by
  obtain ⟨e1, l1⟩ := iw_1 hi hL
  have K := li.2.2.2.1
  have I := li.2.2.2.2.1
  have K2 := li.1.1.1
  simp only [rL_law_310, rL_law_311, rL_law_312, rL_law_313, rL_law_314, rL_law_315, rL_law_316, K, I, Cs_K200 K2, Cs_R200_0 K2, Cs_R200_1 K2, Cs_R200_2 K2, Cs_R200_3 K2, Cs_R200_4 K2, Cs_R200_5 K2, Cs_R200_6 K2, Cs_K201 K2, Cs_R201_0 K2, Cs_R201_1 K2, Cs_K202 K2, Cs_K203 K2, Cs_K211 K2, Cs_R211_0 K2, Cs_R211_1 K2, Cs_K212 K2, Cs_K213 K2, Cs_K214 K2, Cs_R214_0 K2, Cs_R214_1 K2, Cs_K215 K2, Cs_K216 K2, Cs_K217 K2, Cs_R217_0 K2, Cs_R217_1 K2, Cs_K218 K2, Cs_K219 K2, Cs_K220 K2, Cs_R220_0 K2, Cs_K221 K2, Cs_K262 K2, Cs_K271 K2, Cs_R271_0 K2, Cs_R271_1 K2, Cs_K272 K2, Cs_K276 K2, Cs_R272_0 K2, Cs_R276_0 K2, Cs_K273 K2, Cs_R273_0 K2, Cs_R273_1 K2, Cs_K274 K2, Cs_K275 K2, Cs_K277 K2, Cs_R277_0 K2, Cs_R277_1 K2, Cs_K278 K2, Cs_K279 K2, Cs_R262_0 K2, Cs_K263 K2, Cs_R263_0 K2, Cs_K264 K2, Cs_R262_1 K2, Cs_K265 K2, Cs_R265_0 K2, Cs_K266 K2, Cs_R262_2 K2, Cs_K267 K2, Cs_R267_0 K2, Cs_K268 K2, Cs_R262_3 K2, Cs_K269 K2, Cs_R269_0 K2, Cs_K270 K2, e1, l1, Int.toNat_natCast, Int.natCast_nonneg, true_and, and_true, and_self, if_true, if_false, or_true, true_or, or_false, false_or, ne_eq, not_true_eq_false, not_false_eq_true, Nat.reduceLeDiff, Nat.reduceEqDiff, Nat.reduceLT, Nat.reduceAdd, Nat.reduceMul, Nat.reduceSub, Int.reduceLT, Int.reduceLE, Int.reduceEq, Int.reduceToNat, Int.reduceAdd, Int.reduceSub, Int.reduceMul, Int.reduceNeg, Int.cast_ofNat_Int, false_and, and_false]
  obtain ⟨v, s', w', cs, rs⟩ := L_fault (d := d) li.2.2.1 (v := (xs (i + 1)).toInt)
  refine cs h _ li.1 li.2.2.1 ?_
  intro h1 x1 f1
  have lm := li.mid x1 f1
  have K1 := lm.2.2.2.1
  have I1 := lm.2.2.2.2.1
  have M1 := lm.2.1.1
  simp only [psh_some, rL_law_319, rL_law_320, rL_law_321, rL_law_322, rL_law_323, rL_law_324, rL_law_325, K1, I1, Md_K280 M1, e1, l1, Int.toNat_natCast, Int.natCast_nonneg, true_and, and_true, and_self, if_true, if_false, or_true, true_or, or_false, false_or, ne_eq, not_true_eq_false, not_false_eq_true, Nat.reduceLeDiff, Nat.reduceEqDiff, Nat.reduceLT, Nat.reduceAdd, Nat.reduceMul, Nat.reduceSub, Int.reduceLT, Int.reduceLE, Int.reduceEq, Int.reduceToNat, Int.reduceAdd, Int.reduceSub, Int.reduceMul, Int.reduceNeg, Int.cast_ofNat_Int, false_and, and_false]
  refine rs h1 _ lm.2.1 lm.2.2.1 ?_
  intro h2 x2 f2
  simp only [psh_some, rL_law_328, Int.toNat_natCast, Int.natCast_nonneg, true_and, and_true, and_self, if_true, if_false, or_true, true_or, or_false, false_or, ne_eq, not_true_eq_false, not_false_eq_true, Nat.reduceLeDiff, Nat.reduceEqDiff, Nat.reduceLT, Nat.reduceAdd, Nat.reduceMul, Nat.reduceSub, Int.reduceLT, Int.reduceLE, Int.reduceEq, Int.reduceToNat, Int.reduceAdd, Int.reduceSub, Int.reduceMul, Int.reduceNeg, Int.cast_ofNat_Int, false_and, and_false]
  exact k h2 _ (lm.fin x2 f2 w')
set_option maxHeartbeats 1000000 in
theorem lk_3 {d : Nat} {Q : Option PV → Hp → Prop} {L : Nat} {xs : Nat → Int32} {h : Hp} {σ : AS} {c i : Nat} (hi : i + 6 ≤ L) (hL : L ≤ 3072) (li : LI L xs h σ c) (k : ∀ h' σ', LI L xs h' σ' (c + 1) → WP (d + 80) mL_law 1600 [some (.inr (.inr 91)), some (.inr (.inr 200)), some (.inr (.inr 294)), some (.inl (i : Int))] [] h' Q) : WP (d + 80) mL_law 333 [some (.inr (.inr 91)), some (.inr (.inr 200)), some (.inr (.inr 294)), some (.inl (i : Int))] [] h Q := by
  obtain ⟨e1, l1⟩ := iw_1 hi hL
  obtain ⟨e2, l2⟩ := iw_2 hi hL
  have K := li.2.2.2.1
  have I := li.2.2.2.2.1
  have K2 := li.1.1.1
  simp only [rL_law_333, rL_law_334, rL_law_335, rL_law_336, rL_law_337, rL_law_338, rL_law_339, rL_law_340, rL_law_341, rL_law_342, rL_law_343, rL_law_344, K, I, Cs_K200 K2, Cs_R200_0 K2, Cs_R200_1 K2, Cs_R200_2 K2, Cs_R200_3 K2, Cs_R200_4 K2, Cs_R200_5 K2, Cs_R200_6 K2, Cs_K201 K2, Cs_R201_0 K2, Cs_R201_1 K2, Cs_K202 K2, Cs_K203 K2, Cs_K211 K2, Cs_R211_0 K2, Cs_R211_1 K2, Cs_K212 K2, Cs_K213 K2, Cs_K214 K2, Cs_R214_0 K2, Cs_R214_1 K2, Cs_K215 K2, Cs_K216 K2, Cs_K217 K2, Cs_R217_0 K2, Cs_R217_1 K2, Cs_K218 K2, Cs_K219 K2, Cs_K220 K2, Cs_R220_0 K2, Cs_K221 K2, Cs_K262 K2, Cs_K271 K2, Cs_R271_0 K2, Cs_R271_1 K2, Cs_K272 K2, Cs_K276 K2, Cs_R272_0 K2, Cs_R276_0 K2, Cs_K273 K2, Cs_R273_0 K2, Cs_R273_1 K2, Cs_K274 K2, Cs_K275 K2, Cs_K277 K2, Cs_R277_0 K2, Cs_R277_1 K2, Cs_K278 K2, Cs_K279 K2, Cs_R262_0 K2, Cs_K263 K2, Cs_R263_0 K2, Cs_K264 K2, Cs_R262_1 K2, Cs_K265 K2, Cs_R265_0 K2, Cs_K266 K2, Cs_R262_2 K2, Cs_K267 K2, Cs_R267_0 K2, Cs_K268 K2, Cs_R262_3 K2, Cs_K269 K2, Cs_R269_0 K2, Cs_K270 K2, e1, l1, e2, l2, Int.toNat_natCast, Int.natCast_nonneg, true_and, and_true, and_self, if_true, if_false, or_true, true_or, or_false, false_or, ne_eq, not_true_eq_false, not_false_eq_true, Nat.reduceLeDiff, Nat.reduceEqDiff, Nat.reduceLT, Nat.reduceAdd, Nat.reduceMul, Nat.reduceSub, Int.reduceLT, Int.reduceLE, Int.reduceEq, Int.reduceToNat, Int.reduceAdd, Int.reduceSub, Int.reduceMul, Int.reduceNeg, Int.cast_ofNat_Int, false_and, and_false]
  obtain ⟨v, s', w', cs, rs⟩ := L_thing (d := d) li.2.2.1 (t := (xs (i + 1)).toInt) (wh := (xs (i + 2)).toInt) (xs_i _)
  refine cs h _ li.1 li.2.2.1 ?_
  intro h1 x1 f1
  have lm := li.mid x1 f1
  have K1 := lm.2.2.2.1
  have I1 := lm.2.2.2.2.1
  have M1 := lm.2.1.1
  simp only [psh_some, rL_law_347, rL_law_348, rL_law_349, rL_law_350, rL_law_351, rL_law_352, rL_law_353, rL_law_354, rL_law_355, rL_law_356, rL_law_357, rL_law_358, K1, I1, Md_K280 M1, e1, l1, e2, l2, Int.toNat_natCast, Int.natCast_nonneg, true_and, and_true, and_self, if_true, if_false, or_true, true_or, or_false, false_or, ne_eq, not_true_eq_false, not_false_eq_true, Nat.reduceLeDiff, Nat.reduceEqDiff, Nat.reduceLT, Nat.reduceAdd, Nat.reduceMul, Nat.reduceSub, Int.reduceLT, Int.reduceLE, Int.reduceEq, Int.reduceToNat, Int.reduceAdd, Int.reduceSub, Int.reduceMul, Int.reduceNeg, Int.cast_ofNat_Int, false_and, and_false]
  refine rs h1 _ lm.2.1 lm.2.2.1 ?_
  intro h2 x2 f2
  simp only [psh_some, rL_law_361, Int.toNat_natCast, Int.natCast_nonneg, true_and, and_true, and_self, if_true, if_false, or_true, true_or, or_false, false_or, ne_eq, not_true_eq_false, not_false_eq_true, Nat.reduceLeDiff, Nat.reduceEqDiff, Nat.reduceLT, Nat.reduceAdd, Nat.reduceMul, Nat.reduceSub, Int.reduceLT, Int.reduceLE, Int.reduceEq, Int.reduceToNat, Int.reduceAdd, Int.reduceSub, Int.reduceMul, Int.reduceNeg, Int.cast_ofNat_Int, false_and, and_false]
  exact k h2 _ (lm.fin x2 f2 w')
set_option maxHeartbeats 1000000 in
theorem lk_4 {d : Nat} {Q : Option PV → Hp → Prop} {L : Nat} {xs : Nat → Int32} {h : Hp} {σ : AS} {c i : Nat} (hi : i + 6 ≤ L) (hL : L ≤ 3072) (li : LI L xs h σ c) (k : ∀ h' σ', LI L xs h' σ' (c + 1) → WP (d + 80) mL_law 1600 [some (.inr (.inr 91)), some (.inr (.inr 200)), some (.inr (.inr 294)), some (.inl (i : Int))] [] h' Q) : WP (d + 80) mL_law 366 [some (.inr (.inr 91)), some (.inr (.inr 200)), some (.inr (.inr 294)), some (.inl (i : Int))] [] h Q := by
  obtain ⟨e1, l1⟩ := iw_1 hi hL
  obtain ⟨e2, l2⟩ := iw_2 hi hL
  have K := li.2.2.2.1
  have I := li.2.2.2.2.1
  have K2 := li.1.1.1
  simp only [rL_law_366, rL_law_367, rL_law_368, rL_law_369, rL_law_370, rL_law_371, rL_law_372, rL_law_373, rL_law_374, rL_law_375, rL_law_376, rL_law_377, K, I, Cs_K200 K2, Cs_R200_0 K2, Cs_R200_1 K2, Cs_R200_2 K2, Cs_R200_3 K2, Cs_R200_4 K2, Cs_R200_5 K2, Cs_R200_6 K2, Cs_K201 K2, Cs_R201_0 K2, Cs_R201_1 K2, Cs_K202 K2, Cs_K203 K2, Cs_K211 K2, Cs_R211_0 K2, Cs_R211_1 K2, Cs_K212 K2, Cs_K213 K2, Cs_K214 K2, Cs_R214_0 K2, Cs_R214_1 K2, Cs_K215 K2, Cs_K216 K2, Cs_K217 K2, Cs_R217_0 K2, Cs_R217_1 K2, Cs_K218 K2, Cs_K219 K2, Cs_K220 K2, Cs_R220_0 K2, Cs_K221 K2, Cs_K262 K2, Cs_K271 K2, Cs_R271_0 K2, Cs_R271_1 K2, Cs_K272 K2, Cs_K276 K2, Cs_R272_0 K2, Cs_R276_0 K2, Cs_K273 K2, Cs_R273_0 K2, Cs_R273_1 K2, Cs_K274 K2, Cs_K275 K2, Cs_K277 K2, Cs_R277_0 K2, Cs_R277_1 K2, Cs_K278 K2, Cs_K279 K2, Cs_R262_0 K2, Cs_K263 K2, Cs_R263_0 K2, Cs_K264 K2, Cs_R262_1 K2, Cs_K265 K2, Cs_R265_0 K2, Cs_K266 K2, Cs_R262_2 K2, Cs_K267 K2, Cs_R267_0 K2, Cs_K268 K2, Cs_R262_3 K2, Cs_K269 K2, Cs_R269_0 K2, Cs_K270 K2, e1, l1, e2, l2, Int.toNat_natCast, Int.natCast_nonneg, true_and, and_true, and_self, if_true, if_false, or_true, true_or, or_false, false_or, ne_eq, not_true_eq_false, not_false_eq_true, Nat.reduceLeDiff, Nat.reduceEqDiff, Nat.reduceLT, Nat.reduceAdd, Nat.reduceMul, Nat.reduceSub, Int.reduceLT, Int.reduceLE, Int.reduceEq, Int.reduceToNat, Int.reduceAdd, Int.reduceSub, Int.reduceMul, Int.reduceNeg, Int.cast_ofNat_Int, false_and, and_false]
  obtain ⟨v, s', w', cs, rs⟩ := L_goer (d := d) li.2.2.1 (t := (xs (i + 1)).toInt) (wh := (xs (i + 2)).toInt)
  refine cs h _ li.1 li.2.2.1 ?_
  intro h1 x1 f1
  have lm := li.mid x1 f1
  have K1 := lm.2.2.2.1
  have I1 := lm.2.2.2.2.1
  have M1 := lm.2.1.1
  simp only [psh_some, rL_law_380, rL_law_381, rL_law_382, rL_law_383, rL_law_384, rL_law_385, rL_law_386, rL_law_387, rL_law_388, rL_law_389, rL_law_390, rL_law_391, K1, I1, Md_K280 M1, e1, l1, e2, l2, Int.toNat_natCast, Int.natCast_nonneg, true_and, and_true, and_self, if_true, if_false, or_true, true_or, or_false, false_or, ne_eq, not_true_eq_false, not_false_eq_true, Nat.reduceLeDiff, Nat.reduceEqDiff, Nat.reduceLT, Nat.reduceAdd, Nat.reduceMul, Nat.reduceSub, Int.reduceLT, Int.reduceLE, Int.reduceEq, Int.reduceToNat, Int.reduceAdd, Int.reduceSub, Int.reduceMul, Int.reduceNeg, Int.cast_ofNat_Int, false_and, and_false]
  refine rs h1 _ lm.2.1 lm.2.2.1 ?_
  intro h2 x2 f2
  simp only [psh_some, rL_law_394, Int.toNat_natCast, Int.natCast_nonneg, true_and, and_true, and_self, if_true, if_false, or_true, true_or, or_false, false_or, ne_eq, not_true_eq_false, not_false_eq_true, Nat.reduceLeDiff, Nat.reduceEqDiff, Nat.reduceLT, Nat.reduceAdd, Nat.reduceMul, Nat.reduceSub, Int.reduceLT, Int.reduceLE, Int.reduceEq, Int.reduceToNat, Int.reduceAdd, Int.reduceSub, Int.reduceMul, Int.reduceNeg, Int.cast_ofNat_Int, false_and, and_false]
  exact k h2 _ (lm.fin x2 f2 w')
set_option maxHeartbeats 1000000 in
theorem lk_5 {d : Nat} {Q : Option PV → Hp → Prop} {L : Nat} {xs : Nat → Int32} {h : Hp} {σ : AS} {c i : Nat} (hi : i + 6 ≤ L) (hL : L ≤ 3072) (li : LI L xs h σ c) (k : ∀ h' σ', LI L xs h' σ' (c + 1) → WP (d + 80) mL_law 1600 [some (.inr (.inr 91)), some (.inr (.inr 200)), some (.inr (.inr 294)), some (.inl (i : Int))] [] h' Q) : WP (d + 80) mL_law 399 [some (.inr (.inr 91)), some (.inr (.inr 200)), some (.inr (.inr 294)), some (.inl (i : Int))] [] h Q := by
  obtain ⟨e1, l1⟩ := iw_1 hi hL
  have K := li.2.2.2.1
  have I := li.2.2.2.2.1
  have K2 := li.1.1.1
  simp only [rL_law_399, rL_law_400, rL_law_401, rL_law_402, rL_law_403, rL_law_404, rL_law_405, K, I, Cs_K200 K2, Cs_R200_0 K2, Cs_R200_1 K2, Cs_R200_2 K2, Cs_R200_3 K2, Cs_R200_4 K2, Cs_R200_5 K2, Cs_R200_6 K2, Cs_K201 K2, Cs_R201_0 K2, Cs_R201_1 K2, Cs_K202 K2, Cs_K203 K2, Cs_K211 K2, Cs_R211_0 K2, Cs_R211_1 K2, Cs_K212 K2, Cs_K213 K2, Cs_K214 K2, Cs_R214_0 K2, Cs_R214_1 K2, Cs_K215 K2, Cs_K216 K2, Cs_K217 K2, Cs_R217_0 K2, Cs_R217_1 K2, Cs_K218 K2, Cs_K219 K2, Cs_K220 K2, Cs_R220_0 K2, Cs_K221 K2, Cs_K262 K2, Cs_K271 K2, Cs_R271_0 K2, Cs_R271_1 K2, Cs_K272 K2, Cs_K276 K2, Cs_R272_0 K2, Cs_R276_0 K2, Cs_K273 K2, Cs_R273_0 K2, Cs_R273_1 K2, Cs_K274 K2, Cs_K275 K2, Cs_K277 K2, Cs_R277_0 K2, Cs_R277_1 K2, Cs_K278 K2, Cs_K279 K2, Cs_R262_0 K2, Cs_K263 K2, Cs_R263_0 K2, Cs_K264 K2, Cs_R262_1 K2, Cs_K265 K2, Cs_R265_0 K2, Cs_K266 K2, Cs_R262_2 K2, Cs_K267 K2, Cs_R267_0 K2, Cs_K268 K2, Cs_R262_3 K2, Cs_K269 K2, Cs_R269_0 K2, Cs_K270 K2, e1, l1, Int.toNat_natCast, Int.natCast_nonneg, true_and, and_true, and_self, if_true, if_false, or_true, true_or, or_false, false_or, ne_eq, not_true_eq_false, not_false_eq_true, Nat.reduceLeDiff, Nat.reduceEqDiff, Nat.reduceLT, Nat.reduceAdd, Nat.reduceMul, Nat.reduceSub, Int.reduceLT, Int.reduceLE, Int.reduceEq, Int.reduceToNat, Int.reduceAdd, Int.reduceSub, Int.reduceMul, Int.reduceNeg, Int.cast_ofNat_Int, false_and, and_false]
  obtain ⟨v, s', w', cs, rs⟩ := L_shows (d := d) li.2.2.1 (t := (xs (i + 1)).toInt)
  refine cs h _ li.1 li.2.2.1 ?_
  intro h1 x1 f1
  have lm := li.mid x1 f1
  have K1 := lm.2.2.2.1
  have I1 := lm.2.2.2.2.1
  have M1 := lm.2.1.1
  simp only [psh_some, rL_law_408, rL_law_409, rL_law_410, rL_law_411, rL_law_412, rL_law_413, rL_law_414, K1, I1, Md_K280 M1, e1, l1, Int.toNat_natCast, Int.natCast_nonneg, true_and, and_true, and_self, if_true, if_false, or_true, true_or, or_false, false_or, ne_eq, not_true_eq_false, not_false_eq_true, Nat.reduceLeDiff, Nat.reduceEqDiff, Nat.reduceLT, Nat.reduceAdd, Nat.reduceMul, Nat.reduceSub, Int.reduceLT, Int.reduceLE, Int.reduceEq, Int.reduceToNat, Int.reduceAdd, Int.reduceSub, Int.reduceMul, Int.reduceNeg, Int.cast_ofNat_Int, false_and, and_false]
  refine rs h1 _ lm.2.1 lm.2.2.1 ?_
  intro h2 x2 f2
  simp only [psh_some, rL_law_417, Int.toNat_natCast, Int.natCast_nonneg, true_and, and_true, and_self, if_true, if_false, or_true, true_or, or_false, false_or, ne_eq, not_true_eq_false, not_false_eq_true, Nat.reduceLeDiff, Nat.reduceEqDiff, Nat.reduceLT, Nat.reduceAdd, Nat.reduceMul, Nat.reduceSub, Int.reduceLT, Int.reduceLE, Int.reduceEq, Int.reduceToNat, Int.reduceAdd, Int.reduceSub, Int.reduceMul, Int.reduceNeg, Int.cast_ofNat_Int, false_and, and_false]
  exact k h2 _ (lm.fin x2 f2 w')
set_option maxHeartbeats 1000000 in
theorem lk_6 {d : Nat} {Q : Option PV → Hp → Prop} {L : Nat} {xs : Nat → Int32} {h : Hp} {σ : AS} {c i : Nat} (hi : i + 6 ≤ L) (hL : L ≤ 3072) (li : LI L xs h σ c) (k : ∀ h' σ', LI L xs h' σ' (c + 1) → WP (d + 80) mL_law 1600 [some (.inr (.inr 91)), some (.inr (.inr 200)), some (.inr (.inr 294)), some (.inl (i : Int))] [] h' Q) : WP (d + 80) mL_law 422 [some (.inr (.inr 91)), some (.inr (.inr 200)), some (.inr (.inr 294)), some (.inl (i : Int))] [] h Q := by
  have K := li.2.2.2.1
  have I := li.2.2.2.2.1
  have K2 := li.1.1.1
  simp only [rL_law_422, rL_law_423, K, I, Cs_K200 K2, Cs_R200_0 K2, Cs_R200_1 K2, Cs_R200_2 K2, Cs_R200_3 K2, Cs_R200_4 K2, Cs_R200_5 K2, Cs_R200_6 K2, Cs_K201 K2, Cs_R201_0 K2, Cs_R201_1 K2, Cs_K202 K2, Cs_K203 K2, Cs_K211 K2, Cs_R211_0 K2, Cs_R211_1 K2, Cs_K212 K2, Cs_K213 K2, Cs_K214 K2, Cs_R214_0 K2, Cs_R214_1 K2, Cs_K215 K2, Cs_K216 K2, Cs_K217 K2, Cs_R217_0 K2, Cs_R217_1 K2, Cs_K218 K2, Cs_K219 K2, Cs_K220 K2, Cs_R220_0 K2, Cs_K221 K2, Cs_K262 K2, Cs_K271 K2, Cs_R271_0 K2, Cs_R271_1 K2, Cs_K272 K2, Cs_K276 K2, Cs_R272_0 K2, Cs_R276_0 K2, Cs_K273 K2, Cs_R273_0 K2, Cs_R273_1 K2, Cs_K274 K2, Cs_K275 K2, Cs_K277 K2, Cs_R277_0 K2, Cs_R277_1 K2, Cs_K278 K2, Cs_K279 K2, Cs_R262_0 K2, Cs_K263 K2, Cs_R263_0 K2, Cs_K264 K2, Cs_R262_1 K2, Cs_K265 K2, Cs_R265_0 K2, Cs_K266 K2, Cs_R262_2 K2, Cs_K267 K2, Cs_R267_0 K2, Cs_K268 K2, Cs_R262_3 K2, Cs_K269 K2, Cs_R269_0 K2, Cs_K270 K2, Int.toNat_natCast, Int.natCast_nonneg, true_and, and_true, and_self, if_true, if_false, or_true, true_or, or_false, false_or, ne_eq, not_true_eq_false, not_false_eq_true, Nat.reduceLeDiff, Nat.reduceEqDiff, Nat.reduceLT, Nat.reduceAdd, Nat.reduceMul, Nat.reduceSub, Int.reduceLT, Int.reduceLE, Int.reduceEq, Int.reduceToNat, Int.reduceAdd, Int.reduceSub, Int.reduceMul, Int.reduceNeg, Int.cast_ofNat_Int, false_and, and_false]
  obtain ⟨v, s', w', cs, rs⟩ := L_truthful (d := d) li.2.2.1 
  refine cs h _ li.1 li.2.2.1 ?_
  intro h1 x1 f1
  have lm := li.mid x1 f1
  have K1 := lm.2.2.2.1
  have I1 := lm.2.2.2.2.1
  have M1 := lm.2.1.1
  simp only [psh_some, rL_law_426, rL_law_427, K1, I1, Md_K280 M1, Int.toNat_natCast, Int.natCast_nonneg, true_and, and_true, and_self, if_true, if_false, or_true, true_or, or_false, false_or, ne_eq, not_true_eq_false, not_false_eq_true, Nat.reduceLeDiff, Nat.reduceEqDiff, Nat.reduceLT, Nat.reduceAdd, Nat.reduceMul, Nat.reduceSub, Int.reduceLT, Int.reduceLE, Int.reduceEq, Int.reduceToNat, Int.reduceAdd, Int.reduceSub, Int.reduceMul, Int.reduceNeg, Int.cast_ofNat_Int, false_and, and_false]
  refine rs h1 _ lm.2.1 lm.2.2.1 ?_
  intro h2 x2 f2
  simp only [psh_some, rL_law_430, Int.toNat_natCast, Int.natCast_nonneg, true_and, and_true, and_self, if_true, if_false, or_true, true_or, or_false, false_or, ne_eq, not_true_eq_false, not_false_eq_true, Nat.reduceLeDiff, Nat.reduceEqDiff, Nat.reduceLT, Nat.reduceAdd, Nat.reduceMul, Nat.reduceSub, Int.reduceLT, Int.reduceLE, Int.reduceEq, Int.reduceToNat, Int.reduceAdd, Int.reduceSub, Int.reduceMul, Int.reduceNeg, Int.cast_ofNat_Int, false_and, and_false]
  exact k h2 _ (lm.fin x2 f2 w')
set_option maxHeartbeats 1000000 in
theorem lk_7 {d : Nat} {Q : Option PV → Hp → Prop} {L : Nat} {xs : Nat → Int32} {h : Hp} {σ : AS} {c i : Nat} (hi : i + 6 ≤ L) (hL : L ≤ 3072) (li : LI L xs h σ c) (k : ∀ h' σ', LI L xs h' σ' (c + 1) → WP (d + 80) mL_law 1600 [some (.inr (.inr 91)), some (.inr (.inr 200)), some (.inr (.inr 294)), some (.inl (i : Int))] [] h' Q) : WP (d + 80) mL_law 435 [some (.inr (.inr 91)), some (.inr (.inr 200)), some (.inr (.inr 294)), some (.inl (i : Int))] [] h Q := by
  obtain ⟨e1, l1⟩ := iw_1 hi hL
  have K := li.2.2.2.1
  have I := li.2.2.2.2.1
  have K2 := li.1.1.1
  simp only [rL_law_435, rL_law_436, rL_law_437, rL_law_438, rL_law_439, rL_law_440, rL_law_441, K, I, Cs_K200 K2, Cs_R200_0 K2, Cs_R200_1 K2, Cs_R200_2 K2, Cs_R200_3 K2, Cs_R200_4 K2, Cs_R200_5 K2, Cs_R200_6 K2, Cs_K201 K2, Cs_R201_0 K2, Cs_R201_1 K2, Cs_K202 K2, Cs_K203 K2, Cs_K211 K2, Cs_R211_0 K2, Cs_R211_1 K2, Cs_K212 K2, Cs_K213 K2, Cs_K214 K2, Cs_R214_0 K2, Cs_R214_1 K2, Cs_K215 K2, Cs_K216 K2, Cs_K217 K2, Cs_R217_0 K2, Cs_R217_1 K2, Cs_K218 K2, Cs_K219 K2, Cs_K220 K2, Cs_R220_0 K2, Cs_K221 K2, Cs_K262 K2, Cs_K271 K2, Cs_R271_0 K2, Cs_R271_1 K2, Cs_K272 K2, Cs_K276 K2, Cs_R272_0 K2, Cs_R276_0 K2, Cs_K273 K2, Cs_R273_0 K2, Cs_R273_1 K2, Cs_K274 K2, Cs_K275 K2, Cs_K277 K2, Cs_R277_0 K2, Cs_R277_1 K2, Cs_K278 K2, Cs_K279 K2, Cs_R262_0 K2, Cs_K263 K2, Cs_R263_0 K2, Cs_K264 K2, Cs_R262_1 K2, Cs_K265 K2, Cs_R265_0 K2, Cs_K266 K2, Cs_R262_2 K2, Cs_K267 K2, Cs_R267_0 K2, Cs_K268 K2, Cs_R262_3 K2, Cs_K269 K2, Cs_R269_0 K2, Cs_K270 K2, e1, l1, Int.toNat_natCast, Int.natCast_nonneg, true_and, and_true, and_self, if_true, if_false, or_true, true_or, or_false, false_or, ne_eq, not_true_eq_false, not_false_eq_true, Nat.reduceLeDiff, Nat.reduceEqDiff, Nat.reduceLT, Nat.reduceAdd, Nat.reduceMul, Nat.reduceSub, Int.reduceLT, Int.reduceLE, Int.reduceEq, Int.reduceToNat, Int.reduceAdd, Int.reduceSub, Int.reduceMul, Int.reduceNeg, Int.cast_ofNat_Int, false_and, and_false]
  obtain ⟨v, s', w', cs, rs⟩ := L_dive (d := d) li.2.2.1 (g := (xs (i + 1)).toInt)
  refine cs h _ li.1 li.2.2.1 ?_
  intro h1 x1 f1
  have lm := li.mid x1 f1
  have K1 := lm.2.2.2.1
  have I1 := lm.2.2.2.2.1
  have M1 := lm.2.1.1
  simp only [psh_some, rL_law_444, rL_law_445, rL_law_446, rL_law_447, rL_law_448, rL_law_449, rL_law_450, K1, I1, Md_K280 M1, e1, l1, Int.toNat_natCast, Int.natCast_nonneg, true_and, and_true, and_self, if_true, if_false, or_true, true_or, or_false, false_or, ne_eq, not_true_eq_false, not_false_eq_true, Nat.reduceLeDiff, Nat.reduceEqDiff, Nat.reduceLT, Nat.reduceAdd, Nat.reduceMul, Nat.reduceSub, Int.reduceLT, Int.reduceLE, Int.reduceEq, Int.reduceToNat, Int.reduceAdd, Int.reduceSub, Int.reduceMul, Int.reduceNeg, Int.cast_ofNat_Int, false_and, and_false]
  refine rs h1 _ lm.2.1 lm.2.2.1 ?_
  intro h2 x2 f2
  simp only [psh_some, rL_law_453, Int.toNat_natCast, Int.natCast_nonneg, true_and, and_true, and_self, if_true, if_false, or_true, true_or, or_false, false_or, ne_eq, not_true_eq_false, not_false_eq_true, Nat.reduceLeDiff, Nat.reduceEqDiff, Nat.reduceLT, Nat.reduceAdd, Nat.reduceMul, Nat.reduceSub, Int.reduceLT, Int.reduceLE, Int.reduceEq, Int.reduceToNat, Int.reduceAdd, Int.reduceSub, Int.reduceMul, Int.reduceNeg, Int.cast_ofNat_Int, false_and, and_false]
  exact k h2 _ (lm.fin x2 f2 w')
set_option maxHeartbeats 1000000 in
theorem lk_8 {d : Nat} {Q : Option PV → Hp → Prop} {L : Nat} {xs : Nat → Int32} {h : Hp} {σ : AS} {c i : Nat} (hi : i + 6 ≤ L) (hL : L ≤ 3072) (li : LI L xs h σ c) (k : ∀ h' σ', LI L xs h' σ' (c + 1) → WP (d + 80) mL_law 1600 [some (.inr (.inr 91)), some (.inr (.inr 200)), some (.inr (.inr 294)), some (.inl (i : Int))] [] h' Q) : WP (d + 80) mL_law 458 [some (.inr (.inr 91)), some (.inr (.inr 200)), some (.inr (.inr 294)), some (.inl (i : Int))] [] h Q := by
  obtain ⟨e1, l1⟩ := iw_1 hi hL
  obtain ⟨e2, l2⟩ := iw_2 hi hL
  have K := li.2.2.2.1
  have I := li.2.2.2.2.1
  have K2 := li.1.1.1
  simp only [rL_law_458, rL_law_459, rL_law_460, rL_law_461, rL_law_462, rL_law_463, rL_law_464, rL_law_465, rL_law_466, rL_law_467, rL_law_468, rL_law_469, K, I, Cs_K200 K2, Cs_R200_0 K2, Cs_R200_1 K2, Cs_R200_2 K2, Cs_R200_3 K2, Cs_R200_4 K2, Cs_R200_5 K2, Cs_R200_6 K2, Cs_K201 K2, Cs_R201_0 K2, Cs_R201_1 K2, Cs_K202 K2, Cs_K203 K2, Cs_K211 K2, Cs_R211_0 K2, Cs_R211_1 K2, Cs_K212 K2, Cs_K213 K2, Cs_K214 K2, Cs_R214_0 K2, Cs_R214_1 K2, Cs_K215 K2, Cs_K216 K2, Cs_K217 K2, Cs_R217_0 K2, Cs_R217_1 K2, Cs_K218 K2, Cs_K219 K2, Cs_K220 K2, Cs_R220_0 K2, Cs_K221 K2, Cs_K262 K2, Cs_K271 K2, Cs_R271_0 K2, Cs_R271_1 K2, Cs_K272 K2, Cs_K276 K2, Cs_R272_0 K2, Cs_R276_0 K2, Cs_K273 K2, Cs_R273_0 K2, Cs_R273_1 K2, Cs_K274 K2, Cs_K275 K2, Cs_K277 K2, Cs_R277_0 K2, Cs_R277_1 K2, Cs_K278 K2, Cs_K279 K2, Cs_R262_0 K2, Cs_K263 K2, Cs_R263_0 K2, Cs_K264 K2, Cs_R262_1 K2, Cs_K265 K2, Cs_R265_0 K2, Cs_K266 K2, Cs_R262_2 K2, Cs_K267 K2, Cs_R267_0 K2, Cs_K268 K2, Cs_R262_3 K2, Cs_K269 K2, Cs_R269_0 K2, Cs_K270 K2, e1, l1, e2, l2, Int.toNat_natCast, Int.natCast_nonneg, true_and, and_true, and_self, if_true, if_false, or_true, true_or, or_false, false_or, ne_eq, not_true_eq_false, not_false_eq_true, Nat.reduceLeDiff, Nat.reduceEqDiff, Nat.reduceLT, Nat.reduceAdd, Nat.reduceMul, Nat.reduceSub, Int.reduceLT, Int.reduceLE, Int.reduceEq, Int.reduceToNat, Int.reduceAdd, Int.reduceSub, Int.reduceMul, Int.reduceNeg, Int.cast_ofNat_Int, false_and, and_false]
  obtain ⟨v, s', w', cs, rs⟩ := L_say (d := d) li.2.2.1 (g := (xs (i + 1)).toInt) (n := (xs (i + 2)).toInt)
  refine cs h _ li.1 li.2.2.1 ?_
  intro h1 x1 f1
  have lm := li.mid x1 f1
  have K1 := lm.2.2.2.1
  have I1 := lm.2.2.2.2.1
  have M1 := lm.2.1.1
  simp only [psh_some, rL_law_472, rL_law_473, rL_law_474, rL_law_475, rL_law_476, rL_law_477, rL_law_478, rL_law_479, rL_law_480, rL_law_481, rL_law_482, rL_law_483, K1, I1, Md_K280 M1, e1, l1, e2, l2, Int.toNat_natCast, Int.natCast_nonneg, true_and, and_true, and_self, if_true, if_false, or_true, true_or, or_false, false_or, ne_eq, not_true_eq_false, not_false_eq_true, Nat.reduceLeDiff, Nat.reduceEqDiff, Nat.reduceLT, Nat.reduceAdd, Nat.reduceMul, Nat.reduceSub, Int.reduceLT, Int.reduceLE, Int.reduceEq, Int.reduceToNat, Int.reduceAdd, Int.reduceSub, Int.reduceMul, Int.reduceNeg, Int.cast_ofNat_Int, false_and, and_false]
  refine rs h1 _ lm.2.1 lm.2.2.1 ?_
  intro h2 x2 f2
  simp only [psh_some, rL_law_486, Int.toNat_natCast, Int.natCast_nonneg, true_and, and_true, and_self, if_true, if_false, or_true, true_or, or_false, false_or, ne_eq, not_true_eq_false, not_false_eq_true, Nat.reduceLeDiff, Nat.reduceEqDiff, Nat.reduceLT, Nat.reduceAdd, Nat.reduceMul, Nat.reduceSub, Int.reduceLT, Int.reduceLE, Int.reduceEq, Int.reduceToNat, Int.reduceAdd, Int.reduceSub, Int.reduceMul, Int.reduceNeg, Int.cast_ofNat_Int, false_and, and_false]
  exact k h2 _ (lm.fin x2 f2 w')
set_option maxHeartbeats 1000000 in
theorem lk_9 {d : Nat} {Q : Option PV → Hp → Prop} {L : Nat} {xs : Nat → Int32} {h : Hp} {σ : AS} {c i : Nat} (hi : i + 6 ≤ L) (hL : L ≤ 3072) (li : LI L xs h σ c) (k : ∀ h' σ', LI L xs h' σ' (c + 1) → WP (d + 80) mL_law 1600 [some (.inr (.inr 91)), some (.inr (.inr 200)), some (.inr (.inr 294)), some (.inl (i : Int))] [] h' Q) : WP (d + 80) mL_law 491 [some (.inr (.inr 91)), some (.inr (.inr 200)), some (.inr (.inr 294)), some (.inl (i : Int))] [] h Q := by
  obtain ⟨e1, l1⟩ := iw_1 hi hL
  have K := li.2.2.2.1
  have I := li.2.2.2.2.1
  have K2 := li.1.1.1
  simp only [rL_law_491, rL_law_492, rL_law_493, rL_law_494, rL_law_495, rL_law_496, rL_law_497, K, I, Cs_K200 K2, Cs_R200_0 K2, Cs_R200_1 K2, Cs_R200_2 K2, Cs_R200_3 K2, Cs_R200_4 K2, Cs_R200_5 K2, Cs_R200_6 K2, Cs_K201 K2, Cs_R201_0 K2, Cs_R201_1 K2, Cs_K202 K2, Cs_K203 K2, Cs_K211 K2, Cs_R211_0 K2, Cs_R211_1 K2, Cs_K212 K2, Cs_K213 K2, Cs_K214 K2, Cs_R214_0 K2, Cs_R214_1 K2, Cs_K215 K2, Cs_K216 K2, Cs_K217 K2, Cs_R217_0 K2, Cs_R217_1 K2, Cs_K218 K2, Cs_K219 K2, Cs_K220 K2, Cs_R220_0 K2, Cs_K221 K2, Cs_K262 K2, Cs_K271 K2, Cs_R271_0 K2, Cs_R271_1 K2, Cs_K272 K2, Cs_K276 K2, Cs_R272_0 K2, Cs_R276_0 K2, Cs_K273 K2, Cs_R273_0 K2, Cs_R273_1 K2, Cs_K274 K2, Cs_K275 K2, Cs_K277 K2, Cs_R277_0 K2, Cs_R277_1 K2, Cs_K278 K2, Cs_K279 K2, Cs_R262_0 K2, Cs_K263 K2, Cs_R263_0 K2, Cs_K264 K2, Cs_R262_1 K2, Cs_K265 K2, Cs_R265_0 K2, Cs_K266 K2, Cs_R262_2 K2, Cs_K267 K2, Cs_R267_0 K2, Cs_K268 K2, Cs_R262_3 K2, Cs_K269 K2, Cs_R269_0 K2, Cs_K270 K2, e1, l1, Int.toNat_natCast, Int.natCast_nonneg, true_and, and_true, and_self, if_true, if_false, or_true, true_or, or_false, false_or, ne_eq, not_true_eq_false, not_false_eq_true, Nat.reduceLeDiff, Nat.reduceEqDiff, Nat.reduceLT, Nat.reduceAdd, Nat.reduceMul, Nat.reduceSub, Int.reduceLT, Int.reduceLE, Int.reduceEq, Int.reduceToNat, Int.reduceAdd, Int.reduceSub, Int.reduceMul, Int.reduceNeg, Int.cast_ofNat_Int, false_and, and_false]
  obtain ⟨v, s', w', cs, rs⟩ := L_wipe (d := d) li.2.2.1 (t := (xs (i + 1)).toInt)
  refine cs h _ li.1 li.2.2.1 ?_
  intro h1 x1 f1
  have lm := li.mid x1 f1
  have K1 := lm.2.2.2.1
  have I1 := lm.2.2.2.2.1
  have M1 := lm.2.1.1
  simp only [psh_some, rL_law_500, rL_law_501, rL_law_502, rL_law_503, rL_law_504, rL_law_505, rL_law_506, K1, I1, Md_K280 M1, e1, l1, Int.toNat_natCast, Int.natCast_nonneg, true_and, and_true, and_self, if_true, if_false, or_true, true_or, or_false, false_or, ne_eq, not_true_eq_false, not_false_eq_true, Nat.reduceLeDiff, Nat.reduceEqDiff, Nat.reduceLT, Nat.reduceAdd, Nat.reduceMul, Nat.reduceSub, Int.reduceLT, Int.reduceLE, Int.reduceEq, Int.reduceToNat, Int.reduceAdd, Int.reduceSub, Int.reduceMul, Int.reduceNeg, Int.cast_ofNat_Int, false_and, and_false]
  refine rs h1 _ lm.2.1 lm.2.2.1 ?_
  intro h2 x2 f2
  simp only [psh_some, rL_law_509, Int.toNat_natCast, Int.natCast_nonneg, true_and, and_true, and_self, if_true, if_false, or_true, true_or, or_false, false_or, ne_eq, not_true_eq_false, not_false_eq_true, Nat.reduceLeDiff, Nat.reduceEqDiff, Nat.reduceLT, Nat.reduceAdd, Nat.reduceMul, Nat.reduceSub, Int.reduceLT, Int.reduceLE, Int.reduceEq, Int.reduceToNat, Int.reduceAdd, Int.reduceSub, Int.reduceMul, Int.reduceNeg, Int.cast_ofNat_Int, false_and, and_false]
  exact k h2 _ (lm.fin x2 f2 w')
set_option maxHeartbeats 1000000 in
theorem lk_10 {d : Nat} {Q : Option PV → Hp → Prop} {L : Nat} {xs : Nat → Int32} {h : Hp} {σ : AS} {c i : Nat} (hi : i + 6 ≤ L) (hL : L ≤ 3072) (li : LI L xs h σ c) (k : ∀ h' σ', LI L xs h' σ' (c + 1) → WP (d + 80) mL_law 1600 [some (.inr (.inr 91)), some (.inr (.inr 200)), some (.inr (.inr 294)), some (.inl (i : Int))] [] h' Q) : WP (d + 80) mL_law 514 [some (.inr (.inr 91)), some (.inr (.inr 200)), some (.inr (.inr 294)), some (.inl (i : Int))] [] h Q := by
  obtain ⟨e1, l1⟩ := iw_1 hi hL
  obtain ⟨e2, l2⟩ := iw_2 hi hL
  have K := li.2.2.2.1
  have I := li.2.2.2.2.1
  have K2 := li.1.1.1
  simp only [rL_law_514, rL_law_515, rL_law_516, rL_law_517, rL_law_518, rL_law_519, rL_law_520, rL_law_521, rL_law_522, rL_law_523, rL_law_524, rL_law_525, K, I, Cs_K200 K2, Cs_R200_0 K2, Cs_R200_1 K2, Cs_R200_2 K2, Cs_R200_3 K2, Cs_R200_4 K2, Cs_R200_5 K2, Cs_R200_6 K2, Cs_K201 K2, Cs_R201_0 K2, Cs_R201_1 K2, Cs_K202 K2, Cs_K203 K2, Cs_K211 K2, Cs_R211_0 K2, Cs_R211_1 K2, Cs_K212 K2, Cs_K213 K2, Cs_K214 K2, Cs_R214_0 K2, Cs_R214_1 K2, Cs_K215 K2, Cs_K216 K2, Cs_K217 K2, Cs_R217_0 K2, Cs_R217_1 K2, Cs_K218 K2, Cs_K219 K2, Cs_K220 K2, Cs_R220_0 K2, Cs_K221 K2, Cs_K262 K2, Cs_K271 K2, Cs_R271_0 K2, Cs_R271_1 K2, Cs_K272 K2, Cs_K276 K2, Cs_R272_0 K2, Cs_R276_0 K2, Cs_K273 K2, Cs_R273_0 K2, Cs_R273_1 K2, Cs_K274 K2, Cs_K275 K2, Cs_K277 K2, Cs_R277_0 K2, Cs_R277_1 K2, Cs_K278 K2, Cs_K279 K2, Cs_R262_0 K2, Cs_K263 K2, Cs_R263_0 K2, Cs_K264 K2, Cs_R262_1 K2, Cs_K265 K2, Cs_R265_0 K2, Cs_K266 K2, Cs_R262_2 K2, Cs_K267 K2, Cs_R267_0 K2, Cs_K268 K2, Cs_R262_3 K2, Cs_K269 K2, Cs_R269_0 K2, Cs_K270 K2, e1, l1, e2, l2, Int.toNat_natCast, Int.natCast_nonneg, true_and, and_true, and_self, if_true, if_false, or_true, true_or, or_false, false_or, ne_eq, not_true_eq_false, not_false_eq_true, Nat.reduceLeDiff, Nat.reduceEqDiff, Nat.reduceLT, Nat.reduceAdd, Nat.reduceMul, Nat.reduceSub, Int.reduceLT, Int.reduceLE, Int.reduceEq, Int.reduceToNat, Int.reduceAdd, Int.reduceSub, Int.reduceMul, Int.reduceNeg, Int.cast_ofNat_Int, false_and, and_false]
  obtain ⟨v, s', w', cs, rs⟩ := L_breath (d := d) li.2.2.1 (g := (xs (i + 1)).toInt) (n := (xs (i + 2)).toInt)
  refine cs h _ li.1 li.2.2.1 ?_
  intro h1 x1 f1
  have lm := li.mid x1 f1
  have K1 := lm.2.2.2.1
  have I1 := lm.2.2.2.2.1
  have M1 := lm.2.1.1
  simp only [psh_some, rL_law_528, rL_law_529, rL_law_530, rL_law_531, rL_law_532, rL_law_533, rL_law_534, rL_law_535, rL_law_536, rL_law_537, rL_law_538, rL_law_539, K1, I1, Md_K280 M1, e1, l1, e2, l2, Int.toNat_natCast, Int.natCast_nonneg, true_and, and_true, and_self, if_true, if_false, or_true, true_or, or_false, false_or, ne_eq, not_true_eq_false, not_false_eq_true, Nat.reduceLeDiff, Nat.reduceEqDiff, Nat.reduceLT, Nat.reduceAdd, Nat.reduceMul, Nat.reduceSub, Int.reduceLT, Int.reduceLE, Int.reduceEq, Int.reduceToNat, Int.reduceAdd, Int.reduceSub, Int.reduceMul, Int.reduceNeg, Int.cast_ofNat_Int, false_and, and_false]
  refine rs h1 _ lm.2.1 lm.2.2.1 ?_
  intro h2 x2 f2
  simp only [psh_some, rL_law_542, Int.toNat_natCast, Int.natCast_nonneg, true_and, and_true, and_self, if_true, if_false, or_true, true_or, or_false, false_or, ne_eq, not_true_eq_false, not_false_eq_true, Nat.reduceLeDiff, Nat.reduceEqDiff, Nat.reduceLT, Nat.reduceAdd, Nat.reduceMul, Nat.reduceSub, Int.reduceLT, Int.reduceLE, Int.reduceEq, Int.reduceToNat, Int.reduceAdd, Int.reduceSub, Int.reduceMul, Int.reduceNeg, Int.cast_ofNat_Int, false_and, and_false]
  exact k h2 _ (lm.fin x2 f2 w')
set_option maxHeartbeats 1000000 in
theorem lk_11 {d : Nat} {Q : Option PV → Hp → Prop} {L : Nat} {xs : Nat → Int32} {h : Hp} {σ : AS} {c i : Nat} (hi : i + 6 ≤ L) (hL : L ≤ 3072) (li : LI L xs h σ c) (k : ∀ h' σ', LI L xs h' σ' (c + 1) → WP (d + 80) mL_law 1600 [some (.inr (.inr 91)), some (.inr (.inr 200)), some (.inr (.inr 294)), some (.inl (i : Int))] [] h' Q) : WP (d + 80) mL_law 547 [some (.inr (.inr 91)), some (.inr (.inr 200)), some (.inr (.inr 294)), some (.inl (i : Int))] [] h Q := by
  obtain ⟨e1, l1⟩ := iw_1 hi hL
  obtain ⟨e2, l2⟩ := iw_2 hi hL
  have K := li.2.2.2.1
  have I := li.2.2.2.2.1
  have K2 := li.1.1.1
  simp only [rL_law_547, rL_law_548, rL_law_549, rL_law_550, rL_law_551, rL_law_552, rL_law_553, rL_law_554, rL_law_555, rL_law_556, rL_law_557, rL_law_558, K, I, Cs_K200 K2, Cs_R200_0 K2, Cs_R200_1 K2, Cs_R200_2 K2, Cs_R200_3 K2, Cs_R200_4 K2, Cs_R200_5 K2, Cs_R200_6 K2, Cs_K201 K2, Cs_R201_0 K2, Cs_R201_1 K2, Cs_K202 K2, Cs_K203 K2, Cs_K211 K2, Cs_R211_0 K2, Cs_R211_1 K2, Cs_K212 K2, Cs_K213 K2, Cs_K214 K2, Cs_R214_0 K2, Cs_R214_1 K2, Cs_K215 K2, Cs_K216 K2, Cs_K217 K2, Cs_R217_0 K2, Cs_R217_1 K2, Cs_K218 K2, Cs_K219 K2, Cs_K220 K2, Cs_R220_0 K2, Cs_K221 K2, Cs_K262 K2, Cs_K271 K2, Cs_R271_0 K2, Cs_R271_1 K2, Cs_K272 K2, Cs_K276 K2, Cs_R272_0 K2, Cs_R276_0 K2, Cs_K273 K2, Cs_R273_0 K2, Cs_R273_1 K2, Cs_K274 K2, Cs_K275 K2, Cs_K277 K2, Cs_R277_0 K2, Cs_R277_1 K2, Cs_K278 K2, Cs_K279 K2, Cs_R262_0 K2, Cs_K263 K2, Cs_R263_0 K2, Cs_K264 K2, Cs_R262_1 K2, Cs_K265 K2, Cs_R265_0 K2, Cs_K266 K2, Cs_R262_2 K2, Cs_K267 K2, Cs_R267_0 K2, Cs_K268 K2, Cs_R262_3 K2, Cs_K269 K2, Cs_R269_0 K2, Cs_K270 K2, e1, l1, e2, l2, Int.toNat_natCast, Int.natCast_nonneg, true_and, and_true, and_self, if_true, if_false, or_true, true_or, or_false, false_or, ne_eq, not_true_eq_false, not_false_eq_true, Nat.reduceLeDiff, Nat.reduceEqDiff, Nat.reduceLT, Nat.reduceAdd, Nat.reduceMul, Nat.reduceSub, Int.reduceLT, Int.reduceLE, Int.reduceEq, Int.reduceToNat, Int.reduceAdd, Int.reduceSub, Int.reduceMul, Int.reduceNeg, Int.cast_ofNat_Int, false_and, and_false]
  obtain ⟨v, s', w', cs, rs⟩ := L_bold (d := d) li.2.2.1 (g := (xs (i + 1)).toInt) (n := (xs (i + 2)).toInt)
  refine cs h _ li.1 li.2.2.1 ?_
  intro h1 x1 f1
  have lm := li.mid x1 f1
  have K1 := lm.2.2.2.1
  have I1 := lm.2.2.2.2.1
  have M1 := lm.2.1.1
  simp only [psh_some, rL_law_561, rL_law_562, rL_law_563, rL_law_564, rL_law_565, rL_law_566, rL_law_567, rL_law_568, rL_law_569, rL_law_570, rL_law_571, rL_law_572, K1, I1, Md_K280 M1, e1, l1, e2, l2, Int.toNat_natCast, Int.natCast_nonneg, true_and, and_true, and_self, if_true, if_false, or_true, true_or, or_false, false_or, ne_eq, not_true_eq_false, not_false_eq_true, Nat.reduceLeDiff, Nat.reduceEqDiff, Nat.reduceLT, Nat.reduceAdd, Nat.reduceMul, Nat.reduceSub, Int.reduceLT, Int.reduceLE, Int.reduceEq, Int.reduceToNat, Int.reduceAdd, Int.reduceSub, Int.reduceMul, Int.reduceNeg, Int.cast_ofNat_Int, false_and, and_false]
  refine rs h1 _ lm.2.1 lm.2.2.1 ?_
  intro h2 x2 f2
  simp only [psh_some, rL_law_575, Int.toNat_natCast, Int.natCast_nonneg, true_and, and_true, and_self, if_true, if_false, or_true, true_or, or_false, false_or, ne_eq, not_true_eq_false, not_false_eq_true, Nat.reduceLeDiff, Nat.reduceEqDiff, Nat.reduceLT, Nat.reduceAdd, Nat.reduceMul, Nat.reduceSub, Int.reduceLT, Int.reduceLE, Int.reduceEq, Int.reduceToNat, Int.reduceAdd, Int.reduceSub, Int.reduceMul, Int.reduceNeg, Int.cast_ofNat_Int, false_and, and_false]
  exact k h2 _ (lm.fin x2 f2 w')
set_option maxHeartbeats 1000000 in
theorem lk_12 {d : Nat} {Q : Option PV → Hp → Prop} {L : Nat} {xs : Nat → Int32} {h : Hp} {σ : AS} {c i : Nat} (hi : i + 6 ≤ L) (hL : L ≤ 3072) (li : LI L xs h σ c) (k : ∀ h' σ', LI L xs h' σ' (c + 1) → WP (d + 80) mL_law 1600 [some (.inr (.inr 91)), some (.inr (.inr 200)), some (.inr (.inr 294)), some (.inl (i : Int))] [] h' Q) : WP (d + 80) mL_law 580 [some (.inr (.inr 91)), some (.inr (.inr 200)), some (.inr (.inr 294)), some (.inl (i : Int))] [] h Q := by
  obtain ⟨e1, l1⟩ := iw_1 hi hL
  have K := li.2.2.2.1
  have I := li.2.2.2.2.1
  have K2 := li.1.1.1
  simp only [rL_law_580, rL_law_581, rL_law_582, rL_law_583, rL_law_584, rL_law_585, rL_law_586, K, I, Cs_K200 K2, Cs_R200_0 K2, Cs_R200_1 K2, Cs_R200_2 K2, Cs_R200_3 K2, Cs_R200_4 K2, Cs_R200_5 K2, Cs_R200_6 K2, Cs_K201 K2, Cs_R201_0 K2, Cs_R201_1 K2, Cs_K202 K2, Cs_K203 K2, Cs_K211 K2, Cs_R211_0 K2, Cs_R211_1 K2, Cs_K212 K2, Cs_K213 K2, Cs_K214 K2, Cs_R214_0 K2, Cs_R214_1 K2, Cs_K215 K2, Cs_K216 K2, Cs_K217 K2, Cs_R217_0 K2, Cs_R217_1 K2, Cs_K218 K2, Cs_K219 K2, Cs_K220 K2, Cs_R220_0 K2, Cs_K221 K2, Cs_K262 K2, Cs_K271 K2, Cs_R271_0 K2, Cs_R271_1 K2, Cs_K272 K2, Cs_K276 K2, Cs_R272_0 K2, Cs_R276_0 K2, Cs_K273 K2, Cs_R273_0 K2, Cs_R273_1 K2, Cs_K274 K2, Cs_K275 K2, Cs_K277 K2, Cs_R277_0 K2, Cs_R277_1 K2, Cs_K278 K2, Cs_K279 K2, Cs_R262_0 K2, Cs_K263 K2, Cs_R263_0 K2, Cs_K264 K2, Cs_R262_1 K2, Cs_K265 K2, Cs_R265_0 K2, Cs_K266 K2, Cs_R262_2 K2, Cs_K267 K2, Cs_R267_0 K2, Cs_K268 K2, Cs_R262_3 K2, Cs_K269 K2, Cs_R269_0 K2, Cs_K270 K2, e1, l1, Int.toNat_natCast, Int.natCast_nonneg, true_and, and_true, and_self, if_true, if_false, or_true, true_or, or_false, false_or, ne_eq, not_true_eq_false, not_false_eq_true, Nat.reduceLeDiff, Nat.reduceEqDiff, Nat.reduceLT, Nat.reduceAdd, Nat.reduceMul, Nat.reduceSub, Int.reduceLT, Int.reduceLE, Int.reduceEq, Int.reduceToNat, Int.reduceAdd, Int.reduceSub, Int.reduceMul, Int.reduceNeg, Int.cast_ofNat_Int, false_and, and_false]
  obtain ⟨v, s', w', cs, rs⟩ := L_undo (d := d) li.2.2.1 (n := (xs (i + 1)).toInt)
  refine cs h _ li.1 li.2.2.1 ?_
  intro h1 x1 f1
  have lm := li.mid x1 f1
  have K1 := lm.2.2.2.1
  have I1 := lm.2.2.2.2.1
  have M1 := lm.2.1.1
  simp only [psh_some, rL_law_589, rL_law_590, rL_law_591, rL_law_592, rL_law_593, rL_law_594, rL_law_595, K1, I1, Md_K280 M1, e1, l1, Int.toNat_natCast, Int.natCast_nonneg, true_and, and_true, and_self, if_true, if_false, or_true, true_or, or_false, false_or, ne_eq, not_true_eq_false, not_false_eq_true, Nat.reduceLeDiff, Nat.reduceEqDiff, Nat.reduceLT, Nat.reduceAdd, Nat.reduceMul, Nat.reduceSub, Int.reduceLT, Int.reduceLE, Int.reduceEq, Int.reduceToNat, Int.reduceAdd, Int.reduceSub, Int.reduceMul, Int.reduceNeg, Int.cast_ofNat_Int, false_and, and_false]
  refine rs h1 _ lm.2.1 lm.2.2.1 ?_
  intro h2 x2 f2
  simp only [psh_some, rL_law_598, Int.toNat_natCast, Int.natCast_nonneg, true_and, and_true, and_self, if_true, if_false, or_true, true_or, or_false, false_or, ne_eq, not_true_eq_false, not_false_eq_true, Nat.reduceLeDiff, Nat.reduceEqDiff, Nat.reduceLT, Nat.reduceAdd, Nat.reduceMul, Nat.reduceSub, Int.reduceLT, Int.reduceLE, Int.reduceEq, Int.reduceToNat, Int.reduceAdd, Int.reduceSub, Int.reduceMul, Int.reduceNeg, Int.cast_ofNat_Int, false_and, and_false]
  exact k h2 _ (lm.fin x2 f2 w')
set_option maxHeartbeats 1000000 in
theorem lk_13 {d : Nat} {Q : Option PV → Hp → Prop} {L : Nat} {xs : Nat → Int32} {h : Hp} {σ : AS} {c i : Nat} (hi : i + 6 ≤ L) (hL : L ≤ 3072) (li : LI L xs h σ c) (k : ∀ h' σ', LI L xs h' σ' (c + 1) → WP (d + 80) mL_law 1600 [some (.inr (.inr 91)), some (.inr (.inr 200)), some (.inr (.inr 294)), some (.inl (i : Int))] [] h' Q) : WP (d + 80) mL_law 603 [some (.inr (.inr 91)), some (.inr (.inr 200)), some (.inr (.inr 294)), some (.inl (i : Int))] [] h Q := by
  obtain ⟨e1, l1⟩ := iw_1 hi hL
  obtain ⟨e2, l2⟩ := iw_2 hi hL
  have K := li.2.2.2.1
  have I := li.2.2.2.2.1
  have K2 := li.1.1.1
  simp only [rL_law_603, rL_law_604, rL_law_605, rL_law_606, rL_law_607, rL_law_608, rL_law_609, rL_law_610, rL_law_611, rL_law_612, rL_law_613, rL_law_614, K, I, Cs_K200 K2, Cs_R200_0 K2, Cs_R200_1 K2, Cs_R200_2 K2, Cs_R200_3 K2, Cs_R200_4 K2, Cs_R200_5 K2, Cs_R200_6 K2, Cs_K201 K2, Cs_R201_0 K2, Cs_R201_1 K2, Cs_K202 K2, Cs_K203 K2, Cs_K211 K2, Cs_R211_0 K2, Cs_R211_1 K2, Cs_K212 K2, Cs_K213 K2, Cs_K214 K2, Cs_R214_0 K2, Cs_R214_1 K2, Cs_K215 K2, Cs_K216 K2, Cs_K217 K2, Cs_R217_0 K2, Cs_R217_1 K2, Cs_K218 K2, Cs_K219 K2, Cs_K220 K2, Cs_R220_0 K2, Cs_K221 K2, Cs_K262 K2, Cs_K271 K2, Cs_R271_0 K2, Cs_R271_1 K2, Cs_K272 K2, Cs_K276 K2, Cs_R272_0 K2, Cs_R276_0 K2, Cs_K273 K2, Cs_R273_0 K2, Cs_R273_1 K2, Cs_K274 K2, Cs_K275 K2, Cs_K277 K2, Cs_R277_0 K2, Cs_R277_1 K2, Cs_K278 K2, Cs_K279 K2, Cs_R262_0 K2, Cs_K263 K2, Cs_R263_0 K2, Cs_K264 K2, Cs_R262_1 K2, Cs_K265 K2, Cs_R265_0 K2, Cs_K266 K2, Cs_R262_2 K2, Cs_K267 K2, Cs_R267_0 K2, Cs_K268 K2, Cs_R262_3 K2, Cs_K269 K2, Cs_R269_0 K2, Cs_K270 K2, e1, l1, e2, l2, Int.toNat_natCast, Int.natCast_nonneg, true_and, and_true, and_self, if_true, if_false, or_true, true_or, or_false, false_or, ne_eq, not_true_eq_false, not_false_eq_true, Nat.reduceLeDiff, Nat.reduceEqDiff, Nat.reduceLT, Nat.reduceAdd, Nat.reduceMul, Nat.reduceSub, Int.reduceLT, Int.reduceLE, Int.reduceEq, Int.reduceToNat, Int.reduceAdd, Int.reduceSub, Int.reduceMul, Int.reduceNeg, Int.cast_ofNat_Int, false_and, and_false]
  obtain ⟨v, s', w', cs, rs⟩ := L_judge (d := d) li.2.2.1 (t := (xs (i + 1)).toInt) (wh := (xs (i + 2)).toInt)
  refine cs h _ li.1 li.2.2.1 ?_
  intro h1 x1 f1
  have lm := li.mid x1 f1
  have K1 := lm.2.2.2.1
  have I1 := lm.2.2.2.2.1
  have M1 := lm.2.1.1
  simp only [psh_some, rL_law_617, rL_law_618, rL_law_619, rL_law_620, rL_law_621, rL_law_622, rL_law_623, rL_law_624, rL_law_625, rL_law_626, rL_law_627, rL_law_628, K1, I1, Md_K280 M1, e1, l1, e2, l2, Int.toNat_natCast, Int.natCast_nonneg, true_and, and_true, and_self, if_true, if_false, or_true, true_or, or_false, false_or, ne_eq, not_true_eq_false, not_false_eq_true, Nat.reduceLeDiff, Nat.reduceEqDiff, Nat.reduceLT, Nat.reduceAdd, Nat.reduceMul, Nat.reduceSub, Int.reduceLT, Int.reduceLE, Int.reduceEq, Int.reduceToNat, Int.reduceAdd, Int.reduceSub, Int.reduceMul, Int.reduceNeg, Int.cast_ofNat_Int, false_and, and_false]
  refine rs h1 _ lm.2.1 lm.2.2.1 ?_
  intro h2 x2 f2
  simp only [psh_some, rL_law_631, Int.toNat_natCast, Int.natCast_nonneg, true_and, and_true, and_self, if_true, if_false, or_true, true_or, or_false, false_or, ne_eq, not_true_eq_false, not_false_eq_true, Nat.reduceLeDiff, Nat.reduceEqDiff, Nat.reduceLT, Nat.reduceAdd, Nat.reduceMul, Nat.reduceSub, Int.reduceLT, Int.reduceLE, Int.reduceEq, Int.reduceToNat, Int.reduceAdd, Int.reduceSub, Int.reduceMul, Int.reduceNeg, Int.cast_ofNat_Int, false_and, and_false]
  exact k h2 _ (lm.fin x2 f2 w')
set_option maxHeartbeats 1000000 in
theorem lk_14 {d : Nat} {Q : Option PV → Hp → Prop} {L : Nat} {xs : Nat → Int32} {h : Hp} {σ : AS} {c i : Nat} (hi : i + 6 ≤ L) (hL : L ≤ 3072) (li : LI L xs h σ c) (k : ∀ h' σ', LI L xs h' σ' (c + 1) → WP (d + 80) mL_law 1600 [some (.inr (.inr 91)), some (.inr (.inr 200)), some (.inr (.inr 294)), some (.inl (i : Int))] [] h' Q) : WP (d + 80) mL_law 636 [some (.inr (.inr 91)), some (.inr (.inr 200)), some (.inr (.inr 294)), some (.inl (i : Int))] [] h Q := by
  obtain ⟨e1, l1⟩ := iw_1 hi hL
  have K := li.2.2.2.1
  have I := li.2.2.2.2.1
  have K2 := li.1.1.1
  simp only [rL_law_636, rL_law_637, rL_law_638, rL_law_639, rL_law_640, rL_law_641, rL_law_642, K, I, Cs_K200 K2, Cs_R200_0 K2, Cs_R200_1 K2, Cs_R200_2 K2, Cs_R200_3 K2, Cs_R200_4 K2, Cs_R200_5 K2, Cs_R200_6 K2, Cs_K201 K2, Cs_R201_0 K2, Cs_R201_1 K2, Cs_K202 K2, Cs_K203 K2, Cs_K211 K2, Cs_R211_0 K2, Cs_R211_1 K2, Cs_K212 K2, Cs_K213 K2, Cs_K214 K2, Cs_R214_0 K2, Cs_R214_1 K2, Cs_K215 K2, Cs_K216 K2, Cs_K217 K2, Cs_R217_0 K2, Cs_R217_1 K2, Cs_K218 K2, Cs_K219 K2, Cs_K220 K2, Cs_R220_0 K2, Cs_K221 K2, Cs_K262 K2, Cs_K271 K2, Cs_R271_0 K2, Cs_R271_1 K2, Cs_K272 K2, Cs_K276 K2, Cs_R272_0 K2, Cs_R276_0 K2, Cs_K273 K2, Cs_R273_0 K2, Cs_R273_1 K2, Cs_K274 K2, Cs_K275 K2, Cs_K277 K2, Cs_R277_0 K2, Cs_R277_1 K2, Cs_K278 K2, Cs_K279 K2, Cs_R262_0 K2, Cs_K263 K2, Cs_R263_0 K2, Cs_K264 K2, Cs_R262_1 K2, Cs_K265 K2, Cs_R265_0 K2, Cs_K266 K2, Cs_R262_2 K2, Cs_K267 K2, Cs_R267_0 K2, Cs_K268 K2, Cs_R262_3 K2, Cs_K269 K2, Cs_R269_0 K2, Cs_K270 K2, e1, l1, Int.toNat_natCast, Int.natCast_nonneg, true_and, and_true, and_self, if_true, if_false, or_true, true_or, or_false, false_or, ne_eq, not_true_eq_false, not_false_eq_true, Nat.reduceLeDiff, Nat.reduceEqDiff, Nat.reduceLT, Nat.reduceAdd, Nat.reduceMul, Nat.reduceSub, Int.reduceLT, Int.reduceLE, Int.reduceEq, Int.reduceToNat, Int.reduceAdd, Int.reduceSub, Int.reduceMul, Int.reduceNeg, Int.cast_ofNat_Int, false_and, and_false]
  obtain ⟨v, s', w', cs, rs⟩ := L_perform (d := d) li.2.2.1 (t := (xs (i + 1)).toInt)
  refine cs h _ li.1 li.2.2.1 ?_
  intro h1 x1 f1
  have lm := li.mid x1 f1
  have K1 := lm.2.2.2.1
  have I1 := lm.2.2.2.2.1
  have M1 := lm.2.1.1
  simp only [psh_some, rL_law_645, rL_law_646, rL_law_647, rL_law_648, rL_law_649, rL_law_650, rL_law_651, K1, I1, Md_K280 M1, e1, l1, Int.toNat_natCast, Int.natCast_nonneg, true_and, and_true, and_self, if_true, if_false, or_true, true_or, or_false, false_or, ne_eq, not_true_eq_false, not_false_eq_true, Nat.reduceLeDiff, Nat.reduceEqDiff, Nat.reduceLT, Nat.reduceAdd, Nat.reduceMul, Nat.reduceSub, Int.reduceLT, Int.reduceLE, Int.reduceEq, Int.reduceToNat, Int.reduceAdd, Int.reduceSub, Int.reduceMul, Int.reduceNeg, Int.cast_ofNat_Int, false_and, and_false]
  refine rs h1 _ lm.2.1 lm.2.2.1 ?_
  intro h2 x2 f2
  simp only [psh_some, rL_law_654, Int.toNat_natCast, Int.natCast_nonneg, true_and, and_true, and_self, if_true, if_false, or_true, true_or, or_false, false_or, ne_eq, not_true_eq_false, not_false_eq_true, Nat.reduceLeDiff, Nat.reduceEqDiff, Nat.reduceLT, Nat.reduceAdd, Nat.reduceMul, Nat.reduceSub, Int.reduceLT, Int.reduceLE, Int.reduceEq, Int.reduceToNat, Int.reduceAdd, Int.reduceSub, Int.reduceMul, Int.reduceNeg, Int.cast_ofNat_Int, false_and, and_false]
  exact k h2 _ (lm.fin x2 f2 w')
set_option maxHeartbeats 1000000 in
theorem lk_15 {d : Nat} {Q : Option PV → Hp → Prop} {L : Nat} {xs : Nat → Int32} {h : Hp} {σ : AS} {c i : Nat} (hi : i + 6 ≤ L) (hL : L ≤ 3072) (li : LI L xs h σ c) (k : ∀ h' σ', LI L xs h' σ' (c + 1) → WP (d + 80) mL_law 1600 [some (.inr (.inr 91)), some (.inr (.inr 200)), some (.inr (.inr 294)), some (.inl (i : Int))] [] h' Q) : WP (d + 80) mL_law 659 [some (.inr (.inr 91)), some (.inr (.inr 200)), some (.inr (.inr 294)), some (.inl (i : Int))] [] h Q := by
  obtain ⟨e1, l1⟩ := iw_1 hi hL
  obtain ⟨e2, l2⟩ := iw_2 hi hL
  have K := li.2.2.2.1
  have I := li.2.2.2.2.1
  have K2 := li.1.1.1
  simp only [rL_law_659, rL_law_660, rL_law_661, rL_law_662, rL_law_663, rL_law_664, rL_law_665, rL_law_666, rL_law_667, rL_law_668, rL_law_669, rL_law_670, K, I, Cs_K200 K2, Cs_R200_0 K2, Cs_R200_1 K2, Cs_R200_2 K2, Cs_R200_3 K2, Cs_R200_4 K2, Cs_R200_5 K2, Cs_R200_6 K2, Cs_K201 K2, Cs_R201_0 K2, Cs_R201_1 K2, Cs_K202 K2, Cs_K203 K2, Cs_K211 K2, Cs_R211_0 K2, Cs_R211_1 K2, Cs_K212 K2, Cs_K213 K2, Cs_K214 K2, Cs_R214_0 K2, Cs_R214_1 K2, Cs_K215 K2, Cs_K216 K2, Cs_K217 K2, Cs_R217_0 K2, Cs_R217_1 K2, Cs_K218 K2, Cs_K219 K2, Cs_K220 K2, Cs_R220_0 K2, Cs_K221 K2, Cs_K262 K2, Cs_K271 K2, Cs_R271_0 K2, Cs_R271_1 K2, Cs_K272 K2, Cs_K276 K2, Cs_R272_0 K2, Cs_R276_0 K2, Cs_K273 K2, Cs_R273_0 K2, Cs_R273_1 K2, Cs_K274 K2, Cs_K275 K2, Cs_K277 K2, Cs_R277_0 K2, Cs_R277_1 K2, Cs_K278 K2, Cs_K279 K2, Cs_R262_0 K2, Cs_K263 K2, Cs_R263_0 K2, Cs_K264 K2, Cs_R262_1 K2, Cs_K265 K2, Cs_R265_0 K2, Cs_K266 K2, Cs_R262_2 K2, Cs_K267 K2, Cs_R267_0 K2, Cs_K268 K2, Cs_R262_3 K2, Cs_K269 K2, Cs_R269_0 K2, Cs_K270 K2, e1, l1, e2, l2, Int.toNat_natCast, Int.natCast_nonneg, true_and, and_true, and_self, if_true, if_false, or_true, true_or, or_false, false_or, ne_eq, not_true_eq_false, not_false_eq_true, Nat.reduceLeDiff, Nat.reduceEqDiff, Nat.reduceLT, Nat.reduceAdd, Nat.reduceMul, Nat.reduceSub, Int.reduceLT, Int.reduceLE, Int.reduceEq, Int.reduceToNat, Int.reduceAdd, Int.reduceSub, Int.reduceMul, Int.reduceNeg, Int.cast_ofNat_Int, false_and, and_false]
  obtain ⟨v, s', w', cs, rs⟩ := L_summer (d := d) li.2.2.1 (sd := (xs (i + 1)).toInt) (t := (xs (i + 2)).toInt)
  refine cs h _ li.1 li.2.2.1 ?_
  intro h1 x1 f1
  have lm := li.mid x1 f1
  have K1 := lm.2.2.2.1
  have I1 := lm.2.2.2.2.1
  have M1 := lm.2.1.1
  simp only [psh_some, rL_law_673, rL_law_674, rL_law_675, rL_law_676, rL_law_677, rL_law_678, rL_law_679, rL_law_680, rL_law_681, rL_law_682, rL_law_683, rL_law_684, K1, I1, Md_K280 M1, e1, l1, e2, l2, Int.toNat_natCast, Int.natCast_nonneg, true_and, and_true, and_self, if_true, if_false, or_true, true_or, or_false, false_or, ne_eq, not_true_eq_false, not_false_eq_true, Nat.reduceLeDiff, Nat.reduceEqDiff, Nat.reduceLT, Nat.reduceAdd, Nat.reduceMul, Nat.reduceSub, Int.reduceLT, Int.reduceLE, Int.reduceEq, Int.reduceToNat, Int.reduceAdd, Int.reduceSub, Int.reduceMul, Int.reduceNeg, Int.cast_ofNat_Int, false_and, and_false]
  refine rs h1 _ lm.2.1 lm.2.2.1 ?_
  intro h2 x2 f2
  simp only [psh_some, rL_law_687, Int.toNat_natCast, Int.natCast_nonneg, true_and, and_true, and_self, if_true, if_false, or_true, true_or, or_false, false_or, ne_eq, not_true_eq_false, not_false_eq_true, Nat.reduceLeDiff, Nat.reduceEqDiff, Nat.reduceLT, Nat.reduceAdd, Nat.reduceMul, Nat.reduceSub, Int.reduceLT, Int.reduceLE, Int.reduceEq, Int.reduceToNat, Int.reduceAdd, Int.reduceSub, Int.reduceMul, Int.reduceNeg, Int.cast_ofNat_Int, false_and, and_false]
  exact k h2 _ (lm.fin x2 f2 w')
set_option maxHeartbeats 1000000 in
theorem lk_16 {d : Nat} {Q : Option PV → Hp → Prop} {L : Nat} {xs : Nat → Int32} {h : Hp} {σ : AS} {c i : Nat} (hi : i + 6 ≤ L) (hL : L ≤ 3072) (li : LI L xs h σ c) (k : ∀ h' σ', LI L xs h' σ' (c + 1) → WP (d + 80) mL_law 1600 [some (.inr (.inr 91)), some (.inr (.inr 200)), some (.inr (.inr 294)), some (.inl (i : Int))] [] h' Q) : WP (d + 80) mL_law 692 [some (.inr (.inr 91)), some (.inr (.inr 200)), some (.inr (.inr 294)), some (.inl (i : Int))] [] h Q := by
  obtain ⟨e1, l1⟩ := iw_1 hi hL
  obtain ⟨e2, l2⟩ := iw_2 hi hL
  have K := li.2.2.2.1
  have I := li.2.2.2.2.1
  have K2 := li.1.1.1
  simp only [rL_law_692, rL_law_693, rL_law_694, rL_law_695, rL_law_696, rL_law_697, rL_law_698, rL_law_699, rL_law_700, rL_law_701, rL_law_702, rL_law_703, K, I, Cs_K200 K2, Cs_R200_0 K2, Cs_R200_1 K2, Cs_R200_2 K2, Cs_R200_3 K2, Cs_R200_4 K2, Cs_R200_5 K2, Cs_R200_6 K2, Cs_K201 K2, Cs_R201_0 K2, Cs_R201_1 K2, Cs_K202 K2, Cs_K203 K2, Cs_K211 K2, Cs_R211_0 K2, Cs_R211_1 K2, Cs_K212 K2, Cs_K213 K2, Cs_K214 K2, Cs_R214_0 K2, Cs_R214_1 K2, Cs_K215 K2, Cs_K216 K2, Cs_K217 K2, Cs_R217_0 K2, Cs_R217_1 K2, Cs_K218 K2, Cs_K219 K2, Cs_K220 K2, Cs_R220_0 K2, Cs_K221 K2, Cs_K262 K2, Cs_K271 K2, Cs_R271_0 K2, Cs_R271_1 K2, Cs_K272 K2, Cs_K276 K2, Cs_R272_0 K2, Cs_R276_0 K2, Cs_K273 K2, Cs_R273_0 K2, Cs_R273_1 K2, Cs_K274 K2, Cs_K275 K2, Cs_K277 K2, Cs_R277_0 K2, Cs_R277_1 K2, Cs_K278 K2, Cs_K279 K2, Cs_R262_0 K2, Cs_K263 K2, Cs_R263_0 K2, Cs_K264 K2, Cs_R262_1 K2, Cs_K265 K2, Cs_R265_0 K2, Cs_K266 K2, Cs_R262_2 K2, Cs_K267 K2, Cs_R267_0 K2, Cs_K268 K2, Cs_R262_3 K2, Cs_K269 K2, Cs_R269_0 K2, Cs_K270 K2, e1, l1, e2, l2, Int.toNat_natCast, Int.natCast_nonneg, true_and, and_true, and_self, if_true, if_false, or_true, true_or, or_false, false_or, ne_eq, not_true_eq_false, not_false_eq_true, Nat.reduceLeDiff, Nat.reduceEqDiff, Nat.reduceLT, Nat.reduceAdd, Nat.reduceMul, Nat.reduceSub, Int.reduceLT, Int.reduceLE, Int.reduceEq, Int.reduceToNat, Int.reduceAdd, Int.reduceSub, Int.reduceMul, Int.reduceNeg, Int.cast_ofNat_Int, false_and, and_false]
  obtain ⟨v, s', w', cs, rs⟩ := L_soonest (d := d) li.2.2.1 (t := (xs (i + 1)).toInt) (s := (xs (i + 2)).toInt) (xs_i _)
  refine cs h _ li.1 li.2.2.1 ?_
  intro h1 x1 f1
  have lm := li.mid x1 f1
  have K1 := lm.2.2.2.1
  have I1 := lm.2.2.2.2.1
  have M1 := lm.2.1.1
  simp only [psh_some, rL_law_706, rL_law_707, rL_law_708, rL_law_709, rL_law_710, rL_law_711, rL_law_712, rL_law_713, rL_law_714, rL_law_715, rL_law_716, rL_law_717, K1, I1, Md_K280 M1, e1, l1, e2, l2, Int.toNat_natCast, Int.natCast_nonneg, true_and, and_true, and_self, if_true, if_false, or_true, true_or, or_false, false_or, ne_eq, not_true_eq_false, not_false_eq_true, Nat.reduceLeDiff, Nat.reduceEqDiff, Nat.reduceLT, Nat.reduceAdd, Nat.reduceMul, Nat.reduceSub, Int.reduceLT, Int.reduceLE, Int.reduceEq, Int.reduceToNat, Int.reduceAdd, Int.reduceSub, Int.reduceMul, Int.reduceNeg, Int.cast_ofNat_Int, false_and, and_false]
  refine rs h1 _ lm.2.1 lm.2.2.1 ?_
  intro h2 x2 f2
  simp only [psh_some, rL_law_720, Int.toNat_natCast, Int.natCast_nonneg, true_and, and_true, and_self, if_true, if_false, or_true, true_or, or_false, false_or, ne_eq, not_true_eq_false, not_false_eq_true, Nat.reduceLeDiff, Nat.reduceEqDiff, Nat.reduceLT, Nat.reduceAdd, Nat.reduceMul, Nat.reduceSub, Int.reduceLT, Int.reduceLE, Int.reduceEq, Int.reduceToNat, Int.reduceAdd, Int.reduceSub, Int.reduceMul, Int.reduceNeg, Int.cast_ofNat_Int, false_and, and_false]
  exact k h2 _ (lm.fin x2 f2 w')
set_option maxHeartbeats 1000000 in
theorem lk_17 {d : Nat} {Q : Option PV → Hp → Prop} {L : Nat} {xs : Nat → Int32} {h : Hp} {σ : AS} {c i : Nat} (hi : i + 6 ≤ L) (hL : L ≤ 3072) (li : LI L xs h σ c) (k : ∀ h' σ', LI L xs h' σ' (c + 1) → WP (d + 80) mL_law 1600 [some (.inr (.inr 91)), some (.inr (.inr 200)), some (.inr (.inr 294)), some (.inl (i : Int))] [] h' Q) : WP (d + 80) mL_law 725 [some (.inr (.inr 91)), some (.inr (.inr 200)), some (.inr (.inr 294)), some (.inl (i : Int))] [] h Q := by
  obtain ⟨e1, l1⟩ := iw_1 hi hL
  obtain ⟨e2, l2⟩ := iw_2 hi hL
  obtain ⟨e3, l3⟩ := iw_3 hi hL
  have K := li.2.2.2.1
  have I := li.2.2.2.2.1
  have K2 := li.1.1.1
  simp only [rL_law_725, rL_law_726, rL_law_727, rL_law_728, rL_law_729, rL_law_730, rL_law_731, rL_law_732, rL_law_733, rL_law_734, rL_law_735, rL_law_736, rL_law_737, rL_law_738, rL_law_739, rL_law_740, rL_law_741, K, I, Cs_K200 K2, Cs_R200_0 K2, Cs_R200_1 K2, Cs_R200_2 K2, Cs_R200_3 K2, Cs_R200_4 K2, Cs_R200_5 K2, Cs_R200_6 K2, Cs_K201 K2, Cs_R201_0 K2, Cs_R201_1 K2, Cs_K202 K2, Cs_K203 K2, Cs_K211 K2, Cs_R211_0 K2, Cs_R211_1 K2, Cs_K212 K2, Cs_K213 K2, Cs_K214 K2, Cs_R214_0 K2, Cs_R214_1 K2, Cs_K215 K2, Cs_K216 K2, Cs_K217 K2, Cs_R217_0 K2, Cs_R217_1 K2, Cs_K218 K2, Cs_K219 K2, Cs_K220 K2, Cs_R220_0 K2, Cs_K221 K2, Cs_K262 K2, Cs_K271 K2, Cs_R271_0 K2, Cs_R271_1 K2, Cs_K272 K2, Cs_K276 K2, Cs_R272_0 K2, Cs_R276_0 K2, Cs_K273 K2, Cs_R273_0 K2, Cs_R273_1 K2, Cs_K274 K2, Cs_K275 K2, Cs_K277 K2, Cs_R277_0 K2, Cs_R277_1 K2, Cs_K278 K2, Cs_K279 K2, Cs_R262_0 K2, Cs_K263 K2, Cs_R263_0 K2, Cs_K264 K2, Cs_R262_1 K2, Cs_K265 K2, Cs_R265_0 K2, Cs_K266 K2, Cs_R262_2 K2, Cs_K267 K2, Cs_R267_0 K2, Cs_K268 K2, Cs_R262_3 K2, Cs_K269 K2, Cs_R269_0 K2, Cs_K270 K2, e1, l1, e2, l2, e3, l3, Int.toNat_natCast, Int.natCast_nonneg, true_and, and_true, and_self, if_true, if_false, or_true, true_or, or_false, false_or, ne_eq, not_true_eq_false, not_false_eq_true, Nat.reduceLeDiff, Nat.reduceEqDiff, Nat.reduceLT, Nat.reduceAdd, Nat.reduceMul, Nat.reduceSub, Int.reduceLT, Int.reduceLE, Int.reduceEq, Int.reduceToNat, Int.reduceAdd, Int.reduceSub, Int.reduceMul, Int.reduceNeg, Int.cast_ofNat_Int, false_and, and_false]
  obtain ⟨v, s', w', cs, rs⟩ := L_way (d := d) li.2.2.1 (t := (xs (i + 1)).toInt) (s := (xs (i + 2)).toInt) (i := (xs (i + 3)).toInt) (xs_i _)
  refine cs h _ li.1 li.2.2.1 ?_
  intro h1 x1 f1
  have lm := li.mid x1 f1
  have K1 := lm.2.2.2.1
  have I1 := lm.2.2.2.2.1
  have M1 := lm.2.1.1
  simp only [psh_some, rL_law_744, rL_law_745, rL_law_746, rL_law_747, rL_law_748, rL_law_749, rL_law_750, rL_law_751, rL_law_752, rL_law_753, rL_law_754, rL_law_755, rL_law_756, rL_law_757, rL_law_758, rL_law_759, rL_law_760, K1, I1, Md_K280 M1, e1, l1, e2, l2, e3, l3, Int.toNat_natCast, Int.natCast_nonneg, true_and, and_true, and_self, if_true, if_false, or_true, true_or, or_false, false_or, ne_eq, not_true_eq_false, not_false_eq_true, Nat.reduceLeDiff, Nat.reduceEqDiff, Nat.reduceLT, Nat.reduceAdd, Nat.reduceMul, Nat.reduceSub, Int.reduceLT, Int.reduceLE, Int.reduceEq, Int.reduceToNat, Int.reduceAdd, Int.reduceSub, Int.reduceMul, Int.reduceNeg, Int.cast_ofNat_Int, false_and, and_false]
  refine rs h1 _ lm.2.1 lm.2.2.1 ?_
  intro h2 x2 f2
  simp only [psh_some, rL_law_763, Int.toNat_natCast, Int.natCast_nonneg, true_and, and_true, and_self, if_true, if_false, or_true, true_or, or_false, false_or, ne_eq, not_true_eq_false, not_false_eq_true, Nat.reduceLeDiff, Nat.reduceEqDiff, Nat.reduceLT, Nat.reduceAdd, Nat.reduceMul, Nat.reduceSub, Int.reduceLT, Int.reduceLE, Int.reduceEq, Int.reduceToNat, Int.reduceAdd, Int.reduceSub, Int.reduceMul, Int.reduceNeg, Int.cast_ofNat_Int, false_and, and_false]
  exact k h2 _ (lm.fin x2 f2 w')
set_option maxHeartbeats 1000000 in
theorem lk_18 {d : Nat} {Q : Option PV → Hp → Prop} {L : Nat} {xs : Nat → Int32} {h : Hp} {σ : AS} {c i : Nat} (hi : i + 6 ≤ L) (hL : L ≤ 3072) (li : LI L xs h σ c) (k : ∀ h' σ', LI L xs h' σ' (c + 1) → WP (d + 80) mL_law 1600 [some (.inr (.inr 91)), some (.inr (.inr 200)), some (.inr (.inr 294)), some (.inl (i : Int))] [] h' Q) : WP (d + 80) mL_law 768 [some (.inr (.inr 91)), some (.inr (.inr 200)), some (.inr (.inr 294)), some (.inl (i : Int))] [] h Q := by
  obtain ⟨e1, l1⟩ := iw_1 hi hL
  obtain ⟨e2, l2⟩ := iw_2 hi hL
  have K := li.2.2.2.1
  have I := li.2.2.2.2.1
  have K2 := li.1.1.1
  simp only [rL_law_768, rL_law_769, rL_law_770, rL_law_771, rL_law_772, rL_law_773, rL_law_774, rL_law_775, rL_law_776, rL_law_777, rL_law_778, rL_law_779, K, I, Cs_K200 K2, Cs_R200_0 K2, Cs_R200_1 K2, Cs_R200_2 K2, Cs_R200_3 K2, Cs_R200_4 K2, Cs_R200_5 K2, Cs_R200_6 K2, Cs_K201 K2, Cs_R201_0 K2, Cs_R201_1 K2, Cs_K202 K2, Cs_K203 K2, Cs_K211 K2, Cs_R211_0 K2, Cs_R211_1 K2, Cs_K212 K2, Cs_K213 K2, Cs_K214 K2, Cs_R214_0 K2, Cs_R214_1 K2, Cs_K215 K2, Cs_K216 K2, Cs_K217 K2, Cs_R217_0 K2, Cs_R217_1 K2, Cs_K218 K2, Cs_K219 K2, Cs_K220 K2, Cs_R220_0 K2, Cs_K221 K2, Cs_K262 K2, Cs_K271 K2, Cs_R271_0 K2, Cs_R271_1 K2, Cs_K272 K2, Cs_K276 K2, Cs_R272_0 K2, Cs_R276_0 K2, Cs_K273 K2, Cs_R273_0 K2, Cs_R273_1 K2, Cs_K274 K2, Cs_K275 K2, Cs_K277 K2, Cs_R277_0 K2, Cs_R277_1 K2, Cs_K278 K2, Cs_K279 K2, Cs_R262_0 K2, Cs_K263 K2, Cs_R263_0 K2, Cs_K264 K2, Cs_R262_1 K2, Cs_K265 K2, Cs_R265_0 K2, Cs_K266 K2, Cs_R262_2 K2, Cs_K267 K2, Cs_R267_0 K2, Cs_K268 K2, Cs_R262_3 K2, Cs_K269 K2, Cs_R269_0 K2, Cs_K270 K2, e1, l1, e2, l2, Int.toNat_natCast, Int.natCast_nonneg, true_and, and_true, and_self, if_true, if_false, or_true, true_or, or_false, false_or, ne_eq, not_true_eq_false, not_false_eq_true, Nat.reduceLeDiff, Nat.reduceEqDiff, Nat.reduceLT, Nat.reduceAdd, Nat.reduceMul, Nat.reduceSub, Int.reduceLT, Int.reduceLE, Int.reduceEq, Int.reduceToNat, Int.reduceAdd, Int.reduceSub, Int.reduceMul, Int.reduceNeg, Int.cast_ofNat_Int, false_and, and_false]
  obtain ⟨v, s', w', cs, rs⟩ := L_tells (d := d) li.2.2.1 (n := (xs (i + 1)).toInt) (s := (xs (i + 2)).toInt) (xs_i _)
  refine cs h _ li.1 li.2.2.1 ?_
  intro h1 x1 f1
  have lm := li.mid x1 f1
  have K1 := lm.2.2.2.1
  have I1 := lm.2.2.2.2.1
  have M1 := lm.2.1.1
  simp only [psh_some, rL_law_782, rL_law_783, rL_law_784, rL_law_785, rL_law_786, rL_law_787, rL_law_788, rL_law_789, rL_law_790, rL_law_791, rL_law_792, rL_law_793, K1, I1, Md_K280 M1, e1, l1, e2, l2, Int.toNat_natCast, Int.natCast_nonneg, true_and, and_true, and_self, if_true, if_false, or_true, true_or, or_false, false_or, ne_eq, not_true_eq_false, not_false_eq_true, Nat.reduceLeDiff, Nat.reduceEqDiff, Nat.reduceLT, Nat.reduceAdd, Nat.reduceMul, Nat.reduceSub, Int.reduceLT, Int.reduceLE, Int.reduceEq, Int.reduceToNat, Int.reduceAdd, Int.reduceSub, Int.reduceMul, Int.reduceNeg, Int.cast_ofNat_Int, false_and, and_false]
  refine rs h1 _ lm.2.1 lm.2.2.1 ?_
  intro h2 x2 f2
  simp only [psh_some, rL_law_796, Int.toNat_natCast, Int.natCast_nonneg, true_and, and_true, and_self, if_true, if_false, or_true, true_or, or_false, false_or, ne_eq, not_true_eq_false, not_false_eq_true, Nat.reduceLeDiff, Nat.reduceEqDiff, Nat.reduceLT, Nat.reduceAdd, Nat.reduceMul, Nat.reduceSub, Int.reduceLT, Int.reduceLE, Int.reduceEq, Int.reduceToNat, Int.reduceAdd, Int.reduceSub, Int.reduceMul, Int.reduceNeg, Int.cast_ofNat_Int, false_and, and_false]
  exact k h2 _ (lm.fin x2 f2 w')
set_option maxHeartbeats 1000000 in
theorem lk_19 {d : Nat} {Q : Option PV → Hp → Prop} {L : Nat} {xs : Nat → Int32} {h : Hp} {σ : AS} {c i : Nat} (hi : i + 6 ≤ L) (hL : L ≤ 3072) (li : LI L xs h σ c) (k : ∀ h' σ', LI L xs h' σ' (c + 1) → WP (d + 80) mL_law 1600 [some (.inr (.inr 91)), some (.inr (.inr 200)), some (.inr (.inr 294)), some (.inl (i : Int))] [] h' Q) : WP (d + 80) mL_law 801 [some (.inr (.inr 91)), some (.inr (.inr 200)), some (.inr (.inr 294)), some (.inl (i : Int))] [] h Q := by
  obtain ⟨e1, l1⟩ := iw_1 hi hL
  obtain ⟨e2, l2⟩ := iw_2 hi hL
  obtain ⟨e3, l3⟩ := iw_3 hi hL
  have K := li.2.2.2.1
  have I := li.2.2.2.2.1
  have K2 := li.1.1.1
  simp only [rL_law_801, rL_law_802, rL_law_803, rL_law_804, rL_law_805, rL_law_806, rL_law_807, rL_law_808, rL_law_809, rL_law_810, rL_law_811, rL_law_812, rL_law_813, rL_law_814, rL_law_815, rL_law_816, rL_law_817, K, I, Cs_K200 K2, Cs_R200_0 K2, Cs_R200_1 K2, Cs_R200_2 K2, Cs_R200_3 K2, Cs_R200_4 K2, Cs_R200_5 K2, Cs_R200_6 K2, Cs_K201 K2, Cs_R201_0 K2, Cs_R201_1 K2, Cs_K202 K2, Cs_K203 K2, Cs_K211 K2, Cs_R211_0 K2, Cs_R211_1 K2, Cs_K212 K2, Cs_K213 K2, Cs_K214 K2, Cs_R214_0 K2, Cs_R214_1 K2, Cs_K215 K2, Cs_K216 K2, Cs_K217 K2, Cs_R217_0 K2, Cs_R217_1 K2, Cs_K218 K2, Cs_K219 K2, Cs_K220 K2, Cs_R220_0 K2, Cs_K221 K2, Cs_K262 K2, Cs_K271 K2, Cs_R271_0 K2, Cs_R271_1 K2, Cs_K272 K2, Cs_K276 K2, Cs_R272_0 K2, Cs_R276_0 K2, Cs_K273 K2, Cs_R273_0 K2, Cs_R273_1 K2, Cs_K274 K2, Cs_K275 K2, Cs_K277 K2, Cs_R277_0 K2, Cs_R277_1 K2, Cs_K278 K2, Cs_K279 K2, Cs_R262_0 K2, Cs_K263 K2, Cs_R263_0 K2, Cs_K264 K2, Cs_R262_1 K2, Cs_K265 K2, Cs_R265_0 K2, Cs_K266 K2, Cs_R262_2 K2, Cs_K267 K2, Cs_R267_0 K2, Cs_K268 K2, Cs_R262_3 K2, Cs_K269 K2, Cs_R269_0 K2, Cs_K270 K2, e1, l1, e2, l2, e3, l3, Int.toNat_natCast, Int.natCast_nonneg, true_and, and_true, and_self, if_true, if_false, or_true, true_or, or_false, false_or, ne_eq, not_true_eq_false, not_false_eq_true, Nat.reduceLeDiff, Nat.reduceEqDiff, Nat.reduceLT, Nat.reduceAdd, Nat.reduceMul, Nat.reduceSub, Int.reduceLT, Int.reduceLE, Int.reduceEq, Int.reduceToNat, Int.reduceAdd, Int.reduceSub, Int.reduceMul, Int.reduceNeg, Int.cast_ofNat_Int, false_and, and_false]
  obtain ⟨v, s', w', cs, rs⟩ := L_tellsBy (d := d) li.2.2.1 (n := (xs (i + 1)).toInt) (s := (xs (i + 2)).toInt) (i := (xs (i + 3)).toInt) (xs_i _)
  refine cs h _ li.1 li.2.2.1 ?_
  intro h1 x1 f1
  have lm := li.mid x1 f1
  have K1 := lm.2.2.2.1
  have I1 := lm.2.2.2.2.1
  have M1 := lm.2.1.1
  simp only [psh_some, rL_law_820, rL_law_821, rL_law_822, rL_law_823, rL_law_824, rL_law_825, rL_law_826, rL_law_827, rL_law_828, rL_law_829, rL_law_830, rL_law_831, rL_law_832, rL_law_833, rL_law_834, rL_law_835, rL_law_836, K1, I1, Md_K280 M1, e1, l1, e2, l2, e3, l3, Int.toNat_natCast, Int.natCast_nonneg, true_and, and_true, and_self, if_true, if_false, or_true, true_or, or_false, false_or, ne_eq, not_true_eq_false, not_false_eq_true, Nat.reduceLeDiff, Nat.reduceEqDiff, Nat.reduceLT, Nat.reduceAdd, Nat.reduceMul, Nat.reduceSub, Int.reduceLT, Int.reduceLE, Int.reduceEq, Int.reduceToNat, Int.reduceAdd, Int.reduceSub, Int.reduceMul, Int.reduceNeg, Int.cast_ofNat_Int, false_and, and_false]
  refine rs h1 _ lm.2.1 lm.2.2.1 ?_
  intro h2 x2 f2
  simp only [psh_some, rL_law_839, Int.toNat_natCast, Int.natCast_nonneg, true_and, and_true, and_self, if_true, if_false, or_true, true_or, or_false, false_or, ne_eq, not_true_eq_false, not_false_eq_true, Nat.reduceLeDiff, Nat.reduceEqDiff, Nat.reduceLT, Nat.reduceAdd, Nat.reduceMul, Nat.reduceSub, Int.reduceLT, Int.reduceLE, Int.reduceEq, Int.reduceToNat, Int.reduceAdd, Int.reduceSub, Int.reduceMul, Int.reduceNeg, Int.cast_ofNat_Int, false_and, and_false]
  exact k h2 _ (lm.fin x2 f2 w')
set_option maxHeartbeats 1000000 in
theorem lk_20 {d : Nat} {Q : Option PV → Hp → Prop} {L : Nat} {xs : Nat → Int32} {h : Hp} {σ : AS} {c i : Nat} (hi : i + 6 ≤ L) (hL : L ≤ 3072) (li : LI L xs h σ c) (k : ∀ h' σ', LI L xs h' σ' (c + 1) → WP (d + 80) mL_law 1600 [some (.inr (.inr 91)), some (.inr (.inr 200)), some (.inr (.inr 294)), some (.inl (i : Int))] [] h' Q) : WP (d + 80) mL_law 844 [some (.inr (.inr 91)), some (.inr (.inr 200)), some (.inr (.inr 294)), some (.inl (i : Int))] [] h Q := by
  obtain ⟨e1, l1⟩ := iw_1 hi hL
  obtain ⟨e2, l2⟩ := iw_2 hi hL
  have K := li.2.2.2.1
  have I := li.2.2.2.2.1
  have K2 := li.1.1.1
  simp only [rL_law_844, rL_law_845, rL_law_846, rL_law_847, rL_law_848, rL_law_849, rL_law_850, rL_law_851, rL_law_852, rL_law_853, rL_law_854, rL_law_855, K, I, Cs_K200 K2, Cs_R200_0 K2, Cs_R200_1 K2, Cs_R200_2 K2, Cs_R200_3 K2, Cs_R200_4 K2, Cs_R200_5 K2, Cs_R200_6 K2, Cs_K201 K2, Cs_R201_0 K2, Cs_R201_1 K2, Cs_K202 K2, Cs_K203 K2, Cs_K211 K2, Cs_R211_0 K2, Cs_R211_1 K2, Cs_K212 K2, Cs_K213 K2, Cs_K214 K2, Cs_R214_0 K2, Cs_R214_1 K2, Cs_K215 K2, Cs_K216 K2, Cs_K217 K2, Cs_R217_0 K2, Cs_R217_1 K2, Cs_K218 K2, Cs_K219 K2, Cs_K220 K2, Cs_R220_0 K2, Cs_K221 K2, Cs_K262 K2, Cs_K271 K2, Cs_R271_0 K2, Cs_R271_1 K2, Cs_K272 K2, Cs_K276 K2, Cs_R272_0 K2, Cs_R276_0 K2, Cs_K273 K2, Cs_R273_0 K2, Cs_R273_1 K2, Cs_K274 K2, Cs_K275 K2, Cs_K277 K2, Cs_R277_0 K2, Cs_R277_1 K2, Cs_K278 K2, Cs_K279 K2, Cs_R262_0 K2, Cs_K263 K2, Cs_R263_0 K2, Cs_K264 K2, Cs_R262_1 K2, Cs_K265 K2, Cs_R265_0 K2, Cs_K266 K2, Cs_R262_2 K2, Cs_K267 K2, Cs_R267_0 K2, Cs_K268 K2, Cs_R262_3 K2, Cs_K269 K2, Cs_R269_0 K2, Cs_K270 K2, e1, l1, e2, l2, Int.toNat_natCast, Int.natCast_nonneg, true_and, and_true, and_self, if_true, if_false, or_true, true_or, or_false, false_or, ne_eq, not_true_eq_false, not_false_eq_true, Nat.reduceLeDiff, Nat.reduceEqDiff, Nat.reduceLT, Nat.reduceAdd, Nat.reduceMul, Nat.reduceSub, Int.reduceLT, Int.reduceLE, Int.reduceEq, Int.reduceToNat, Int.reduceAdd, Int.reduceSub, Int.reduceMul, Int.reduceNeg, Int.cast_ofNat_Int, false_and, and_false]
  obtain ⟨v, s', w', cs, rs⟩ := L_rows (d := d) li.2.2.1 (t := (xs (i + 1)).toInt) (n := (xs (i + 2)).toInt)
  refine cs h _ li.1 li.2.2.1 ?_
  intro h1 x1 f1
  have lm := li.mid x1 f1
  have K1 := lm.2.2.2.1
  have I1 := lm.2.2.2.2.1
  have M1 := lm.2.1.1
  simp only [psh_some, rL_law_858, rL_law_859, rL_law_860, rL_law_861, rL_law_862, rL_law_863, rL_law_864, rL_law_865, rL_law_866, rL_law_867, rL_law_868, rL_law_869, K1, I1, Md_K280 M1, e1, l1, e2, l2, Int.toNat_natCast, Int.natCast_nonneg, true_and, and_true, and_self, if_true, if_false, or_true, true_or, or_false, false_or, ne_eq, not_true_eq_false, not_false_eq_true, Nat.reduceLeDiff, Nat.reduceEqDiff, Nat.reduceLT, Nat.reduceAdd, Nat.reduceMul, Nat.reduceSub, Int.reduceLT, Int.reduceLE, Int.reduceEq, Int.reduceToNat, Int.reduceAdd, Int.reduceSub, Int.reduceMul, Int.reduceNeg, Int.cast_ofNat_Int, false_and, and_false]
  refine rs h1 _ lm.2.1 lm.2.2.1 ?_
  intro h2 x2 f2
  simp only [psh_some, rL_law_872, rL_law_873, lcm_self, Int.toNat_natCast, Int.natCast_nonneg, true_and, and_true, and_self, if_true, if_false, or_true, true_or, or_false, false_or, ne_eq, not_true_eq_false, not_false_eq_true, Nat.reduceLeDiff, Nat.reduceEqDiff, Nat.reduceLT, Nat.reduceAdd, Nat.reduceMul, Nat.reduceSub, Int.reduceLT, Int.reduceLE, Int.reduceEq, Int.reduceToNat, Int.reduceAdd, Int.reduceSub, Int.reduceMul, Int.reduceNeg, Int.cast_ofNat_Int, false_and, and_false]
  exact k h2 _ (lm.fin x2 f2 w')
set_option maxHeartbeats 1000000 in
theorem lk_21 {d : Nat} {Q : Option PV → Hp → Prop} {L : Nat} {xs : Nat → Int32} {h : Hp} {σ : AS} {c i : Nat} (hi : i + 6 ≤ L) (hL : L ≤ 3072) (li : LI L xs h σ c) (k : ∀ h' σ', LI L xs h' σ' (c + 1) → WP (d + 80) mL_law 1600 [some (.inr (.inr 91)), some (.inr (.inr 200)), some (.inr (.inr 294)), some (.inl (i : Int))] [] h' Q) : WP (d + 80) mL_law 878 [some (.inr (.inr 91)), some (.inr (.inr 200)), some (.inr (.inr 294)), some (.inl (i : Int))] [] h Q := by
  obtain ⟨e1, l1⟩ := iw_1 hi hL
  have K := li.2.2.2.1
  have I := li.2.2.2.2.1
  have K2 := li.1.1.1
  simp only [rL_law_878, rL_law_879, rL_law_880, rL_law_881, rL_law_882, rL_law_883, rL_law_884, K, I, Cs_K200 K2, Cs_R200_0 K2, Cs_R200_1 K2, Cs_R200_2 K2, Cs_R200_3 K2, Cs_R200_4 K2, Cs_R200_5 K2, Cs_R200_6 K2, Cs_K201 K2, Cs_R201_0 K2, Cs_R201_1 K2, Cs_K202 K2, Cs_K203 K2, Cs_K211 K2, Cs_R211_0 K2, Cs_R211_1 K2, Cs_K212 K2, Cs_K213 K2, Cs_K214 K2, Cs_R214_0 K2, Cs_R214_1 K2, Cs_K215 K2, Cs_K216 K2, Cs_K217 K2, Cs_R217_0 K2, Cs_R217_1 K2, Cs_K218 K2, Cs_K219 K2, Cs_K220 K2, Cs_R220_0 K2, Cs_K221 K2, Cs_K262 K2, Cs_K271 K2, Cs_R271_0 K2, Cs_R271_1 K2, Cs_K272 K2, Cs_K276 K2, Cs_R272_0 K2, Cs_R276_0 K2, Cs_K273 K2, Cs_R273_0 K2, Cs_R273_1 K2, Cs_K274 K2, Cs_K275 K2, Cs_K277 K2, Cs_R277_0 K2, Cs_R277_1 K2, Cs_K278 K2, Cs_K279 K2, Cs_R262_0 K2, Cs_K263 K2, Cs_R263_0 K2, Cs_K264 K2, Cs_R262_1 K2, Cs_K265 K2, Cs_R265_0 K2, Cs_K266 K2, Cs_R262_2 K2, Cs_K267 K2, Cs_R267_0 K2, Cs_K268 K2, Cs_R262_3 K2, Cs_K269 K2, Cs_R269_0 K2, Cs_K270 K2, e1, l1, Int.toNat_natCast, Int.natCast_nonneg, true_and, and_true, and_self, if_true, if_false, or_true, true_or, or_false, false_or, ne_eq, not_true_eq_false, not_false_eq_true, Nat.reduceLeDiff, Nat.reduceEqDiff, Nat.reduceLT, Nat.reduceAdd, Nat.reduceMul, Nat.reduceSub, Int.reduceLT, Int.reduceLE, Int.reduceEq, Int.reduceToNat, Int.reduceAdd, Int.reduceSub, Int.reduceMul, Int.reduceNeg, Int.cast_ofNat_Int, false_and, and_false]
  obtain ⟨v, s', w', cs, rs⟩ := L_needed (d := d) li.2.2.1 (t := (xs (i + 1)).toInt)
  refine cs h _ li.1 li.2.2.1 ?_
  intro h1 x1 f1
  have lm := li.mid x1 f1
  have K1 := lm.2.2.2.1
  have I1 := lm.2.2.2.2.1
  have M1 := lm.2.1.1
  simp only [psh_some, rL_law_887, rL_law_888, rL_law_889, rL_law_890, rL_law_891, rL_law_892, rL_law_893, K1, I1, Md_K280 M1, e1, l1, Int.toNat_natCast, Int.natCast_nonneg, true_and, and_true, and_self, if_true, if_false, or_true, true_or, or_false, false_or, ne_eq, not_true_eq_false, not_false_eq_true, Nat.reduceLeDiff, Nat.reduceEqDiff, Nat.reduceLT, Nat.reduceAdd, Nat.reduceMul, Nat.reduceSub, Int.reduceLT, Int.reduceLE, Int.reduceEq, Int.reduceToNat, Int.reduceAdd, Int.reduceSub, Int.reduceMul, Int.reduceNeg, Int.cast_ofNat_Int, false_and, and_false]
  refine rs h1 _ lm.2.1 lm.2.2.1 ?_
  intro h2 x2 f2
  simp only [psh_some, rL_law_896, Int.toNat_natCast, Int.natCast_nonneg, true_and, and_true, and_self, if_true, if_false, or_true, true_or, or_false, false_or, ne_eq, not_true_eq_false, not_false_eq_true, Nat.reduceLeDiff, Nat.reduceEqDiff, Nat.reduceLT, Nat.reduceAdd, Nat.reduceMul, Nat.reduceSub, Int.reduceLT, Int.reduceLE, Int.reduceEq, Int.reduceToNat, Int.reduceAdd, Int.reduceSub, Int.reduceMul, Int.reduceNeg, Int.cast_ofNat_Int, false_and, and_false]
  exact k h2 _ (lm.fin x2 f2 w')
set_option maxHeartbeats 1000000 in
theorem lk_22 {d : Nat} {Q : Option PV → Hp → Prop} {L : Nat} {xs : Nat → Int32} {h : Hp} {σ : AS} {c i : Nat} (hi : i + 6 ≤ L) (hL : L ≤ 3072) (li : LI L xs h σ c) (k : ∀ h' σ', LI L xs h' σ' (c + 1) → WP (d + 80) mL_law 1600 [some (.inr (.inr 91)), some (.inr (.inr 200)), some (.inr (.inr 294)), some (.inl (i : Int))] [] h' Q) : WP (d + 80) mL_law 901 [some (.inr (.inr 91)), some (.inr (.inr 200)), some (.inr (.inr 294)), some (.inl (i : Int))] [] h Q := by
  obtain ⟨e1, l1⟩ := iw_1 hi hL
  have K := li.2.2.2.1
  have I := li.2.2.2.2.1
  have K2 := li.1.1.1
  simp only [rL_law_901, rL_law_902, rL_law_903, rL_law_904, rL_law_905, rL_law_906, rL_law_907, K, I, Cs_K200 K2, Cs_R200_0 K2, Cs_R200_1 K2, Cs_R200_2 K2, Cs_R200_3 K2, Cs_R200_4 K2, Cs_R200_5 K2, Cs_R200_6 K2, Cs_K201 K2, Cs_R201_0 K2, Cs_R201_1 K2, Cs_K202 K2, Cs_K203 K2, Cs_K211 K2, Cs_R211_0 K2, Cs_R211_1 K2, Cs_K212 K2, Cs_K213 K2, Cs_K214 K2, Cs_R214_0 K2, Cs_R214_1 K2, Cs_K215 K2, Cs_K216 K2, Cs_K217 K2, Cs_R217_0 K2, Cs_R217_1 K2, Cs_K218 K2, Cs_K219 K2, Cs_K220 K2, Cs_R220_0 K2, Cs_K221 K2, Cs_K262 K2, Cs_K271 K2, Cs_R271_0 K2, Cs_R271_1 K2, Cs_K272 K2, Cs_K276 K2, Cs_R272_0 K2, Cs_R276_0 K2, Cs_K273 K2, Cs_R273_0 K2, Cs_R273_1 K2, Cs_K274 K2, Cs_K275 K2, Cs_K277 K2, Cs_R277_0 K2, Cs_R277_1 K2, Cs_K278 K2, Cs_K279 K2, Cs_R262_0 K2, Cs_K263 K2, Cs_R263_0 K2, Cs_K264 K2, Cs_R262_1 K2, Cs_K265 K2, Cs_R265_0 K2, Cs_K266 K2, Cs_R262_2 K2, Cs_K267 K2, Cs_R267_0 K2, Cs_K268 K2, Cs_R262_3 K2, Cs_K269 K2, Cs_R269_0 K2, Cs_K270 K2, e1, l1, Int.toNat_natCast, Int.natCast_nonneg, true_and, and_true, and_self, if_true, if_false, or_true, true_or, or_false, false_or, ne_eq, not_true_eq_false, not_false_eq_true, Nat.reduceLeDiff, Nat.reduceEqDiff, Nat.reduceLT, Nat.reduceAdd, Nat.reduceMul, Nat.reduceSub, Int.reduceLT, Int.reduceLE, Int.reduceEq, Int.reduceToNat, Int.reduceAdd, Int.reduceSub, Int.reduceMul, Int.reduceNeg, Int.cast_ofNat_Int, false_and, and_false]
  obtain ⟨v, s', w', cs, rs⟩ := L_fewest (d := d) li.2.2.1 (t := (xs (i + 1)).toInt)
  refine cs h _ li.1 li.2.2.1 ?_
  intro h1 x1 f1
  have lm := li.mid x1 f1
  have K1 := lm.2.2.2.1
  have I1 := lm.2.2.2.2.1
  have M1 := lm.2.1.1
  simp only [psh_some, rL_law_910, rL_law_911, rL_law_912, rL_law_913, rL_law_914, rL_law_915, rL_law_916, K1, I1, Md_K280 M1, e1, l1, Int.toNat_natCast, Int.natCast_nonneg, true_and, and_true, and_self, if_true, if_false, or_true, true_or, or_false, false_or, ne_eq, not_true_eq_false, not_false_eq_true, Nat.reduceLeDiff, Nat.reduceEqDiff, Nat.reduceLT, Nat.reduceAdd, Nat.reduceMul, Nat.reduceSub, Int.reduceLT, Int.reduceLE, Int.reduceEq, Int.reduceToNat, Int.reduceAdd, Int.reduceSub, Int.reduceMul, Int.reduceNeg, Int.cast_ofNat_Int, false_and, and_false]
  refine rs h1 _ lm.2.1 lm.2.2.1 ?_
  intro h2 x2 f2
  simp only [psh_some, rL_law_919, Int.toNat_natCast, Int.natCast_nonneg, true_and, and_true, and_self, if_true, if_false, or_true, true_or, or_false, false_or, ne_eq, not_true_eq_false, not_false_eq_true, Nat.reduceLeDiff, Nat.reduceEqDiff, Nat.reduceLT, Nat.reduceAdd, Nat.reduceMul, Nat.reduceSub, Int.reduceLT, Int.reduceLE, Int.reduceEq, Int.reduceToNat, Int.reduceAdd, Int.reduceSub, Int.reduceMul, Int.reduceNeg, Int.cast_ofNat_Int, false_and, and_false]
  exact k h2 _ (lm.fin x2 f2 w')
set_option maxHeartbeats 1000000 in
theorem lk_23 {d : Nat} {Q : Option PV → Hp → Prop} {L : Nat} {xs : Nat → Int32} {h : Hp} {σ : AS} {c i : Nat} (hi : i + 6 ≤ L) (hL : L ≤ 3072) (li : LI L xs h σ c) (k : ∀ h' σ', LI L xs h' σ' (c + 1) → WP (d + 80) mL_law 1600 [some (.inr (.inr 91)), some (.inr (.inr 200)), some (.inr (.inr 294)), some (.inl (i : Int))] [] h' Q) : WP (d + 80) mL_law 924 [some (.inr (.inr 91)), some (.inr (.inr 200)), some (.inr (.inr 294)), some (.inl (i : Int))] [] h Q := by
  obtain ⟨e1, l1⟩ := iw_1 hi hL
  have K := li.2.2.2.1
  have I := li.2.2.2.2.1
  have K2 := li.1.1.1
  simp only [rL_law_924, rL_law_925, rL_law_926, rL_law_927, rL_law_928, rL_law_929, rL_law_930, K, I, Cs_K200 K2, Cs_R200_0 K2, Cs_R200_1 K2, Cs_R200_2 K2, Cs_R200_3 K2, Cs_R200_4 K2, Cs_R200_5 K2, Cs_R200_6 K2, Cs_K201 K2, Cs_R201_0 K2, Cs_R201_1 K2, Cs_K202 K2, Cs_K203 K2, Cs_K211 K2, Cs_R211_0 K2, Cs_R211_1 K2, Cs_K212 K2, Cs_K213 K2, Cs_K214 K2, Cs_R214_0 K2, Cs_R214_1 K2, Cs_K215 K2, Cs_K216 K2, Cs_K217 K2, Cs_R217_0 K2, Cs_R217_1 K2, Cs_K218 K2, Cs_K219 K2, Cs_K220 K2, Cs_R220_0 K2, Cs_K221 K2, Cs_K262 K2, Cs_K271 K2, Cs_R271_0 K2, Cs_R271_1 K2, Cs_K272 K2, Cs_K276 K2, Cs_R272_0 K2, Cs_R276_0 K2, Cs_K273 K2, Cs_R273_0 K2, Cs_R273_1 K2, Cs_K274 K2, Cs_K275 K2, Cs_K277 K2, Cs_R277_0 K2, Cs_R277_1 K2, Cs_K278 K2, Cs_K279 K2, Cs_R262_0 K2, Cs_K263 K2, Cs_R263_0 K2, Cs_K264 K2, Cs_R262_1 K2, Cs_K265 K2, Cs_R265_0 K2, Cs_K266 K2, Cs_R262_2 K2, Cs_K267 K2, Cs_R267_0 K2, Cs_K268 K2, Cs_R262_3 K2, Cs_K269 K2, Cs_R269_0 K2, Cs_K270 K2, e1, l1, Int.toNat_natCast, Int.natCast_nonneg, true_and, and_true, and_self, if_true, if_false, or_true, true_or, or_false, false_or, ne_eq, not_true_eq_false, not_false_eq_true, Nat.reduceLeDiff, Nat.reduceEqDiff, Nat.reduceLT, Nat.reduceAdd, Nat.reduceMul, Nat.reduceSub, Int.reduceLT, Int.reduceLE, Int.reduceEq, Int.reduceToNat, Int.reduceAdd, Int.reduceSub, Int.reduceMul, Int.reduceNeg, Int.cast_ofNat_Int, false_and, and_false]
  obtain ⟨v, s', w', cs, rs⟩ := L_deepest (d := d) li.2.2.1 (t := (xs (i + 1)).toInt) (xs_i _)
  refine cs h _ li.1 li.2.2.1 ?_
  intro h1 x1 f1
  have lm := li.mid x1 f1
  have K1 := lm.2.2.2.1
  have I1 := lm.2.2.2.2.1
  have M1 := lm.2.1.1
  simp only [psh_some, rL_law_933, rL_law_934, rL_law_935, rL_law_936, rL_law_937, rL_law_938, rL_law_939, K1, I1, Md_K280 M1, e1, l1, Int.toNat_natCast, Int.natCast_nonneg, true_and, and_true, and_self, if_true, if_false, or_true, true_or, or_false, false_or, ne_eq, not_true_eq_false, not_false_eq_true, Nat.reduceLeDiff, Nat.reduceEqDiff, Nat.reduceLT, Nat.reduceAdd, Nat.reduceMul, Nat.reduceSub, Int.reduceLT, Int.reduceLE, Int.reduceEq, Int.reduceToNat, Int.reduceAdd, Int.reduceSub, Int.reduceMul, Int.reduceNeg, Int.cast_ofNat_Int, false_and, and_false]
  refine rs h1 _ lm.2.1 lm.2.2.1 ?_
  intro h2 x2 f2
  simp only [psh_some, rL_law_942, Int.toNat_natCast, Int.natCast_nonneg, true_and, and_true, and_self, if_true, if_false, or_true, true_or, or_false, false_or, ne_eq, not_true_eq_false, not_false_eq_true, Nat.reduceLeDiff, Nat.reduceEqDiff, Nat.reduceLT, Nat.reduceAdd, Nat.reduceMul, Nat.reduceSub, Int.reduceLT, Int.reduceLE, Int.reduceEq, Int.reduceToNat, Int.reduceAdd, Int.reduceSub, Int.reduceMul, Int.reduceNeg, Int.cast_ofNat_Int, false_and, and_false]
  exact k h2 _ (lm.fin x2 f2 w')
set_option maxHeartbeats 1000000 in
theorem lk_24 {d : Nat} {Q : Option PV → Hp → Prop} {L : Nat} {xs : Nat → Int32} {h : Hp} {σ : AS} {c i : Nat} (hi : i + 6 ≤ L) (hL : L ≤ 3072) (li : LI L xs h σ c) (k : ∀ h' σ', LI L xs h' σ' (c + 1) → WP (d + 80) mL_law 1600 [some (.inr (.inr 91)), some (.inr (.inr 200)), some (.inr (.inr 294)), some (.inl (i : Int))] [] h' Q) : WP (d + 80) mL_law 947 [some (.inr (.inr 91)), some (.inr (.inr 200)), some (.inr (.inr 294)), some (.inl (i : Int))] [] h Q := by
  obtain ⟨e1, l1⟩ := iw_1 hi hL
  have K := li.2.2.2.1
  have I := li.2.2.2.2.1
  have K2 := li.1.1.1
  simp only [rL_law_947, rL_law_948, rL_law_949, rL_law_950, rL_law_951, rL_law_952, rL_law_953, K, I, Cs_K200 K2, Cs_R200_0 K2, Cs_R200_1 K2, Cs_R200_2 K2, Cs_R200_3 K2, Cs_R200_4 K2, Cs_R200_5 K2, Cs_R200_6 K2, Cs_K201 K2, Cs_R201_0 K2, Cs_R201_1 K2, Cs_K202 K2, Cs_K203 K2, Cs_K211 K2, Cs_R211_0 K2, Cs_R211_1 K2, Cs_K212 K2, Cs_K213 K2, Cs_K214 K2, Cs_R214_0 K2, Cs_R214_1 K2, Cs_K215 K2, Cs_K216 K2, Cs_K217 K2, Cs_R217_0 K2, Cs_R217_1 K2, Cs_K218 K2, Cs_K219 K2, Cs_K220 K2, Cs_R220_0 K2, Cs_K221 K2, Cs_K262 K2, Cs_K271 K2, Cs_R271_0 K2, Cs_R271_1 K2, Cs_K272 K2, Cs_K276 K2, Cs_R272_0 K2, Cs_R276_0 K2, Cs_K273 K2, Cs_R273_0 K2, Cs_R273_1 K2, Cs_K274 K2, Cs_K275 K2, Cs_K277 K2, Cs_R277_0 K2, Cs_R277_1 K2, Cs_K278 K2, Cs_K279 K2, Cs_R262_0 K2, Cs_K263 K2, Cs_R263_0 K2, Cs_K264 K2, Cs_R262_1 K2, Cs_K265 K2, Cs_R265_0 K2, Cs_K266 K2, Cs_R262_2 K2, Cs_K267 K2, Cs_R267_0 K2, Cs_K268 K2, Cs_R262_3 K2, Cs_K269 K2, Cs_R269_0 K2, Cs_K270 K2, e1, l1, Int.toNat_natCast, Int.natCast_nonneg, true_and, and_true, and_self, if_true, if_false, or_true, true_or, or_false, false_or, ne_eq, not_true_eq_false, not_false_eq_true, Nat.reduceLeDiff, Nat.reduceEqDiff, Nat.reduceLT, Nat.reduceAdd, Nat.reduceMul, Nat.reduceSub, Int.reduceLT, Int.reduceLE, Int.reduceEq, Int.reduceToNat, Int.reduceAdd, Int.reduceSub, Int.reduceMul, Int.reduceNeg, Int.cast_ofNat_Int, false_and, and_false]
  obtain ⟨v, s', w', cs, rs⟩ := L_shallowest (d := d) li.2.2.1 (t := (xs (i + 1)).toInt) (xs_i _)
  refine cs h _ li.1 li.2.2.1 ?_
  intro h1 x1 f1
  have lm := li.mid x1 f1
  have K1 := lm.2.2.2.1
  have I1 := lm.2.2.2.2.1
  have M1 := lm.2.1.1
  simp only [psh_some, rL_law_956, rL_law_957, rL_law_958, rL_law_959, rL_law_960, rL_law_961, rL_law_962, K1, I1, Md_K280 M1, e1, l1, Int.toNat_natCast, Int.natCast_nonneg, true_and, and_true, and_self, if_true, if_false, or_true, true_or, or_false, false_or, ne_eq, not_true_eq_false, not_false_eq_true, Nat.reduceLeDiff, Nat.reduceEqDiff, Nat.reduceLT, Nat.reduceAdd, Nat.reduceMul, Nat.reduceSub, Int.reduceLT, Int.reduceLE, Int.reduceEq, Int.reduceToNat, Int.reduceAdd, Int.reduceSub, Int.reduceMul, Int.reduceNeg, Int.cast_ofNat_Int, false_and, and_false]
  refine rs h1 _ lm.2.1 lm.2.2.1 ?_
  intro h2 x2 f2
  simp only [psh_some, rL_law_965, Int.toNat_natCast, Int.natCast_nonneg, true_and, and_true, and_self, if_true, if_false, or_true, true_or, or_false, false_or, ne_eq, not_true_eq_false, not_false_eq_true, Nat.reduceLeDiff, Nat.reduceEqDiff, Nat.reduceLT, Nat.reduceAdd, Nat.reduceMul, Nat.reduceSub, Int.reduceLT, Int.reduceLE, Int.reduceEq, Int.reduceToNat, Int.reduceAdd, Int.reduceSub, Int.reduceMul, Int.reduceNeg, Int.cast_ofNat_Int, false_and, and_false]
  exact k h2 _ (lm.fin x2 f2 w')
set_option maxHeartbeats 1000000 in
theorem lk_25 {d : Nat} {Q : Option PV → Hp → Prop} {L : Nat} {xs : Nat → Int32} {h : Hp} {σ : AS} {c i : Nat} (hi : i + 6 ≤ L) (hL : L ≤ 3072) (li : LI L xs h σ c) (k : ∀ h' σ', LI L xs h' σ' (c + 1) → WP (d + 80) mL_law 1600 [some (.inr (.inr 91)), some (.inr (.inr 200)), some (.inr (.inr 294)), some (.inl (i : Int))] [] h' Q) : WP (d + 80) mL_law 970 [some (.inr (.inr 91)), some (.inr (.inr 200)), some (.inr (.inr 294)), some (.inl (i : Int))] [] h Q := by
  obtain ⟨e1, l1⟩ := iw_1 hi hL
  have K := li.2.2.2.1
  have I := li.2.2.2.2.1
  have K2 := li.1.1.1
  simp only [rL_law_970, rL_law_971, rL_law_972, rL_law_973, rL_law_974, rL_law_975, rL_law_976, K, I, Cs_K200 K2, Cs_R200_0 K2, Cs_R200_1 K2, Cs_R200_2 K2, Cs_R200_3 K2, Cs_R200_4 K2, Cs_R200_5 K2, Cs_R200_6 K2, Cs_K201 K2, Cs_R201_0 K2, Cs_R201_1 K2, Cs_K202 K2, Cs_K203 K2, Cs_K211 K2, Cs_R211_0 K2, Cs_R211_1 K2, Cs_K212 K2, Cs_K213 K2, Cs_K214 K2, Cs_R214_0 K2, Cs_R214_1 K2, Cs_K215 K2, Cs_K216 K2, Cs_K217 K2, Cs_R217_0 K2, Cs_R217_1 K2, Cs_K218 K2, Cs_K219 K2, Cs_K220 K2, Cs_R220_0 K2, Cs_K221 K2, Cs_K262 K2, Cs_K271 K2, Cs_R271_0 K2, Cs_R271_1 K2, Cs_K272 K2, Cs_K276 K2, Cs_R272_0 K2, Cs_R276_0 K2, Cs_K273 K2, Cs_R273_0 K2, Cs_R273_1 K2, Cs_K274 K2, Cs_K275 K2, Cs_K277 K2, Cs_R277_0 K2, Cs_R277_1 K2, Cs_K278 K2, Cs_K279 K2, Cs_R262_0 K2, Cs_K263 K2, Cs_R263_0 K2, Cs_K264 K2, Cs_R262_1 K2, Cs_K265 K2, Cs_R265_0 K2, Cs_K266 K2, Cs_R262_2 K2, Cs_K267 K2, Cs_R267_0 K2, Cs_K268 K2, Cs_R262_3 K2, Cs_K269 K2, Cs_R269_0 K2, Cs_K270 K2, e1, l1, Int.toNat_natCast, Int.natCast_nonneg, true_and, and_true, and_self, if_true, if_false, or_true, true_or, or_false, false_or, ne_eq, not_true_eq_false, not_false_eq_true, Nat.reduceLeDiff, Nat.reduceEqDiff, Nat.reduceLT, Nat.reduceAdd, Nat.reduceMul, Nat.reduceSub, Int.reduceLT, Int.reduceLE, Int.reduceEq, Int.reduceToNat, Int.reduceAdd, Int.reduceSub, Int.reduceMul, Int.reduceNeg, Int.cast_ofNat_Int, false_and, and_false]
  obtain ⟨v, s', w', cs, rs⟩ := L_numbersTold (d := d) li.2.2.1 (t := (xs (i + 1)).toInt) (xs_i _)
  refine cs h _ li.1 li.2.2.1 ?_
  intro h1 x1 f1
  have lm := li.mid x1 f1
  have K1 := lm.2.2.2.1
  have I1 := lm.2.2.2.2.1
  have M1 := lm.2.1.1
  simp only [psh_some, rL_law_979, rL_law_980, rL_law_981, rL_law_982, rL_law_983, rL_law_984, rL_law_985, K1, I1, Md_K280 M1, e1, l1, Int.toNat_natCast, Int.natCast_nonneg, true_and, and_true, and_self, if_true, if_false, or_true, true_or, or_false, false_or, ne_eq, not_true_eq_false, not_false_eq_true, Nat.reduceLeDiff, Nat.reduceEqDiff, Nat.reduceLT, Nat.reduceAdd, Nat.reduceMul, Nat.reduceSub, Int.reduceLT, Int.reduceLE, Int.reduceEq, Int.reduceToNat, Int.reduceAdd, Int.reduceSub, Int.reduceMul, Int.reduceNeg, Int.cast_ofNat_Int, false_and, and_false]
  refine rs h1 _ lm.2.1 lm.2.2.1 ?_
  intro h2 x2 f2
  simp only [psh_some, rL_law_988, Int.toNat_natCast, Int.natCast_nonneg, true_and, and_true, and_self, if_true, if_false, or_true, true_or, or_false, false_or, ne_eq, not_true_eq_false, not_false_eq_true, Nat.reduceLeDiff, Nat.reduceEqDiff, Nat.reduceLT, Nat.reduceAdd, Nat.reduceMul, Nat.reduceSub, Int.reduceLT, Int.reduceLE, Int.reduceEq, Int.reduceToNat, Int.reduceAdd, Int.reduceSub, Int.reduceMul, Int.reduceNeg, Int.cast_ofNat_Int, false_and, and_false]
  exact k h2 _ (lm.fin x2 f2 w')
set_option maxHeartbeats 1000000 in
theorem lk_26 {d : Nat} {Q : Option PV → Hp → Prop} {L : Nat} {xs : Nat → Int32} {h : Hp} {σ : AS} {c i : Nat} (hi : i + 6 ≤ L) (hL : L ≤ 3072) (li : LI L xs h σ c) (k : ∀ h' σ', LI L xs h' σ' (c + 1) → WP (d + 80) mL_law 1600 [some (.inr (.inr 91)), some (.inr (.inr 200)), some (.inr (.inr 294)), some (.inl (i : Int))] [] h' Q) : WP (d + 80) mL_law 993 [some (.inr (.inr 91)), some (.inr (.inr 200)), some (.inr (.inr 294)), some (.inl (i : Int))] [] h Q := by
  obtain ⟨e1, l1⟩ := iw_1 hi hL
  have K := li.2.2.2.1
  have I := li.2.2.2.2.1
  have K2 := li.1.1.1
  simp only [rL_law_993, rL_law_994, rL_law_995, rL_law_996, rL_law_997, rL_law_998, rL_law_999, K, I, Cs_K200 K2, Cs_R200_0 K2, Cs_R200_1 K2, Cs_R200_2 K2, Cs_R200_3 K2, Cs_R200_4 K2, Cs_R200_5 K2, Cs_R200_6 K2, Cs_K201 K2, Cs_R201_0 K2, Cs_R201_1 K2, Cs_K202 K2, Cs_K203 K2, Cs_K211 K2, Cs_R211_0 K2, Cs_R211_1 K2, Cs_K212 K2, Cs_K213 K2, Cs_K214 K2, Cs_R214_0 K2, Cs_R214_1 K2, Cs_K215 K2, Cs_K216 K2, Cs_K217 K2, Cs_R217_0 K2, Cs_R217_1 K2, Cs_K218 K2, Cs_K219 K2, Cs_K220 K2, Cs_R220_0 K2, Cs_K221 K2, Cs_K262 K2, Cs_K271 K2, Cs_R271_0 K2, Cs_R271_1 K2, Cs_K272 K2, Cs_K276 K2, Cs_R272_0 K2, Cs_R276_0 K2, Cs_K273 K2, Cs_R273_0 K2, Cs_R273_1 K2, Cs_K274 K2, Cs_K275 K2, Cs_K277 K2, Cs_R277_0 K2, Cs_R277_1 K2, Cs_K278 K2, Cs_K279 K2, Cs_R262_0 K2, Cs_K263 K2, Cs_R263_0 K2, Cs_K264 K2, Cs_R262_1 K2, Cs_K265 K2, Cs_R265_0 K2, Cs_K266 K2, Cs_R262_2 K2, Cs_K267 K2, Cs_R267_0 K2, Cs_K268 K2, Cs_R262_3 K2, Cs_K269 K2, Cs_R269_0 K2, Cs_K270 K2, e1, l1, Int.toNat_natCast, Int.natCast_nonneg, true_and, and_true, and_self, if_true, if_false, or_true, true_or, or_false, false_or, ne_eq, not_true_eq_false, not_false_eq_true, Nat.reduceLeDiff, Nat.reduceEqDiff, Nat.reduceLT, Nat.reduceAdd, Nat.reduceMul, Nat.reduceSub, Int.reduceLT, Int.reduceLE, Int.reduceEq, Int.reduceToNat, Int.reduceAdd, Int.reduceSub, Int.reduceMul, Int.reduceNeg, Int.cast_ofNat_Int, false_and, and_false]
  obtain ⟨v, s', w', cs, rs⟩ := L_possible (d := d) li.2.2.1 (t := (xs (i + 1)).toInt) (xs_i _)
  refine cs h _ li.1 li.2.2.1 ?_
  intro h1 x1 f1
  have lm := li.mid x1 f1
  have K1 := lm.2.2.2.1
  have I1 := lm.2.2.2.2.1
  have M1 := lm.2.1.1
  simp only [psh_some, rL_law_1002, rL_law_1003, rL_law_1004, rL_law_1005, rL_law_1006, rL_law_1007, rL_law_1008, K1, I1, Md_K280 M1, e1, l1, Int.toNat_natCast, Int.natCast_nonneg, true_and, and_true, and_self, if_true, if_false, or_true, true_or, or_false, false_or, ne_eq, not_true_eq_false, not_false_eq_true, Nat.reduceLeDiff, Nat.reduceEqDiff, Nat.reduceLT, Nat.reduceAdd, Nat.reduceMul, Nat.reduceSub, Int.reduceLT, Int.reduceLE, Int.reduceEq, Int.reduceToNat, Int.reduceAdd, Int.reduceSub, Int.reduceMul, Int.reduceNeg, Int.cast_ofNat_Int, false_and, and_false]
  refine rs h1 _ lm.2.1 lm.2.2.1 ?_
  intro h2 x2 f2
  simp only [psh_some, rL_law_1011, Int.toNat_natCast, Int.natCast_nonneg, true_and, and_true, and_self, if_true, if_false, or_true, true_or, or_false, false_or, ne_eq, not_true_eq_false, not_false_eq_true, Nat.reduceLeDiff, Nat.reduceEqDiff, Nat.reduceLT, Nat.reduceAdd, Nat.reduceMul, Nat.reduceSub, Int.reduceLT, Int.reduceLE, Int.reduceEq, Int.reduceToNat, Int.reduceAdd, Int.reduceSub, Int.reduceMul, Int.reduceNeg, Int.cast_ofNat_Int, false_and, and_false]
  exact k h2 _ (lm.fin x2 f2 w')
set_option maxHeartbeats 1000000 in
theorem lk_27 {d : Nat} {Q : Option PV → Hp → Prop} {L : Nat} {xs : Nat → Int32} {h : Hp} {σ : AS} {c i : Nat} (hi : i + 6 ≤ L) (hL : L ≤ 3072) (li : LI L xs h σ c) (k : ∀ h' σ', LI L xs h' σ' (c + 1) → WP (d + 80) mL_law 1600 [some (.inr (.inr 91)), some (.inr (.inr 200)), some (.inr (.inr 294)), some (.inl (i : Int))] [] h' Q) : WP (d + 80) mL_law 1016 [some (.inr (.inr 91)), some (.inr (.inr 200)), some (.inr (.inr 294)), some (.inl (i : Int))] [] h Q := by
  obtain ⟨e1, l1⟩ := iw_1 hi hL
  have K := li.2.2.2.1
  have I := li.2.2.2.2.1
  have K2 := li.1.1.1
  simp only [rL_law_1016, rL_law_1017, rL_law_1018, rL_law_1019, rL_law_1020, rL_law_1021, rL_law_1022, K, I, Cs_K200 K2, Cs_R200_0 K2, Cs_R200_1 K2, Cs_R200_2 K2, Cs_R200_3 K2, Cs_R200_4 K2, Cs_R200_5 K2, Cs_R200_6 K2, Cs_K201 K2, Cs_R201_0 K2, Cs_R201_1 K2, Cs_K202 K2, Cs_K203 K2, Cs_K211 K2, Cs_R211_0 K2, Cs_R211_1 K2, Cs_K212 K2, Cs_K213 K2, Cs_K214 K2, Cs_R214_0 K2, Cs_R214_1 K2, Cs_K215 K2, Cs_K216 K2, Cs_K217 K2, Cs_R217_0 K2, Cs_R217_1 K2, Cs_K218 K2, Cs_K219 K2, Cs_K220 K2, Cs_R220_0 K2, Cs_K221 K2, Cs_K262 K2, Cs_K271 K2, Cs_R271_0 K2, Cs_R271_1 K2, Cs_K272 K2, Cs_K276 K2, Cs_R272_0 K2, Cs_R276_0 K2, Cs_K273 K2, Cs_R273_0 K2, Cs_R273_1 K2, Cs_K274 K2, Cs_K275 K2, Cs_K277 K2, Cs_R277_0 K2, Cs_R277_1 K2, Cs_K278 K2, Cs_K279 K2, Cs_R262_0 K2, Cs_K263 K2, Cs_R263_0 K2, Cs_K264 K2, Cs_R262_1 K2, Cs_K265 K2, Cs_R265_0 K2, Cs_K266 K2, Cs_R262_2 K2, Cs_K267 K2, Cs_R267_0 K2, Cs_K268 K2, Cs_R262_3 K2, Cs_K269 K2, Cs_R269_0 K2, Cs_K270 K2, e1, l1, Int.toNat_natCast, Int.natCast_nonneg, true_and, and_true, and_self, if_true, if_false, or_true, true_or, or_false, false_or, ne_eq, not_true_eq_false, not_false_eq_true, Nat.reduceLeDiff, Nat.reduceEqDiff, Nat.reduceLT, Nat.reduceAdd, Nat.reduceMul, Nat.reduceSub, Int.reduceLT, Int.reduceLE, Int.reduceEq, Int.reduceToNat, Int.reduceAdd, Int.reduceSub, Int.reduceMul, Int.reduceNeg, Int.cast_ofNat_Int, false_and, and_false]
  obtain ⟨v, s', w', cs, rs⟩ := L_stands (d := d) li.2.2.1 (t := (xs (i + 1)).toInt) (xs_i _)
  refine cs h _ li.1 li.2.2.1 ?_
  intro h1 x1 f1
  have lm := li.mid x1 f1
  have K1 := lm.2.2.2.1
  have I1 := lm.2.2.2.2.1
  have M1 := lm.2.1.1
  simp only [psh_some, rL_law_1025, rL_law_1026, rL_law_1027, rL_law_1028, rL_law_1029, rL_law_1030, rL_law_1031, K1, I1, Md_K280 M1, e1, l1, Int.toNat_natCast, Int.natCast_nonneg, true_and, and_true, and_self, if_true, if_false, or_true, true_or, or_false, false_or, ne_eq, not_true_eq_false, not_false_eq_true, Nat.reduceLeDiff, Nat.reduceEqDiff, Nat.reduceLT, Nat.reduceAdd, Nat.reduceMul, Nat.reduceSub, Int.reduceLT, Int.reduceLE, Int.reduceEq, Int.reduceToNat, Int.reduceAdd, Int.reduceSub, Int.reduceMul, Int.reduceNeg, Int.cast_ofNat_Int, false_and, and_false]
  refine rs h1 _ lm.2.1 lm.2.2.1 ?_
  intro h2 x2 f2
  simp only [psh_some, rL_law_1034, Int.toNat_natCast, Int.natCast_nonneg, true_and, and_true, and_self, if_true, if_false, or_true, true_or, or_false, false_or, ne_eq, not_true_eq_false, not_false_eq_true, Nat.reduceLeDiff, Nat.reduceEqDiff, Nat.reduceLT, Nat.reduceAdd, Nat.reduceMul, Nat.reduceSub, Int.reduceLT, Int.reduceLE, Int.reduceEq, Int.reduceToNat, Int.reduceAdd, Int.reduceSub, Int.reduceMul, Int.reduceNeg, Int.cast_ofNat_Int, false_and, and_false]
  exact k h2 _ (lm.fin x2 f2 w')
set_option maxHeartbeats 1000000 in
theorem lk_28 {d : Nat} {Q : Option PV → Hp → Prop} {L : Nat} {xs : Nat → Int32} {h : Hp} {σ : AS} {c i : Nat} (hi : i + 6 ≤ L) (hL : L ≤ 3072) (li : LI L xs h σ c) (k : ∀ h' σ', LI L xs h' σ' (c + 1) → WP (d + 80) mL_law 1600 [some (.inr (.inr 91)), some (.inr (.inr 200)), some (.inr (.inr 294)), some (.inl (i : Int))] [] h' Q) : WP (d + 80) mL_law 1039 [some (.inr (.inr 91)), some (.inr (.inr 200)), some (.inr (.inr 294)), some (.inl (i : Int))] [] h Q := by
  obtain ⟨e1, l1⟩ := iw_1 hi hL
  have K := li.2.2.2.1
  have I := li.2.2.2.2.1
  have K2 := li.1.1.1
  simp only [rL_law_1039, rL_law_1040, rL_law_1041, rL_law_1042, rL_law_1043, rL_law_1044, rL_law_1045, K, I, Cs_K200 K2, Cs_R200_0 K2, Cs_R200_1 K2, Cs_R200_2 K2, Cs_R200_3 K2, Cs_R200_4 K2, Cs_R200_5 K2, Cs_R200_6 K2, Cs_K201 K2, Cs_R201_0 K2, Cs_R201_1 K2, Cs_K202 K2, Cs_K203 K2, Cs_K211 K2, Cs_R211_0 K2, Cs_R211_1 K2, Cs_K212 K2, Cs_K213 K2, Cs_K214 K2, Cs_R214_0 K2, Cs_R214_1 K2, Cs_K215 K2, Cs_K216 K2, Cs_K217 K2, Cs_R217_0 K2, Cs_R217_1 K2, Cs_K218 K2, Cs_K219 K2, Cs_K220 K2, Cs_R220_0 K2, Cs_K221 K2, Cs_K262 K2, Cs_K271 K2, Cs_R271_0 K2, Cs_R271_1 K2, Cs_K272 K2, Cs_K276 K2, Cs_R272_0 K2, Cs_R276_0 K2, Cs_K273 K2, Cs_R273_0 K2, Cs_R273_1 K2, Cs_K274 K2, Cs_K275 K2, Cs_K277 K2, Cs_R277_0 K2, Cs_R277_1 K2, Cs_K278 K2, Cs_K279 K2, Cs_R262_0 K2, Cs_K263 K2, Cs_R263_0 K2, Cs_K264 K2, Cs_R262_1 K2, Cs_K265 K2, Cs_R265_0 K2, Cs_K266 K2, Cs_R262_2 K2, Cs_K267 K2, Cs_R267_0 K2, Cs_K268 K2, Cs_R262_3 K2, Cs_K269 K2, Cs_R269_0 K2, Cs_K270 K2, e1, l1, Int.toNat_natCast, Int.natCast_nonneg, true_and, and_true, and_self, if_true, if_false, or_true, true_or, or_false, false_or, ne_eq, not_true_eq_false, not_false_eq_true, Nat.reduceLeDiff, Nat.reduceEqDiff, Nat.reduceLT, Nat.reduceAdd, Nat.reduceMul, Nat.reduceSub, Int.reduceLT, Int.reduceLE, Int.reduceEq, Int.reduceToNat, Int.reduceAdd, Int.reduceSub, Int.reduceMul, Int.reduceNeg, Int.cast_ofNat_Int, false_and, and_false]
  obtain ⟨v, s', w', cs, rs⟩ := L_posted (d := d) li.2.2.1 (t := (xs (i + 1)).toInt)
  refine cs h _ li.1 li.2.2.1 ?_
  intro h1 x1 f1
  have lm := li.mid x1 f1
  have K1 := lm.2.2.2.1
  have I1 := lm.2.2.2.2.1
  have M1 := lm.2.1.1
  simp only [psh_some, rL_law_1048, rL_law_1049, rL_law_1050, rL_law_1051, rL_law_1052, rL_law_1053, rL_law_1054, K1, I1, Md_K280 M1, e1, l1, Int.toNat_natCast, Int.natCast_nonneg, true_and, and_true, and_self, if_true, if_false, or_true, true_or, or_false, false_or, ne_eq, not_true_eq_false, not_false_eq_true, Nat.reduceLeDiff, Nat.reduceEqDiff, Nat.reduceLT, Nat.reduceAdd, Nat.reduceMul, Nat.reduceSub, Int.reduceLT, Int.reduceLE, Int.reduceEq, Int.reduceToNat, Int.reduceAdd, Int.reduceSub, Int.reduceMul, Int.reduceNeg, Int.cast_ofNat_Int, false_and, and_false]
  refine rs h1 _ lm.2.1 lm.2.2.1 ?_
  intro h2 x2 f2
  simp only [psh_some, rL_law_1057, rL_law_1058, lcm_self, Int.toNat_natCast, Int.natCast_nonneg, true_and, and_true, and_self, if_true, if_false, or_true, true_or, or_false, false_or, ne_eq, not_true_eq_false, not_false_eq_true, Nat.reduceLeDiff, Nat.reduceEqDiff, Nat.reduceLT, Nat.reduceAdd, Nat.reduceMul, Nat.reduceSub, Int.reduceLT, Int.reduceLE, Int.reduceEq, Int.reduceToNat, Int.reduceAdd, Int.reduceSub, Int.reduceMul, Int.reduceNeg, Int.cast_ofNat_Int, false_and, and_false]
  exact k h2 _ (lm.fin x2 f2 w')
set_option maxHeartbeats 1000000 in
theorem lk_29 {d : Nat} {Q : Option PV → Hp → Prop} {L : Nat} {xs : Nat → Int32} {h : Hp} {σ : AS} {c i : Nat} (hi : i + 6 ≤ L) (hL : L ≤ 3072) (li : LI L xs h σ c) (k : ∀ h' σ', LI L xs h' σ' (c + 1) → WP (d + 80) mL_law 1600 [some (.inr (.inr 91)), some (.inr (.inr 200)), some (.inr (.inr 294)), some (.inl (i : Int))] [] h' Q) : WP (d + 80) mL_law 1063 [some (.inr (.inr 91)), some (.inr (.inr 200)), some (.inr (.inr 294)), some (.inl (i : Int))] [] h Q := by
  obtain ⟨e1, l1⟩ := iw_1 hi hL
  obtain ⟨e2, l2⟩ := iw_2 hi hL
  have K := li.2.2.2.1
  have I := li.2.2.2.2.1
  have K2 := li.1.1.1
  simp only [rL_law_1063, rL_law_1064, rL_law_1065, rL_law_1066, rL_law_1067, rL_law_1068, rL_law_1069, rL_law_1070, rL_law_1071, rL_law_1072, rL_law_1073, rL_law_1074, K, I, Cs_K200 K2, Cs_R200_0 K2, Cs_R200_1 K2, Cs_R200_2 K2, Cs_R200_3 K2, Cs_R200_4 K2, Cs_R200_5 K2, Cs_R200_6 K2, Cs_K201 K2, Cs_R201_0 K2, Cs_R201_1 K2, Cs_K202 K2, Cs_K203 K2, Cs_K211 K2, Cs_R211_0 K2, Cs_R211_1 K2, Cs_K212 K2, Cs_K213 K2, Cs_K214 K2, Cs_R214_0 K2, Cs_R214_1 K2, Cs_K215 K2, Cs_K216 K2, Cs_K217 K2, Cs_R217_0 K2, Cs_R217_1 K2, Cs_K218 K2, Cs_K219 K2, Cs_K220 K2, Cs_R220_0 K2, Cs_K221 K2, Cs_K262 K2, Cs_K271 K2, Cs_R271_0 K2, Cs_R271_1 K2, Cs_K272 K2, Cs_K276 K2, Cs_R272_0 K2, Cs_R276_0 K2, Cs_K273 K2, Cs_R273_0 K2, Cs_R273_1 K2, Cs_K274 K2, Cs_K275 K2, Cs_K277 K2, Cs_R277_0 K2, Cs_R277_1 K2, Cs_K278 K2, Cs_K279 K2, Cs_R262_0 K2, Cs_K263 K2, Cs_R263_0 K2, Cs_K264 K2, Cs_R262_1 K2, Cs_K265 K2, Cs_R265_0 K2, Cs_K266 K2, Cs_R262_2 K2, Cs_K267 K2, Cs_R267_0 K2, Cs_K268 K2, Cs_R262_3 K2, Cs_K269 K2, Cs_R269_0 K2, Cs_K270 K2, e1, l1, e2, l2, Int.toNat_natCast, Int.natCast_nonneg, true_and, and_true, and_self, if_true, if_false, or_true, true_or, or_false, false_or, ne_eq, not_true_eq_false, not_false_eq_true, Nat.reduceLeDiff, Nat.reduceEqDiff, Nat.reduceLT, Nat.reduceAdd, Nat.reduceMul, Nat.reduceSub, Int.reduceLT, Int.reduceLE, Int.reduceEq, Int.reduceToNat, Int.reduceAdd, Int.reduceSub, Int.reduceMul, Int.reduceNeg, Int.cast_ofNat_Int, false_and, and_false]
  obtain ⟨v, s', w', cs, rs⟩ := L_whoPosted (d := d) li.2.2.1 (t := (xs (i + 1)).toInt) (i := (xs (i + 2)).toInt)
  refine cs h _ li.1 li.2.2.1 ?_
  intro h1 x1 f1
  have lm := li.mid x1 f1
  have K1 := lm.2.2.2.1
  have I1 := lm.2.2.2.2.1
  have M1 := lm.2.1.1
  simp only [psh_some, rL_law_1077, rL_law_1078, rL_law_1079, rL_law_1080, rL_law_1081, rL_law_1082, rL_law_1083, rL_law_1084, rL_law_1085, rL_law_1086, rL_law_1087, rL_law_1088, K1, I1, Md_K280 M1, e1, l1, e2, l2, Int.toNat_natCast, Int.natCast_nonneg, true_and, and_true, and_self, if_true, if_false, or_true, true_or, or_false, false_or, ne_eq, not_true_eq_false, not_false_eq_true, Nat.reduceLeDiff, Nat.reduceEqDiff, Nat.reduceLT, Nat.reduceAdd, Nat.reduceMul, Nat.reduceSub, Int.reduceLT, Int.reduceLE, Int.reduceEq, Int.reduceToNat, Int.reduceAdd, Int.reduceSub, Int.reduceMul, Int.reduceNeg, Int.cast_ofNat_Int, false_and, and_false]
  refine rs h1 _ lm.2.1 lm.2.2.1 ?_
  intro h2 x2 f2
  simp only [psh_some, rL_law_1091, Int.toNat_natCast, Int.natCast_nonneg, true_and, and_true, and_self, if_true, if_false, or_true, true_or, or_false, false_or, ne_eq, not_true_eq_false, not_false_eq_true, Nat.reduceLeDiff, Nat.reduceEqDiff, Nat.reduceLT, Nat.reduceAdd, Nat.reduceMul, Nat.reduceSub, Int.reduceLT, Int.reduceLE, Int.reduceEq, Int.reduceToNat, Int.reduceAdd, Int.reduceSub, Int.reduceMul, Int.reduceNeg, Int.cast_ofNat_Int, false_and, and_false]
  exact k h2 _ (lm.fin x2 f2 w')
set_option maxHeartbeats 1000000 in
theorem lk_30 {d : Nat} {Q : Option PV → Hp → Prop} {L : Nat} {xs : Nat → Int32} {h : Hp} {σ : AS} {c i : Nat} (hi : i + 6 ≤ L) (hL : L ≤ 3072) (li : LI L xs h σ c) (k : ∀ h' σ', LI L xs h' σ' (c + 1) → WP (d + 80) mL_law 1600 [some (.inr (.inr 91)), some (.inr (.inr 200)), some (.inr (.inr 294)), some (.inl (i : Int))] [] h' Q) : WP (d + 80) mL_law 1096 [some (.inr (.inr 91)), some (.inr (.inr 200)), some (.inr (.inr 294)), some (.inl (i : Int))] [] h Q := by
  obtain ⟨e1, l1⟩ := iw_1 hi hL
  have K := li.2.2.2.1
  have I := li.2.2.2.2.1
  have K2 := li.1.1.1
  simp only [rL_law_1096, rL_law_1097, rL_law_1098, rL_law_1099, rL_law_1100, rL_law_1101, rL_law_1102, K, I, Cs_K200 K2, Cs_R200_0 K2, Cs_R200_1 K2, Cs_R200_2 K2, Cs_R200_3 K2, Cs_R200_4 K2, Cs_R200_5 K2, Cs_R200_6 K2, Cs_K201 K2, Cs_R201_0 K2, Cs_R201_1 K2, Cs_K202 K2, Cs_K203 K2, Cs_K211 K2, Cs_R211_0 K2, Cs_R211_1 K2, Cs_K212 K2, Cs_K213 K2, Cs_K214 K2, Cs_R214_0 K2, Cs_R214_1 K2, Cs_K215 K2, Cs_K216 K2, Cs_K217 K2, Cs_R217_0 K2, Cs_R217_1 K2, Cs_K218 K2, Cs_K219 K2, Cs_K220 K2, Cs_R220_0 K2, Cs_K221 K2, Cs_K262 K2, Cs_K271 K2, Cs_R271_0 K2, Cs_R271_1 K2, Cs_K272 K2, Cs_K276 K2, Cs_R272_0 K2, Cs_R276_0 K2, Cs_K273 K2, Cs_R273_0 K2, Cs_R273_1 K2, Cs_K274 K2, Cs_K275 K2, Cs_K277 K2, Cs_R277_0 K2, Cs_R277_1 K2, Cs_K278 K2, Cs_K279 K2, Cs_R262_0 K2, Cs_K263 K2, Cs_R263_0 K2, Cs_K264 K2, Cs_R262_1 K2, Cs_K265 K2, Cs_R265_0 K2, Cs_K266 K2, Cs_R262_2 K2, Cs_K267 K2, Cs_R267_0 K2, Cs_K268 K2, Cs_R262_3 K2, Cs_K269 K2, Cs_R269_0 K2, Cs_K270 K2, e1, l1, Int.toNat_natCast, Int.natCast_nonneg, true_and, and_true, and_self, if_true, if_false, or_true, true_or, or_false, false_or, ne_eq, not_true_eq_false, not_false_eq_true, Nat.reduceLeDiff, Nat.reduceEqDiff, Nat.reduceLT, Nat.reduceAdd, Nat.reduceMul, Nat.reduceSub, Int.reduceLT, Int.reduceLE, Int.reduceEq, Int.reduceToNat, Int.reduceAdd, Int.reduceSub, Int.reduceMul, Int.reduceNeg, Int.cast_ofNat_Int, false_and, and_false]
  obtain ⟨v, s', w', cs, rs⟩ := L_suspects (d := d) li.2.2.1 (t := (xs (i + 1)).toInt)
  refine cs h _ li.1 li.2.2.1 ?_
  intro h1 x1 f1
  have lm := li.mid x1 f1
  have K1 := lm.2.2.2.1
  have I1 := lm.2.2.2.2.1
  have M1 := lm.2.1.1
  simp only [psh_some, rL_law_1105, rL_law_1106, rL_law_1107, rL_law_1108, rL_law_1109, rL_law_1110, rL_law_1111, K1, I1, Md_K280 M1, e1, l1, Int.toNat_natCast, Int.natCast_nonneg, true_and, and_true, and_self, if_true, if_false, or_true, true_or, or_false, false_or, ne_eq, not_true_eq_false, not_false_eq_true, Nat.reduceLeDiff, Nat.reduceEqDiff, Nat.reduceLT, Nat.reduceAdd, Nat.reduceMul, Nat.reduceSub, Int.reduceLT, Int.reduceLE, Int.reduceEq, Int.reduceToNat, Int.reduceAdd, Int.reduceSub, Int.reduceMul, Int.reduceNeg, Int.cast_ofNat_Int, false_and, and_false]
  refine rs h1 _ lm.2.1 lm.2.2.1 ?_
  intro h2 x2 f2
  simp only [psh_some, rL_law_1114, Int.toNat_natCast, Int.natCast_nonneg, true_and, and_true, and_self, if_true, if_false, or_true, true_or, or_false, false_or, ne_eq, not_true_eq_false, not_false_eq_true, Nat.reduceLeDiff, Nat.reduceEqDiff, Nat.reduceLT, Nat.reduceAdd, Nat.reduceMul, Nat.reduceSub, Int.reduceLT, Int.reduceLE, Int.reduceEq, Int.reduceToNat, Int.reduceAdd, Int.reduceSub, Int.reduceMul, Int.reduceNeg, Int.cast_ofNat_Int, false_and, and_false]
  exact k h2 _ (lm.fin x2 f2 w')
set_option maxHeartbeats 1000000 in
theorem lk_31 {d : Nat} {Q : Option PV → Hp → Prop} {L : Nat} {xs : Nat → Int32} {h : Hp} {σ : AS} {c i : Nat} (hi : i + 6 ≤ L) (hL : L ≤ 3072) (li : LI L xs h σ c) (k : ∀ h' σ', LI L xs h' σ' (c + 1) → WP (d + 80) mL_law 1600 [some (.inr (.inr 91)), some (.inr (.inr 200)), some (.inr (.inr 294)), some (.inl (i : Int))] [] h' Q) : WP (d + 80) mL_law 1119 [some (.inr (.inr 91)), some (.inr (.inr 200)), some (.inr (.inr 294)), some (.inl (i : Int))] [] h Q := by
  obtain ⟨e1, l1⟩ := iw_1 hi hL
  obtain ⟨e2, l2⟩ := iw_2 hi hL
  have K := li.2.2.2.1
  have I := li.2.2.2.2.1
  have K2 := li.1.1.1
  simp only [rL_law_1119, rL_law_1120, rL_law_1121, rL_law_1122, rL_law_1123, rL_law_1124, rL_law_1125, rL_law_1126, rL_law_1127, rL_law_1128, rL_law_1129, rL_law_1130, K, I, Cs_K200 K2, Cs_R200_0 K2, Cs_R200_1 K2, Cs_R200_2 K2, Cs_R200_3 K2, Cs_R200_4 K2, Cs_R200_5 K2, Cs_R200_6 K2, Cs_K201 K2, Cs_R201_0 K2, Cs_R201_1 K2, Cs_K202 K2, Cs_K203 K2, Cs_K211 K2, Cs_R211_0 K2, Cs_R211_1 K2, Cs_K212 K2, Cs_K213 K2, Cs_K214 K2, Cs_R214_0 K2, Cs_R214_1 K2, Cs_K215 K2, Cs_K216 K2, Cs_K217 K2, Cs_R217_0 K2, Cs_R217_1 K2, Cs_K218 K2, Cs_K219 K2, Cs_K220 K2, Cs_R220_0 K2, Cs_K221 K2, Cs_K262 K2, Cs_K271 K2, Cs_R271_0 K2, Cs_R271_1 K2, Cs_K272 K2, Cs_K276 K2, Cs_R272_0 K2, Cs_R276_0 K2, Cs_K273 K2, Cs_R273_0 K2, Cs_R273_1 K2, Cs_K274 K2, Cs_K275 K2, Cs_K277 K2, Cs_R277_0 K2, Cs_R277_1 K2, Cs_K278 K2, Cs_K279 K2, Cs_R262_0 K2, Cs_K263 K2, Cs_R263_0 K2, Cs_K264 K2, Cs_R262_1 K2, Cs_K265 K2, Cs_R265_0 K2, Cs_K266 K2, Cs_R262_2 K2, Cs_K267 K2, Cs_R267_0 K2, Cs_K268 K2, Cs_R262_3 K2, Cs_K269 K2, Cs_R269_0 K2, Cs_K270 K2, e1, l1, e2, l2, Int.toNat_natCast, Int.natCast_nonneg, true_and, and_true, and_self, if_true, if_false, or_true, true_or, or_false, false_or, ne_eq, not_true_eq_false, not_false_eq_true, Nat.reduceLeDiff, Nat.reduceEqDiff, Nat.reduceLT, Nat.reduceAdd, Nat.reduceMul, Nat.reduceSub, Int.reduceLT, Int.reduceLE, Int.reduceEq, Int.reduceToNat, Int.reduceAdd, Int.reduceSub, Int.reduceMul, Int.reduceNeg, Int.cast_ofNat_Int, false_and, and_false]
  obtain ⟨v, s', w', cs, rs⟩ := L_bolds (d := d) li.2.2.1 (t := (xs (i + 1)).toInt) (g := (xs (i + 2)).toInt)
  refine cs h _ li.1 li.2.2.1 ?_
  intro h1 x1 f1
  have lm := li.mid x1 f1
  have K1 := lm.2.2.2.1
  have I1 := lm.2.2.2.2.1
  have M1 := lm.2.1.1
  simp only [psh_some, rL_law_1133, rL_law_1134, rL_law_1135, rL_law_1136, rL_law_1137, rL_law_1138, rL_law_1139, rL_law_1140, rL_law_1141, rL_law_1142, rL_law_1143, rL_law_1144, K1, I1, Md_K280 M1, e1, l1, e2, l2, Int.toNat_natCast, Int.natCast_nonneg, true_and, and_true, and_self, if_true, if_false, or_true, true_or, or_false, false_or, ne_eq, not_true_eq_false, not_false_eq_true, Nat.reduceLeDiff, Nat.reduceEqDiff, Nat.reduceLT, Nat.reduceAdd, Nat.reduceMul, Nat.reduceSub, Int.reduceLT, Int.reduceLE, Int.reduceEq, Int.reduceToNat, Int.reduceAdd, Int.reduceSub, Int.reduceMul, Int.reduceNeg, Int.cast_ofNat_Int, false_and, and_false]
  refine rs h1 _ lm.2.1 lm.2.2.1 ?_
  intro h2 x2 f2
  simp only [psh_some, rL_law_1147, Int.toNat_natCast, Int.natCast_nonneg, true_and, and_true, and_self, if_true, if_false, or_true, true_or, or_false, false_or, ne_eq, not_true_eq_false, not_false_eq_true, Nat.reduceLeDiff, Nat.reduceEqDiff, Nat.reduceLT, Nat.reduceAdd, Nat.reduceMul, Nat.reduceSub, Int.reduceLT, Int.reduceLE, Int.reduceEq, Int.reduceToNat, Int.reduceAdd, Int.reduceSub, Int.reduceMul, Int.reduceNeg, Int.cast_ofNat_Int, false_and, and_false]
  exact k h2 _ (lm.fin x2 f2 w')
set_option maxHeartbeats 1000000 in
theorem lk_32 {d : Nat} {Q : Option PV → Hp → Prop} {L : Nat} {xs : Nat → Int32} {h : Hp} {σ : AS} {c i : Nat} (hi : i + 6 ≤ L) (hL : L ≤ 3072) (li : LI L xs h σ c) (k : ∀ h' σ', LI L xs h' σ' (c + 1) → WP (d + 80) mL_law 1600 [some (.inr (.inr 91)), some (.inr (.inr 200)), some (.inr (.inr 294)), some (.inl (i : Int))] [] h' Q) : WP (d + 80) mL_law 1152 [some (.inr (.inr 91)), some (.inr (.inr 200)), some (.inr (.inr 294)), some (.inl (i : Int))] [] h Q := by
  obtain ⟨e1, l1⟩ := iw_1 hi hL
  obtain ⟨e2, l2⟩ := iw_2 hi hL
  have K := li.2.2.2.1
  have I := li.2.2.2.2.1
  have K2 := li.1.1.1
  simp only [rL_law_1152, rL_law_1153, rL_law_1154, rL_law_1155, rL_law_1156, rL_law_1157, rL_law_1158, rL_law_1159, rL_law_1160, rL_law_1161, rL_law_1162, rL_law_1163, K, I, Cs_K200 K2, Cs_R200_0 K2, Cs_R200_1 K2, Cs_R200_2 K2, Cs_R200_3 K2, Cs_R200_4 K2, Cs_R200_5 K2, Cs_R200_6 K2, Cs_K201 K2, Cs_R201_0 K2, Cs_R201_1 K2, Cs_K202 K2, Cs_K203 K2, Cs_K211 K2, Cs_R211_0 K2, Cs_R211_1 K2, Cs_K212 K2, Cs_K213 K2, Cs_K214 K2, Cs_R214_0 K2, Cs_R214_1 K2, Cs_K215 K2, Cs_K216 K2, Cs_K217 K2, Cs_R217_0 K2, Cs_R217_1 K2, Cs_K218 K2, Cs_K219 K2, Cs_K220 K2, Cs_R220_0 K2, Cs_K221 K2, Cs_K262 K2, Cs_K271 K2, Cs_R271_0 K2, Cs_R271_1 K2, Cs_K272 K2, Cs_K276 K2, Cs_R272_0 K2, Cs_R276_0 K2, Cs_K273 K2, Cs_R273_0 K2, Cs_R273_1 K2, Cs_K274 K2, Cs_K275 K2, Cs_K277 K2, Cs_R277_0 K2, Cs_R277_1 K2, Cs_K278 K2, Cs_K279 K2, Cs_R262_0 K2, Cs_K263 K2, Cs_R263_0 K2, Cs_K264 K2, Cs_R262_1 K2, Cs_K265 K2, Cs_R265_0 K2, Cs_K266 K2, Cs_R262_2 K2, Cs_K267 K2, Cs_R267_0 K2, Cs_K268 K2, Cs_R262_3 K2, Cs_K269 K2, Cs_R269_0 K2, Cs_K270 K2, e1, l1, e2, l2, Int.toNat_natCast, Int.natCast_nonneg, true_and, and_true, and_self, if_true, if_false, or_true, true_or, or_false, false_or, ne_eq, not_true_eq_false, not_false_eq_true, Nat.reduceLeDiff, Nat.reduceEqDiff, Nat.reduceLT, Nat.reduceAdd, Nat.reduceMul, Nat.reduceSub, Int.reduceLT, Int.reduceLE, Int.reduceEq, Int.reduceToNat, Int.reduceAdd, Int.reduceSub, Int.reduceMul, Int.reduceNeg, Int.cast_ofNat_Int, false_and, and_false]
  obtain ⟨v, s', w', cs, rs⟩ := L_nexts (d := d) li.2.2.1 (t := (xs (i + 1)).toInt) (g := (xs (i + 2)).toInt)
  refine cs h _ li.1 li.2.2.1 ?_
  intro h1 x1 f1
  have lm := li.mid x1 f1
  have K1 := lm.2.2.2.1
  have I1 := lm.2.2.2.2.1
  have M1 := lm.2.1.1
  simp only [psh_some, rL_law_1166, rL_law_1167, rL_law_1168, rL_law_1169, rL_law_1170, rL_law_1171, rL_law_1172, rL_law_1173, rL_law_1174, rL_law_1175, rL_law_1176, rL_law_1177, K1, I1, Md_K280 M1, e1, l1, e2, l2, Int.toNat_natCast, Int.natCast_nonneg, true_and, and_true, and_self, if_true, if_false, or_true, true_or, or_false, false_or, ne_eq, not_true_eq_false, not_false_eq_true, Nat.reduceLeDiff, Nat.reduceEqDiff, Nat.reduceLT, Nat.reduceAdd, Nat.reduceMul, Nat.reduceSub, Int.reduceLT, Int.reduceLE, Int.reduceEq, Int.reduceToNat, Int.reduceAdd, Int.reduceSub, Int.reduceMul, Int.reduceNeg, Int.cast_ofNat_Int, false_and, and_false]
  refine rs h1 _ lm.2.1 lm.2.2.1 ?_
  intro h2 x2 f2
  simp only [psh_some, rL_law_1180, Int.toNat_natCast, Int.natCast_nonneg, true_and, and_true, and_self, if_true, if_false, or_true, true_or, or_false, false_or, ne_eq, not_true_eq_false, not_false_eq_true, Nat.reduceLeDiff, Nat.reduceEqDiff, Nat.reduceLT, Nat.reduceAdd, Nat.reduceMul, Nat.reduceSub, Int.reduceLT, Int.reduceLE, Int.reduceEq, Int.reduceToNat, Int.reduceAdd, Int.reduceSub, Int.reduceMul, Int.reduceNeg, Int.cast_ofNat_Int, false_and, and_false]
  exact k h2 _ (lm.fin x2 f2 w')
set_option maxHeartbeats 1000000 in
theorem lk_33 {d : Nat} {Q : Option PV → Hp → Prop} {L : Nat} {xs : Nat → Int32} {h : Hp} {σ : AS} {c i : Nat} (hi : i + 6 ≤ L) (hL : L ≤ 3072) (li : LI L xs h σ c) (k : ∀ h' σ', LI L xs h' σ' (c + 1) → WP (d + 80) mL_law 1600 [some (.inr (.inr 91)), some (.inr (.inr 200)), some (.inr (.inr 294)), some (.inl (i : Int))] [] h' Q) : WP (d + 80) mL_law 1185 [some (.inr (.inr 91)), some (.inr (.inr 200)), some (.inr (.inr 294)), some (.inl (i : Int))] [] h Q := by
  obtain ⟨e1, l1⟩ := iw_1 hi hL
  obtain ⟨e2, l2⟩ := iw_2 hi hL
  obtain ⟨e3, l3⟩ := iw_3 hi hL
  have K := li.2.2.2.1
  have I := li.2.2.2.2.1
  have K2 := li.1.1.1
  simp only [rL_law_1185, rL_law_1186, rL_law_1187, rL_law_1188, rL_law_1189, rL_law_1190, rL_law_1191, rL_law_1192, rL_law_1193, rL_law_1194, rL_law_1195, rL_law_1196, rL_law_1197, rL_law_1198, rL_law_1199, rL_law_1200, rL_law_1201, K, I, Cs_K200 K2, Cs_R200_0 K2, Cs_R200_1 K2, Cs_R200_2 K2, Cs_R200_3 K2, Cs_R200_4 K2, Cs_R200_5 K2, Cs_R200_6 K2, Cs_K201 K2, Cs_R201_0 K2, Cs_R201_1 K2, Cs_K202 K2, Cs_K203 K2, Cs_K211 K2, Cs_R211_0 K2, Cs_R211_1 K2, Cs_K212 K2, Cs_K213 K2, Cs_K214 K2, Cs_R214_0 K2, Cs_R214_1 K2, Cs_K215 K2, Cs_K216 K2, Cs_K217 K2, Cs_R217_0 K2, Cs_R217_1 K2, Cs_K218 K2, Cs_K219 K2, Cs_K220 K2, Cs_R220_0 K2, Cs_K221 K2, Cs_K262 K2, Cs_K271 K2, Cs_R271_0 K2, Cs_R271_1 K2, Cs_K272 K2, Cs_K276 K2, Cs_R272_0 K2, Cs_R276_0 K2, Cs_K273 K2, Cs_R273_0 K2, Cs_R273_1 K2, Cs_K274 K2, Cs_K275 K2, Cs_K277 K2, Cs_R277_0 K2, Cs_R277_1 K2, Cs_K278 K2, Cs_K279 K2, Cs_R262_0 K2, Cs_K263 K2, Cs_R263_0 K2, Cs_K264 K2, Cs_R262_1 K2, Cs_K265 K2, Cs_R265_0 K2, Cs_K266 K2, Cs_R262_2 K2, Cs_K267 K2, Cs_R267_0 K2, Cs_K268 K2, Cs_R262_3 K2, Cs_K269 K2, Cs_R269_0 K2, Cs_K270 K2, e1, l1, e2, l2, e3, l3, Int.toNat_natCast, Int.natCast_nonneg, true_and, and_true, and_self, if_true, if_false, or_true, true_or, or_false, false_or, ne_eq, not_true_eq_false, not_false_eq_true, Nat.reduceLeDiff, Nat.reduceEqDiff, Nat.reduceLT, Nat.reduceAdd, Nat.reduceMul, Nat.reduceSub, Int.reduceLT, Int.reduceLE, Int.reduceEq, Int.reduceToNat, Int.reduceAdd, Int.reduceSub, Int.reduceMul, Int.reduceNeg, Int.cast_ofNat_Int, false_and, and_false]
  obtain ⟨v, s', w', cs, rs⟩ := L_forces (d := d) li.2.2.1 (t := (xs (i + 1)).toInt) (a := (xs (i + 2)).toInt) (b := (xs (i + 3)).toInt) (xs_i _) (xs_i _)
  refine cs h _ li.1 li.2.2.1 ?_
  intro h1 x1 f1
  have lm := li.mid x1 f1
  have K1 := lm.2.2.2.1
  have I1 := lm.2.2.2.2.1
  have M1 := lm.2.1.1
  simp only [psh_some, rL_law_1204, rL_law_1205, rL_law_1206, rL_law_1207, rL_law_1208, rL_law_1209, rL_law_1210, rL_law_1211, rL_law_1212, rL_law_1213, rL_law_1214, rL_law_1215, rL_law_1216, rL_law_1217, rL_law_1218, rL_law_1219, rL_law_1220, K1, I1, Md_K280 M1, e1, l1, e2, l2, e3, l3, Int.toNat_natCast, Int.natCast_nonneg, true_and, and_true, and_self, if_true, if_false, or_true, true_or, or_false, false_or, ne_eq, not_true_eq_false, not_false_eq_true, Nat.reduceLeDiff, Nat.reduceEqDiff, Nat.reduceLT, Nat.reduceAdd, Nat.reduceMul, Nat.reduceSub, Int.reduceLT, Int.reduceLE, Int.reduceEq, Int.reduceToNat, Int.reduceAdd, Int.reduceSub, Int.reduceMul, Int.reduceNeg, Int.cast_ofNat_Int, false_and, and_false]
  refine rs h1 _ lm.2.1 lm.2.2.1 ?_
  intro h2 x2 f2
  simp only [psh_some, rL_law_1223, Int.toNat_natCast, Int.natCast_nonneg, true_and, and_true, and_self, if_true, if_false, or_true, true_or, or_false, false_or, ne_eq, not_true_eq_false, not_false_eq_true, Nat.reduceLeDiff, Nat.reduceEqDiff, Nat.reduceLT, Nat.reduceAdd, Nat.reduceMul, Nat.reduceSub, Int.reduceLT, Int.reduceLE, Int.reduceEq, Int.reduceToNat, Int.reduceAdd, Int.reduceSub, Int.reduceMul, Int.reduceNeg, Int.cast_ofNat_Int, false_and, and_false]
  exact k h2 _ (lm.fin x2 f2 w')
set_option maxHeartbeats 1000000 in
theorem lk_34 {d : Nat} {Q : Option PV → Hp → Prop} {L : Nat} {xs : Nat → Int32} {h : Hp} {σ : AS} {c i : Nat} (hi : i + 6 ≤ L) (hL : L ≤ 3072) (li : LI L xs h σ c) (k : ∀ h' σ', LI L xs h' σ' (c + 1) → WP (d + 80) mL_law 1600 [some (.inr (.inr 91)), some (.inr (.inr 200)), some (.inr (.inr 294)), some (.inl (i : Int))] [] h' Q) : WP (d + 80) mL_law 1228 [some (.inr (.inr 91)), some (.inr (.inr 200)), some (.inr (.inr 294)), some (.inl (i : Int))] [] h Q := by
  obtain ⟨e1, l1⟩ := iw_1 hi hL
  obtain ⟨e2, l2⟩ := iw_2 hi hL
  obtain ⟨e3, l3⟩ := iw_3 hi hL
  have K := li.2.2.2.1
  have I := li.2.2.2.2.1
  have K2 := li.1.1.1
  simp only [rL_law_1228, rL_law_1229, rL_law_1230, rL_law_1231, rL_law_1232, rL_law_1233, rL_law_1234, rL_law_1235, rL_law_1236, rL_law_1237, rL_law_1238, rL_law_1239, rL_law_1240, rL_law_1241, rL_law_1242, rL_law_1243, rL_law_1244, K, I, Cs_K200 K2, Cs_R200_0 K2, Cs_R200_1 K2, Cs_R200_2 K2, Cs_R200_3 K2, Cs_R200_4 K2, Cs_R200_5 K2, Cs_R200_6 K2, Cs_K201 K2, Cs_R201_0 K2, Cs_R201_1 K2, Cs_K202 K2, Cs_K203 K2, Cs_K211 K2, Cs_R211_0 K2, Cs_R211_1 K2, Cs_K212 K2, Cs_K213 K2, Cs_K214 K2, Cs_R214_0 K2, Cs_R214_1 K2, Cs_K215 K2, Cs_K216 K2, Cs_K217 K2, Cs_R217_0 K2, Cs_R217_1 K2, Cs_K218 K2, Cs_K219 K2, Cs_K220 K2, Cs_R220_0 K2, Cs_K221 K2, Cs_K262 K2, Cs_K271 K2, Cs_R271_0 K2, Cs_R271_1 K2, Cs_K272 K2, Cs_K276 K2, Cs_R272_0 K2, Cs_R276_0 K2, Cs_K273 K2, Cs_R273_0 K2, Cs_R273_1 K2, Cs_K274 K2, Cs_K275 K2, Cs_K277 K2, Cs_R277_0 K2, Cs_R277_1 K2, Cs_K278 K2, Cs_K279 K2, Cs_R262_0 K2, Cs_K263 K2, Cs_R263_0 K2, Cs_K264 K2, Cs_R262_1 K2, Cs_K265 K2, Cs_R265_0 K2, Cs_K266 K2, Cs_R262_2 K2, Cs_K267 K2, Cs_R267_0 K2, Cs_K268 K2, Cs_R262_3 K2, Cs_K269 K2, Cs_R269_0 K2, Cs_K270 K2, e1, l1, e2, l2, e3, l3, Int.toNat_natCast, Int.natCast_nonneg, true_and, and_true, and_self, if_true, if_false, or_true, true_or, or_false, false_or, ne_eq, not_true_eq_false, not_false_eq_true, Nat.reduceLeDiff, Nat.reduceEqDiff, Nat.reduceLT, Nat.reduceAdd, Nat.reduceMul, Nat.reduceSub, Int.reduceLT, Int.reduceLE, Int.reduceEq, Int.reduceToNat, Int.reduceAdd, Int.reduceSub, Int.reduceMul, Int.reduceNeg, Int.cast_ofNat_Int, false_and, and_false]
  obtain ⟨v, s', w', cs, rs⟩ := L_best (d := d) li.2.2.1 (t := (xs (i + 1)).toInt) (a := (xs (i + 2)).toInt) (b := (xs (i + 3)).toInt) (xs_i _) (xs_i _)
  refine cs h _ li.1 li.2.2.1 ?_
  intro h1 x1 f1
  have lm := li.mid x1 f1
  have K1 := lm.2.2.2.1
  have I1 := lm.2.2.2.2.1
  have M1 := lm.2.1.1
  simp only [psh_some, rL_law_1247, rL_law_1248, rL_law_1249, rL_law_1250, rL_law_1251, rL_law_1252, rL_law_1253, rL_law_1254, rL_law_1255, rL_law_1256, rL_law_1257, rL_law_1258, rL_law_1259, rL_law_1260, rL_law_1261, rL_law_1262, rL_law_1263, K1, I1, Md_K280 M1, e1, l1, e2, l2, e3, l3, Int.toNat_natCast, Int.natCast_nonneg, true_and, and_true, and_self, if_true, if_false, or_true, true_or, or_false, false_or, ne_eq, not_true_eq_false, not_false_eq_true, Nat.reduceLeDiff, Nat.reduceEqDiff, Nat.reduceLT, Nat.reduceAdd, Nat.reduceMul, Nat.reduceSub, Int.reduceLT, Int.reduceLE, Int.reduceEq, Int.reduceToNat, Int.reduceAdd, Int.reduceSub, Int.reduceMul, Int.reduceNeg, Int.cast_ofNat_Int, false_and, and_false]
  refine rs h1 _ lm.2.1 lm.2.2.1 ?_
  intro h2 x2 f2
  simp only [psh_some, rL_law_1266, Int.toNat_natCast, Int.natCast_nonneg, true_and, and_true, and_self, if_true, if_false, or_true, true_or, or_false, false_or, ne_eq, not_true_eq_false, not_false_eq_true, Nat.reduceLeDiff, Nat.reduceEqDiff, Nat.reduceLT, Nat.reduceAdd, Nat.reduceMul, Nat.reduceSub, Int.reduceLT, Int.reduceLE, Int.reduceEq, Int.reduceToNat, Int.reduceAdd, Int.reduceSub, Int.reduceMul, Int.reduceNeg, Int.cast_ofNat_Int, false_and, and_false]
  exact k h2 _ (lm.fin x2 f2 w')
set_option maxHeartbeats 1000000 in
theorem lk_35 {d : Nat} {Q : Option PV → Hp → Prop} {L : Nat} {xs : Nat → Int32} {h : Hp} {σ : AS} {c i : Nat} (hi : i + 6 ≤ L) (hL : L ≤ 3072) (li : LI L xs h σ c) (k : ∀ h' σ', LI L xs h' σ' (c + 1) → WP (d + 80) mL_law 1600 [some (.inr (.inr 91)), some (.inr (.inr 200)), some (.inr (.inr 294)), some (.inl (i : Int))] [] h' Q) : WP (d + 80) mL_law 1271 [some (.inr (.inr 91)), some (.inr (.inr 200)), some (.inr (.inr 294)), some (.inl (i : Int))] [] h Q := by
  obtain ⟨e1, l1⟩ := iw_1 hi hL
  obtain ⟨e2, l2⟩ := iw_2 hi hL
  have K := li.2.2.2.1
  have I := li.2.2.2.2.1
  have K2 := li.1.1.1
  simp only [rL_law_1271, rL_law_1272, rL_law_1273, rL_law_1274, rL_law_1275, rL_law_1276, rL_law_1277, rL_law_1278, rL_law_1279, rL_law_1280, rL_law_1281, rL_law_1282, K, I, Cs_K200 K2, Cs_R200_0 K2, Cs_R200_1 K2, Cs_R200_2 K2, Cs_R200_3 K2, Cs_R200_4 K2, Cs_R200_5 K2, Cs_R200_6 K2, Cs_K201 K2, Cs_R201_0 K2, Cs_R201_1 K2, Cs_K202 K2, Cs_K203 K2, Cs_K211 K2, Cs_R211_0 K2, Cs_R211_1 K2, Cs_K212 K2, Cs_K213 K2, Cs_K214 K2, Cs_R214_0 K2, Cs_R214_1 K2, Cs_K215 K2, Cs_K216 K2, Cs_K217 K2, Cs_R217_0 K2, Cs_R217_1 K2, Cs_K218 K2, Cs_K219 K2, Cs_K220 K2, Cs_R220_0 K2, Cs_K221 K2, Cs_K262 K2, Cs_K271 K2, Cs_R271_0 K2, Cs_R271_1 K2, Cs_K272 K2, Cs_K276 K2, Cs_R272_0 K2, Cs_R276_0 K2, Cs_K273 K2, Cs_R273_0 K2, Cs_R273_1 K2, Cs_K274 K2, Cs_K275 K2, Cs_K277 K2, Cs_R277_0 K2, Cs_R277_1 K2, Cs_K278 K2, Cs_K279 K2, Cs_R262_0 K2, Cs_K263 K2, Cs_R263_0 K2, Cs_K264 K2, Cs_R262_1 K2, Cs_K265 K2, Cs_R265_0 K2, Cs_K266 K2, Cs_R262_2 K2, Cs_K267 K2, Cs_R267_0 K2, Cs_K268 K2, Cs_R262_3 K2, Cs_K269 K2, Cs_R269_0 K2, Cs_K270 K2, e1, l1, e2, l2, Int.toNat_natCast, Int.natCast_nonneg, true_and, and_true, and_self, if_true, if_false, or_true, true_or, or_false, false_or, ne_eq, not_true_eq_false, not_false_eq_true, Nat.reduceLeDiff, Nat.reduceEqDiff, Nat.reduceLT, Nat.reduceAdd, Nat.reduceMul, Nat.reduceSub, Int.reduceLT, Int.reduceLE, Int.reduceEq, Int.reduceToNat, Int.reduceAdd, Int.reduceSub, Int.reduceMul, Int.reduceNeg, Int.cast_ofNat_Int, false_and, and_false]
  obtain ⟨v, s', w', cs, rs⟩ := L_power (d := d) li.2.2.1 (a := (xs (i + 1)).toInt) (b := (xs (i + 2)).toInt) (xs_i _) (xs_i _)
  refine cs h _ li.1 li.2.2.1 ?_
  intro h1 x1 f1
  have lm := li.mid x1 f1
  have K1 := lm.2.2.2.1
  have I1 := lm.2.2.2.2.1
  have M1 := lm.2.1.1
  simp only [psh_some, rL_law_1285, rL_law_1286, rL_law_1287, rL_law_1288, rL_law_1289, rL_law_1290, rL_law_1291, rL_law_1292, rL_law_1293, rL_law_1294, rL_law_1295, rL_law_1296, K1, I1, Md_K280 M1, e1, l1, e2, l2, Int.toNat_natCast, Int.natCast_nonneg, true_and, and_true, and_self, if_true, if_false, or_true, true_or, or_false, false_or, ne_eq, not_true_eq_false, not_false_eq_true, Nat.reduceLeDiff, Nat.reduceEqDiff, Nat.reduceLT, Nat.reduceAdd, Nat.reduceMul, Nat.reduceSub, Int.reduceLT, Int.reduceLE, Int.reduceEq, Int.reduceToNat, Int.reduceAdd, Int.reduceSub, Int.reduceMul, Int.reduceNeg, Int.cast_ofNat_Int, false_and, and_false]
  refine rs h1 _ lm.2.1 lm.2.2.1 ?_
  intro h2 x2 f2
  simp only [psh_some, rL_law_1299, Int.toNat_natCast, Int.natCast_nonneg, true_and, and_true, and_self, if_true, if_false, or_true, true_or, or_false, false_or, ne_eq, not_true_eq_false, not_false_eq_true, Nat.reduceLeDiff, Nat.reduceEqDiff, Nat.reduceLT, Nat.reduceAdd, Nat.reduceMul, Nat.reduceSub, Int.reduceLT, Int.reduceLE, Int.reduceEq, Int.reduceToNat, Int.reduceAdd, Int.reduceSub, Int.reduceMul, Int.reduceNeg, Int.cast_ofNat_Int, false_and, and_false]
  exact k h2 _ (lm.fin x2 f2 w')
set_option maxHeartbeats 1000000 in
theorem lk_36 {d : Nat} {Q : Option PV → Hp → Prop} {L : Nat} {xs : Nat → Int32} {h : Hp} {σ : AS} {c i : Nat} (hi : i + 6 ≤ L) (hL : L ≤ 3072) (li : LI L xs h σ c) (k : ∀ h' σ', LI L xs h' σ' (c + 1) → WP (d + 80) mL_law 1600 [some (.inr (.inr 91)), some (.inr (.inr 200)), some (.inr (.inr 294)), some (.inl (i : Int))] [] h' Q) : WP (d + 80) mL_law 1304 [some (.inr (.inr 91)), some (.inr (.inr 200)), some (.inr (.inr 294)), some (.inl (i : Int))] [] h Q := by
  obtain ⟨e1, l1⟩ := iw_1 hi hL
  obtain ⟨e2, l2⟩ := iw_2 hi hL
  obtain ⟨e3, l3⟩ := iw_3 hi hL
  have K := li.2.2.2.1
  have I := li.2.2.2.2.1
  have K2 := li.1.1.1
  simp only [rL_law_1304, rL_law_1305, rL_law_1306, rL_law_1307, rL_law_1308, rL_law_1309, rL_law_1310, rL_law_1311, rL_law_1312, rL_law_1313, rL_law_1314, rL_law_1315, rL_law_1316, rL_law_1317, rL_law_1318, rL_law_1319, rL_law_1320, K, I, Cs_K200 K2, Cs_R200_0 K2, Cs_R200_1 K2, Cs_R200_2 K2, Cs_R200_3 K2, Cs_R200_4 K2, Cs_R200_5 K2, Cs_R200_6 K2, Cs_K201 K2, Cs_R201_0 K2, Cs_R201_1 K2, Cs_K202 K2, Cs_K203 K2, Cs_K211 K2, Cs_R211_0 K2, Cs_R211_1 K2, Cs_K212 K2, Cs_K213 K2, Cs_K214 K2, Cs_R214_0 K2, Cs_R214_1 K2, Cs_K215 K2, Cs_K216 K2, Cs_K217 K2, Cs_R217_0 K2, Cs_R217_1 K2, Cs_K218 K2, Cs_K219 K2, Cs_K220 K2, Cs_R220_0 K2, Cs_K221 K2, Cs_K262 K2, Cs_K271 K2, Cs_R271_0 K2, Cs_R271_1 K2, Cs_K272 K2, Cs_K276 K2, Cs_R272_0 K2, Cs_R276_0 K2, Cs_K273 K2, Cs_R273_0 K2, Cs_R273_1 K2, Cs_K274 K2, Cs_K275 K2, Cs_K277 K2, Cs_R277_0 K2, Cs_R277_1 K2, Cs_K278 K2, Cs_K279 K2, Cs_R262_0 K2, Cs_K263 K2, Cs_R263_0 K2, Cs_K264 K2, Cs_R262_1 K2, Cs_K265 K2, Cs_R265_0 K2, Cs_K266 K2, Cs_R262_2 K2, Cs_K267 K2, Cs_R267_0 K2, Cs_K268 K2, Cs_R262_3 K2, Cs_K269 K2, Cs_R269_0 K2, Cs_K270 K2, e1, l1, e2, l2, e3, l3, Int.toNat_natCast, Int.natCast_nonneg, true_and, and_true, and_self, if_true, if_false, or_true, true_or, or_false, false_or, ne_eq, not_true_eq_false, not_false_eq_true, Nat.reduceLeDiff, Nat.reduceEqDiff, Nat.reduceLT, Nat.reduceAdd, Nat.reduceMul, Nat.reduceSub, Int.reduceLT, Int.reduceLE, Int.reduceEq, Int.reduceToNat, Int.reduceAdd, Int.reduceSub, Int.reduceMul, Int.reduceNeg, Int.cast_ofNat_Int, false_and, and_false]
  obtain ⟨v, s', w', cs, rs⟩ := L_chance (d := d) li.2.2.1 (t := (xs (i + 1)).toInt) (n := (xs (i + 2)).toInt) (wh := (xs (i + 3)).toInt)
  refine cs h _ li.1 li.2.2.1 ?_
  intro h1 x1 f1
  have lm := li.mid x1 f1
  have K1 := lm.2.2.2.1
  have I1 := lm.2.2.2.2.1
  have M1 := lm.2.1.1
  simp only [psh_some, rL_law_1323, rL_law_1324, rL_law_1325, rL_law_1326, rL_law_1327, rL_law_1328, rL_law_1329, rL_law_1330, rL_law_1331, rL_law_1332, rL_law_1333, rL_law_1334, rL_law_1335, rL_law_1336, rL_law_1337, rL_law_1338, rL_law_1339, K1, I1, Md_K280 M1, e1, l1, e2, l2, e3, l3, Int.toNat_natCast, Int.natCast_nonneg, true_and, and_true, and_self, if_true, if_false, or_true, true_or, or_false, false_or, ne_eq, not_true_eq_false, not_false_eq_true, Nat.reduceLeDiff, Nat.reduceEqDiff, Nat.reduceLT, Nat.reduceAdd, Nat.reduceMul, Nat.reduceSub, Int.reduceLT, Int.reduceLE, Int.reduceEq, Int.reduceToNat, Int.reduceAdd, Int.reduceSub, Int.reduceMul, Int.reduceNeg, Int.cast_ofNat_Int, false_and, and_false]
  refine rs h1 _ lm.2.1 lm.2.2.1 ?_
  intro h2 x2 f2
  simp only [psh_some, rL_law_1342, rL_law_1343, lcm_self, Int.toNat_natCast, Int.natCast_nonneg, true_and, and_true, and_self, if_true, if_false, or_true, true_or, or_false, false_or, ne_eq, not_true_eq_false, not_false_eq_true, Nat.reduceLeDiff, Nat.reduceEqDiff, Nat.reduceLT, Nat.reduceAdd, Nat.reduceMul, Nat.reduceSub, Int.reduceLT, Int.reduceLE, Int.reduceEq, Int.reduceToNat, Int.reduceAdd, Int.reduceSub, Int.reduceMul, Int.reduceNeg, Int.cast_ofNat_Int, false_and, and_false]
  exact k h2 _ (lm.fin x2 f2 w')
set_option maxHeartbeats 1000000 in
theorem lk_37 {d : Nat} {Q : Option PV → Hp → Prop} {L : Nat} {xs : Nat → Int32} {h : Hp} {σ : AS} {c i : Nat} (hi : i + 6 ≤ L) (hL : L ≤ 3072) (li : LI L xs h σ c) (k : ∀ h' σ', LI L xs h' σ' (c + 1) → WP (d + 80) mL_law 1600 [some (.inr (.inr 91)), some (.inr (.inr 200)), some (.inr (.inr 294)), some (.inl (i : Int))] [] h' Q) : WP (d + 80) mL_law 1348 [some (.inr (.inr 91)), some (.inr (.inr 200)), some (.inr (.inr 294)), some (.inl (i : Int))] [] h Q := by
  obtain ⟨e1, l1⟩ := iw_1 hi hL
  have K := li.2.2.2.1
  have I := li.2.2.2.2.1
  have K2 := li.1.1.1
  simp only [rL_law_1348, rL_law_1349, rL_law_1350, rL_law_1351, rL_law_1352, rL_law_1353, rL_law_1354, K, I, Cs_K200 K2, Cs_R200_0 K2, Cs_R200_1 K2, Cs_R200_2 K2, Cs_R200_3 K2, Cs_R200_4 K2, Cs_R200_5 K2, Cs_R200_6 K2, Cs_K201 K2, Cs_R201_0 K2, Cs_R201_1 K2, Cs_K202 K2, Cs_K203 K2, Cs_K211 K2, Cs_R211_0 K2, Cs_R211_1 K2, Cs_K212 K2, Cs_K213 K2, Cs_K214 K2, Cs_R214_0 K2, Cs_R214_1 K2, Cs_K215 K2, Cs_K216 K2, Cs_K217 K2, Cs_R217_0 K2, Cs_R217_1 K2, Cs_K218 K2, Cs_K219 K2, Cs_K220 K2, Cs_R220_0 K2, Cs_K221 K2, Cs_K262 K2, Cs_K271 K2, Cs_R271_0 K2, Cs_R271_1 K2, Cs_K272 K2, Cs_K276 K2, Cs_R272_0 K2, Cs_R276_0 K2, Cs_K273 K2, Cs_R273_0 K2, Cs_R273_1 K2, Cs_K274 K2, Cs_K275 K2, Cs_K277 K2, Cs_R277_0 K2, Cs_R277_1 K2, Cs_K278 K2, Cs_K279 K2, Cs_R262_0 K2, Cs_K263 K2, Cs_R263_0 K2, Cs_K264 K2, Cs_R262_1 K2, Cs_K265 K2, Cs_R265_0 K2, Cs_K266 K2, Cs_R262_2 K2, Cs_K267 K2, Cs_R267_0 K2, Cs_K268 K2, Cs_R262_3 K2, Cs_K269 K2, Cs_R269_0 K2, Cs_K270 K2, e1, l1, Int.toNat_natCast, Int.natCast_nonneg, true_and, and_true, and_self, if_true, if_false, or_true, true_or, or_false, false_or, ne_eq, not_true_eq_false, not_false_eq_true, Nat.reduceLeDiff, Nat.reduceEqDiff, Nat.reduceLT, Nat.reduceAdd, Nat.reduceMul, Nat.reduceSub, Int.reduceLT, Int.reduceLE, Int.reduceEq, Int.reduceToNat, Int.reduceAdd, Int.reduceSub, Int.reduceMul, Int.reduceNeg, Int.cast_ofNat_Int, false_and, and_false]
  obtain ⟨v, s', w', cs, rs⟩ := L_likeliest (d := d) li.2.2.1 (n := (xs (i + 1)).toInt)
  refine cs h _ li.1 li.2.2.1 ?_
  intro h1 x1 f1
  have lm := li.mid x1 f1
  have K1 := lm.2.2.2.1
  have I1 := lm.2.2.2.2.1
  have M1 := lm.2.1.1
  simp only [psh_some, rL_law_1357, rL_law_1358, rL_law_1359, rL_law_1360, rL_law_1361, rL_law_1362, rL_law_1363, K1, I1, Md_K280 M1, e1, l1, Int.toNat_natCast, Int.natCast_nonneg, true_and, and_true, and_self, if_true, if_false, or_true, true_or, or_false, false_or, ne_eq, not_true_eq_false, not_false_eq_true, Nat.reduceLeDiff, Nat.reduceEqDiff, Nat.reduceLT, Nat.reduceAdd, Nat.reduceMul, Nat.reduceSub, Int.reduceLT, Int.reduceLE, Int.reduceEq, Int.reduceToNat, Int.reduceAdd, Int.reduceSub, Int.reduceMul, Int.reduceNeg, Int.cast_ofNat_Int, false_and, and_false]
  refine rs h1 _ lm.2.1 lm.2.2.1 ?_
  intro h2 x2 f2
  simp only [psh_some, rL_law_1366, Int.toNat_natCast, Int.natCast_nonneg, true_and, and_true, and_self, if_true, if_false, or_true, true_or, or_false, false_or, ne_eq, not_true_eq_false, not_false_eq_true, Nat.reduceLeDiff, Nat.reduceEqDiff, Nat.reduceLT, Nat.reduceAdd, Nat.reduceMul, Nat.reduceSub, Int.reduceLT, Int.reduceLE, Int.reduceEq, Int.reduceToNat, Int.reduceAdd, Int.reduceSub, Int.reduceMul, Int.reduceNeg, Int.cast_ofNat_Int, false_and, and_false]
  exact k h2 _ (lm.fin x2 f2 w')
set_option maxHeartbeats 1000000 in
theorem lk_38 {d : Nat} {Q : Option PV → Hp → Prop} {L : Nat} {xs : Nat → Int32} {h : Hp} {σ : AS} {c i : Nat} (hi : i + 6 ≤ L) (hL : L ≤ 3072) (li : LI L xs h σ c) (k : ∀ h' σ', LI L xs h' σ' (c + 1) → WP (d + 80) mL_law 1600 [some (.inr (.inr 91)), some (.inr (.inr 200)), some (.inr (.inr 294)), some (.inl (i : Int))] [] h' Q) : WP (d + 80) mL_law 1371 [some (.inr (.inr 91)), some (.inr (.inr 200)), some (.inr (.inr 294)), some (.inl (i : Int))] [] h Q := by
  obtain ⟨e1, l1⟩ := iw_1 hi hL
  obtain ⟨e2, l2⟩ := iw_2 hi hL
  obtain ⟨e3, l3⟩ := iw_3 hi hL
  have K := li.2.2.2.1
  have I := li.2.2.2.2.1
  have K2 := li.1.1.1
  simp only [rL_law_1371, rL_law_1372, rL_law_1373, rL_law_1374, rL_law_1375, rL_law_1376, rL_law_1377, rL_law_1378, rL_law_1379, rL_law_1380, rL_law_1381, rL_law_1382, rL_law_1383, rL_law_1384, rL_law_1385, rL_law_1386, rL_law_1387, K, I, Cs_K200 K2, Cs_R200_0 K2, Cs_R200_1 K2, Cs_R200_2 K2, Cs_R200_3 K2, Cs_R200_4 K2, Cs_R200_5 K2, Cs_R200_6 K2, Cs_K201 K2, Cs_R201_0 K2, Cs_R201_1 K2, Cs_K202 K2, Cs_K203 K2, Cs_K211 K2, Cs_R211_0 K2, Cs_R211_1 K2, Cs_K212 K2, Cs_K213 K2, Cs_K214 K2, Cs_R214_0 K2, Cs_R214_1 K2, Cs_K215 K2, Cs_K216 K2, Cs_K217 K2, Cs_R217_0 K2, Cs_R217_1 K2, Cs_K218 K2, Cs_K219 K2, Cs_K220 K2, Cs_R220_0 K2, Cs_K221 K2, Cs_K262 K2, Cs_K271 K2, Cs_R271_0 K2, Cs_R271_1 K2, Cs_K272 K2, Cs_K276 K2, Cs_R272_0 K2, Cs_R276_0 K2, Cs_K273 K2, Cs_R273_0 K2, Cs_R273_1 K2, Cs_K274 K2, Cs_K275 K2, Cs_K277 K2, Cs_R277_0 K2, Cs_R277_1 K2, Cs_K278 K2, Cs_K279 K2, Cs_R262_0 K2, Cs_K263 K2, Cs_R263_0 K2, Cs_K264 K2, Cs_R262_1 K2, Cs_K265 K2, Cs_R265_0 K2, Cs_K266 K2, Cs_R262_2 K2, Cs_K267 K2, Cs_R267_0 K2, Cs_K268 K2, Cs_R262_3 K2, Cs_K269 K2, Cs_R269_0 K2, Cs_K270 K2, e1, l1, e2, l2, e3, l3, Int.toNat_natCast, Int.natCast_nonneg, true_and, and_true, and_self, if_true, if_false, or_true, true_or, or_false, false_or, ne_eq, not_true_eq_false, not_false_eq_true, Nat.reduceLeDiff, Nat.reduceEqDiff, Nat.reduceLT, Nat.reduceAdd, Nat.reduceMul, Nat.reduceSub, Int.reduceLT, Int.reduceLE, Int.reduceEq, Int.reduceToNat, Int.reduceAdd, Int.reduceSub, Int.reduceMul, Int.reduceNeg, Int.cast_ofNat_Int, false_and, and_false]
  obtain ⟨v, s', w', cs, rs⟩ := L_numbers (d := d) li.2.2.1 (t := (xs (i + 1)).toInt) (s := (xs (i + 2)).toInt) (n := (xs (i + 3)).toInt)
  refine cs h _ li.1 li.2.2.1 ?_
  intro h1 x1 f1
  have lm := li.mid x1 f1
  have K1 := lm.2.2.2.1
  have I1 := lm.2.2.2.2.1
  have M1 := lm.2.1.1
  simp only [psh_some, rL_law_1390, rL_law_1391, rL_law_1392, rL_law_1393, rL_law_1394, rL_law_1395, rL_law_1396, rL_law_1397, rL_law_1398, rL_law_1399, rL_law_1400, rL_law_1401, rL_law_1402, rL_law_1403, rL_law_1404, rL_law_1405, rL_law_1406, K1, I1, Md_K280 M1, e1, l1, e2, l2, e3, l3, Int.toNat_natCast, Int.natCast_nonneg, true_and, and_true, and_self, if_true, if_false, or_true, true_or, or_false, false_or, ne_eq, not_true_eq_false, not_false_eq_true, Nat.reduceLeDiff, Nat.reduceEqDiff, Nat.reduceLT, Nat.reduceAdd, Nat.reduceMul, Nat.reduceSub, Int.reduceLT, Int.reduceLE, Int.reduceEq, Int.reduceToNat, Int.reduceAdd, Int.reduceSub, Int.reduceMul, Int.reduceNeg, Int.cast_ofNat_Int, false_and, and_false]
  refine rs h1 _ lm.2.1 lm.2.2.1 ?_
  intro h2 x2 f2
  simp only [psh_some, rL_law_1409, Int.toNat_natCast, Int.natCast_nonneg, true_and, and_true, and_self, if_true, if_false, or_true, true_or, or_false, false_or, ne_eq, not_true_eq_false, not_false_eq_true, Nat.reduceLeDiff, Nat.reduceEqDiff, Nat.reduceLT, Nat.reduceAdd, Nat.reduceMul, Nat.reduceSub, Int.reduceLT, Int.reduceLE, Int.reduceEq, Int.reduceToNat, Int.reduceAdd, Int.reduceSub, Int.reduceMul, Int.reduceNeg, Int.cast_ofNat_Int, false_and, and_false]
  exact k h2 _ (lm.fin x2 f2 w')
set_option maxHeartbeats 1000000 in
theorem lk_39 {d : Nat} {Q : Option PV → Hp → Prop} {L : Nat} {xs : Nat → Int32} {h : Hp} {σ : AS} {c i : Nat} (hi : i + 6 ≤ L) (hL : L ≤ 3072) (li : LI L xs h σ c) (k : ∀ h' σ', LI L xs h' σ' (c + 1) → WP (d + 80) mL_law 1600 [some (.inr (.inr 91)), some (.inr (.inr 200)), some (.inr (.inr 294)), some (.inl (i : Int))] [] h' Q) : WP (d + 80) mL_law 1414 [some (.inr (.inr 91)), some (.inr (.inr 200)), some (.inr (.inr 294)), some (.inl (i : Int))] [] h Q := by
  obtain ⟨e1, l1⟩ := iw_1 hi hL
  obtain ⟨e2, l2⟩ := iw_2 hi hL
  obtain ⟨e3, l3⟩ := iw_3 hi hL
  obtain ⟨e4, l4⟩ := iw_4 hi hL
  have K := li.2.2.2.1
  have I := li.2.2.2.2.1
  have K2 := li.1.1.1
  simp only [rL_law_1414, rL_law_1415, rL_law_1416, rL_law_1417, rL_law_1418, rL_law_1419, rL_law_1420, rL_law_1421, rL_law_1422, rL_law_1423, rL_law_1424, rL_law_1425, rL_law_1426, rL_law_1427, rL_law_1428, rL_law_1429, rL_law_1430, rL_law_1431, rL_law_1433, rL_law_1434, rL_law_1435, rL_law_1436, rL_law_1437, rL_law_1438, rL_law_1439, rL_law_1440, rL_law_1443, rL_law_1444, rL_law_1445, K, I, Cs_K200 K2, Cs_R200_0 K2, Cs_R200_1 K2, Cs_R200_2 K2, Cs_R200_3 K2, Cs_R200_4 K2, Cs_R200_5 K2, Cs_R200_6 K2, Cs_K201 K2, Cs_R201_0 K2, Cs_R201_1 K2, Cs_K202 K2, Cs_K203 K2, Cs_K211 K2, Cs_R211_0 K2, Cs_R211_1 K2, Cs_K212 K2, Cs_K213 K2, Cs_K214 K2, Cs_R214_0 K2, Cs_R214_1 K2, Cs_K215 K2, Cs_K216 K2, Cs_K217 K2, Cs_R217_0 K2, Cs_R217_1 K2, Cs_K218 K2, Cs_K219 K2, Cs_K220 K2, Cs_R220_0 K2, Cs_K221 K2, Cs_K262 K2, Cs_K271 K2, Cs_R271_0 K2, Cs_R271_1 K2, Cs_K272 K2, Cs_K276 K2, Cs_R272_0 K2, Cs_R276_0 K2, Cs_K273 K2, Cs_R273_0 K2, Cs_R273_1 K2, Cs_K274 K2, Cs_K275 K2, Cs_K277 K2, Cs_R277_0 K2, Cs_R277_1 K2, Cs_K278 K2, Cs_K279 K2, Cs_R262_0 K2, Cs_K263 K2, Cs_R263_0 K2, Cs_K264 K2, Cs_R262_1 K2, Cs_K265 K2, Cs_R265_0 K2, Cs_K266 K2, Cs_R262_2 K2, Cs_K267 K2, Cs_R267_0 K2, Cs_K268 K2, Cs_R262_3 K2, Cs_K269 K2, Cs_R269_0 K2, Cs_K270 K2, e1, l1, e2, l2, e3, l3, e4, l4, Int.toNat_natCast, Int.natCast_nonneg, true_and, and_true, and_self, if_true, if_false, or_true, true_or, or_false, false_or, ne_eq, not_true_eq_false, not_false_eq_true, Nat.reduceLeDiff, Nat.reduceEqDiff, Nat.reduceLT, Nat.reduceAdd, Nat.reduceMul, Nat.reduceSub, Int.reduceLT, Int.reduceLE, Int.reduceEq, Int.reduceToNat, Int.reduceAdd, Int.reduceSub, Int.reduceMul, Int.reduceNeg, Int.cast_ofNat_Int, false_and, and_false]
  obtain ⟨v, s', w', cs, rs⟩ := L_write (d := d) li.2.2.1 (t := (xs (i + 1)).toInt) (i := (xs (i + 2)).toInt) (v := lor (lshl (xs (i + 3)).toInt 32) (land (xs (i + 4)).toInt 4294967295))
  refine cs h _ li.1 li.2.2.1 ?_
  intro h1 x1 f1
  have lm := li.mid x1 f1
  have K1 := lm.2.2.2.1
  have I1 := lm.2.2.2.2.1
  have M1 := lm.2.1.1
  simp only [psh_some, rL_law_1448, rL_law_1449, rL_law_1450, rL_law_1451, rL_law_1452, rL_law_1453, rL_law_1454, rL_law_1455, rL_law_1456, rL_law_1457, rL_law_1458, rL_law_1459, rL_law_1460, rL_law_1461, rL_law_1462, rL_law_1463, rL_law_1464, rL_law_1465, rL_law_1467, rL_law_1468, rL_law_1469, rL_law_1470, rL_law_1471, rL_law_1472, rL_law_1473, rL_law_1474, rL_law_1477, rL_law_1478, rL_law_1479, K1, I1, Md_K280 M1, e1, l1, e2, l2, e3, l3, e4, l4, Int.toNat_natCast, Int.natCast_nonneg, true_and, and_true, and_self, if_true, if_false, or_true, true_or, or_false, false_or, ne_eq, not_true_eq_false, not_false_eq_true, Nat.reduceLeDiff, Nat.reduceEqDiff, Nat.reduceLT, Nat.reduceAdd, Nat.reduceMul, Nat.reduceSub, Int.reduceLT, Int.reduceLE, Int.reduceEq, Int.reduceToNat, Int.reduceAdd, Int.reduceSub, Int.reduceMul, Int.reduceNeg, Int.cast_ofNat_Int, false_and, and_false]
  refine rs h1 _ lm.2.1 lm.2.2.1 ?_
  intro h2 x2 f2
  simp only [psh_some, rL_law_1482, rL_law_1483, lcm_self, Int.toNat_natCast, Int.natCast_nonneg, true_and, and_true, and_self, if_true, if_false, or_true, true_or, or_false, false_or, ne_eq, not_true_eq_false, not_false_eq_true, Nat.reduceLeDiff, Nat.reduceEqDiff, Nat.reduceLT, Nat.reduceAdd, Nat.reduceMul, Nat.reduceSub, Int.reduceLT, Int.reduceLE, Int.reduceEq, Int.reduceToNat, Int.reduceAdd, Int.reduceSub, Int.reduceMul, Int.reduceNeg, Int.cast_ofNat_Int, false_and, and_false]
  exact k h2 _ (lm.fin x2 f2 w')
set_option maxHeartbeats 1000000 in
theorem lk_40 {d : Nat} {Q : Option PV → Hp → Prop} {L : Nat} {xs : Nat → Int32} {h : Hp} {σ : AS} {c i : Nat} (hi : i + 6 ≤ L) (hL : L ≤ 3072) (li : LI L xs h σ c) (k : ∀ h' σ', LI L xs h' σ' (c + 1) → WP (d + 80) mL_law 1600 [some (.inr (.inr 91)), some (.inr (.inr 200)), some (.inr (.inr 294)), some (.inl (i : Int))] [] h' Q) : WP (d + 80) mL_law 1488 [some (.inr (.inr 91)), some (.inr (.inr 200)), some (.inr (.inr 294)), some (.inl (i : Int))] [] h Q := by
  obtain ⟨e1, l1⟩ := iw_1 hi hL
  obtain ⟨e2, l2⟩ := iw_2 hi hL
  obtain ⟨e3, l3⟩ := iw_3 hi hL
  have K := li.2.2.2.1
  have I := li.2.2.2.2.1
  have K2 := li.1.1.1
  simp only [rL_law_1488, rL_law_1489, rL_law_1490, rL_law_1491, rL_law_1492, rL_law_1493, rL_law_1494, rL_law_1495, rL_law_1496, rL_law_1497, rL_law_1498, rL_law_1499, rL_law_1500, rL_law_1501, rL_law_1502, rL_law_1503, rL_law_1504, K, I, Cs_K200 K2, Cs_R200_0 K2, Cs_R200_1 K2, Cs_R200_2 K2, Cs_R200_3 K2, Cs_R200_4 K2, Cs_R200_5 K2, Cs_R200_6 K2, Cs_K201 K2, Cs_R201_0 K2, Cs_R201_1 K2, Cs_K202 K2, Cs_K203 K2, Cs_K211 K2, Cs_R211_0 K2, Cs_R211_1 K2, Cs_K212 K2, Cs_K213 K2, Cs_K214 K2, Cs_R214_0 K2, Cs_R214_1 K2, Cs_K215 K2, Cs_K216 K2, Cs_K217 K2, Cs_R217_0 K2, Cs_R217_1 K2, Cs_K218 K2, Cs_K219 K2, Cs_K220 K2, Cs_R220_0 K2, Cs_K221 K2, Cs_K262 K2, Cs_K271 K2, Cs_R271_0 K2, Cs_R271_1 K2, Cs_K272 K2, Cs_K276 K2, Cs_R272_0 K2, Cs_R276_0 K2, Cs_K273 K2, Cs_R273_0 K2, Cs_R273_1 K2, Cs_K274 K2, Cs_K275 K2, Cs_K277 K2, Cs_R277_0 K2, Cs_R277_1 K2, Cs_K278 K2, Cs_K279 K2, Cs_R262_0 K2, Cs_K263 K2, Cs_R263_0 K2, Cs_K264 K2, Cs_R262_1 K2, Cs_K265 K2, Cs_R265_0 K2, Cs_K266 K2, Cs_R262_2 K2, Cs_K267 K2, Cs_R267_0 K2, Cs_K268 K2, Cs_R262_3 K2, Cs_K269 K2, Cs_R269_0 K2, Cs_K270 K2, e1, l1, e2, l2, e3, l3, Int.toNat_natCast, Int.natCast_nonneg, true_and, and_true, and_self, if_true, if_false, or_true, true_or, or_false, false_or, ne_eq, not_true_eq_false, not_false_eq_true, Nat.reduceLeDiff, Nat.reduceEqDiff, Nat.reduceLT, Nat.reduceAdd, Nat.reduceMul, Nat.reduceSub, Int.reduceLT, Int.reduceLE, Int.reduceEq, Int.reduceToNat, Int.reduceAdd, Int.reduceSub, Int.reduceMul, Int.reduceNeg, Int.cast_ofNat_Int, false_and, and_false]
  obtain ⟨v, s', w', cs, rs⟩ := L_lists (d := d) li.2.2.1 (t := (xs (i + 1)).toInt) (th := (xs (i + 2)).toInt) (s := (xs (i + 3)).toInt) (xs_i _)
  refine cs h _ li.1 li.2.2.1 ?_
  intro h1 x1 f1
  have lm := li.mid x1 f1
  have K1 := lm.2.2.2.1
  have I1 := lm.2.2.2.2.1
  have M1 := lm.2.1.1
  simp only [psh_some, rL_law_1507, rL_law_1508, rL_law_1509, rL_law_1510, rL_law_1511, rL_law_1512, rL_law_1513, rL_law_1514, rL_law_1515, rL_law_1516, rL_law_1517, rL_law_1518, rL_law_1519, rL_law_1520, rL_law_1521, rL_law_1522, rL_law_1523, K1, I1, Md_K280 M1, e1, l1, e2, l2, e3, l3, Int.toNat_natCast, Int.natCast_nonneg, true_and, and_true, and_self, if_true, if_false, or_true, true_or, or_false, false_or, ne_eq, not_true_eq_false, not_false_eq_true, Nat.reduceLeDiff, Nat.reduceEqDiff, Nat.reduceLT, Nat.reduceAdd, Nat.reduceMul, Nat.reduceSub, Int.reduceLT, Int.reduceLE, Int.reduceEq, Int.reduceToNat, Int.reduceAdd, Int.reduceSub, Int.reduceMul, Int.reduceNeg, Int.cast_ofNat_Int, false_and, and_false]
  refine rs h1 _ lm.2.1 lm.2.2.1 ?_
  intro h2 x2 f2
  simp only [psh_some, rL_law_1526, Int.toNat_natCast, Int.natCast_nonneg, true_and, and_true, and_self, if_true, if_false, or_true, true_or, or_false, false_or, ne_eq, not_true_eq_false, not_false_eq_true, Nat.reduceLeDiff, Nat.reduceEqDiff, Nat.reduceLT, Nat.reduceAdd, Nat.reduceMul, Nat.reduceSub, Int.reduceLT, Int.reduceLE, Int.reduceEq, Int.reduceToNat, Int.reduceAdd, Int.reduceSub, Int.reduceMul, Int.reduceNeg, Int.cast_ofNat_Int, false_and, and_false]
  exact k h2 _ (lm.fin x2 f2 w')
set_option maxHeartbeats 1000000 in
theorem lk_41 {d : Nat} {Q : Option PV → Hp → Prop} {L : Nat} {xs : Nat → Int32} {h : Hp} {σ : AS} {c i : Nat} (hi : i + 6 ≤ L) (hL : L ≤ 3072) (li : LI L xs h σ c) (k : ∀ h' σ', LI L xs h' σ' (c + 1) → WP (d + 80) mL_law 1600 [some (.inr (.inr 91)), some (.inr (.inr 200)), some (.inr (.inr 294)), some (.inl (i : Int))] [] h' Q) : WP (d + 80) mL_law 1531 [some (.inr (.inr 91)), some (.inr (.inr 200)), some (.inr (.inr 294)), some (.inl (i : Int))] [] h Q := by
  obtain ⟨e1, l1⟩ := iw_1 hi hL
  have K := li.2.2.2.1
  have I := li.2.2.2.2.1
  have K2 := li.1.1.1
  simp only [rL_law_1531, rL_law_1532, rL_law_1533, rL_law_1534, rL_law_1535, rL_law_1536, rL_law_1537, K, I, Cs_K200 K2, Cs_R200_0 K2, Cs_R200_1 K2, Cs_R200_2 K2, Cs_R200_3 K2, Cs_R200_4 K2, Cs_R200_5 K2, Cs_R200_6 K2, Cs_K201 K2, Cs_R201_0 K2, Cs_R201_1 K2, Cs_K202 K2, Cs_K203 K2, Cs_K211 K2, Cs_R211_0 K2, Cs_R211_1 K2, Cs_K212 K2, Cs_K213 K2, Cs_K214 K2, Cs_R214_0 K2, Cs_R214_1 K2, Cs_K215 K2, Cs_K216 K2, Cs_K217 K2, Cs_R217_0 K2, Cs_R217_1 K2, Cs_K218 K2, Cs_K219 K2, Cs_K220 K2, Cs_R220_0 K2, Cs_K221 K2, Cs_K262 K2, Cs_K271 K2, Cs_R271_0 K2, Cs_R271_1 K2, Cs_K272 K2, Cs_K276 K2, Cs_R272_0 K2, Cs_R276_0 K2, Cs_K273 K2, Cs_R273_0 K2, Cs_R273_1 K2, Cs_K274 K2, Cs_K275 K2, Cs_K277 K2, Cs_R277_0 K2, Cs_R277_1 K2, Cs_K278 K2, Cs_K279 K2, Cs_R262_0 K2, Cs_K263 K2, Cs_R263_0 K2, Cs_K264 K2, Cs_R262_1 K2, Cs_K265 K2, Cs_R265_0 K2, Cs_K266 K2, Cs_R262_2 K2, Cs_K267 K2, Cs_R267_0 K2, Cs_K268 K2, Cs_R262_3 K2, Cs_K269 K2, Cs_R269_0 K2, Cs_K270 K2, e1, l1, Int.toNat_natCast, Int.natCast_nonneg, true_and, and_true, and_self, if_true, if_false, or_true, true_or, or_false, false_or, ne_eq, not_true_eq_false, not_false_eq_true, Nat.reduceLeDiff, Nat.reduceEqDiff, Nat.reduceLT, Nat.reduceAdd, Nat.reduceMul, Nat.reduceSub, Int.reduceLT, Int.reduceLE, Int.reduceEq, Int.reduceToNat, Int.reduceAdd, Int.reduceSub, Int.reduceMul, Int.reduceNeg, Int.cast_ofNat_Int, false_and, and_false]
  obtain ⟨v, s', w', cs, rs⟩ := L_image (d := d) li.2.2.1 (i := (xs (i + 1)).toInt)
  refine cs h _ li.1 li.2.2.1 ?_
  intro h1 x1 f1
  have lm := li.mid x1 f1
  have K1 := lm.2.2.2.1
  have I1 := lm.2.2.2.2.1
  have M1 := lm.2.1.1
  simp only [psh_some, rL_law_1540, rL_law_1541, rL_law_1542, rL_law_1543, rL_law_1544, rL_law_1545, rL_law_1546, K1, I1, Md_K280 M1, e1, l1, Int.toNat_natCast, Int.natCast_nonneg, true_and, and_true, and_self, if_true, if_false, or_true, true_or, or_false, false_or, ne_eq, not_true_eq_false, not_false_eq_true, Nat.reduceLeDiff, Nat.reduceEqDiff, Nat.reduceLT, Nat.reduceAdd, Nat.reduceMul, Nat.reduceSub, Int.reduceLT, Int.reduceLE, Int.reduceEq, Int.reduceToNat, Int.reduceAdd, Int.reduceSub, Int.reduceMul, Int.reduceNeg, Int.cast_ofNat_Int, false_and, and_false]
  refine rs h1 _ lm.2.1 lm.2.2.1 ?_
  intro h2 x2 f2
  simp only [psh_some, rL_law_1549, Int.toNat_natCast, Int.natCast_nonneg, true_and, and_true, and_self, if_true, if_false, or_true, true_or, or_false, false_or, ne_eq, not_true_eq_false, not_false_eq_true, Nat.reduceLeDiff, Nat.reduceEqDiff, Nat.reduceLT, Nat.reduceAdd, Nat.reduceMul, Nat.reduceSub, Int.reduceLT, Int.reduceLE, Int.reduceEq, Int.reduceToNat, Int.reduceAdd, Int.reduceSub, Int.reduceMul, Int.reduceNeg, Int.cast_ofNat_Int, false_and, and_false]
  exact k h2 _ (lm.fin x2 f2 w')
set_option maxHeartbeats 1000000 in
theorem lk_42 {d : Nat} {Q : Option PV → Hp → Prop} {L : Nat} {xs : Nat → Int32} {h : Hp} {σ : AS} {c i : Nat} (hi : i + 6 ≤ L) (hL : L ≤ 3072) (li : LI L xs h σ c) (k : ∀ h' σ', LI L xs h' σ' (c + 1) → WP (d + 80) mL_law 1600 [some (.inr (.inr 91)), some (.inr (.inr 200)), some (.inr (.inr 294)), some (.inl (i : Int))] [] h' Q) : WP (d + 80) mL_law 1554 [some (.inr (.inr 91)), some (.inr (.inr 200)), some (.inr (.inr 294)), some (.inl (i : Int))] [] h Q := by
  obtain ⟨e1, l1⟩ := iw_1 hi hL
  have K := li.2.2.2.1
  have I := li.2.2.2.2.1
  have K2 := li.1.1.1
  simp only [rL_law_1554, rL_law_1555, rL_law_1556, rL_law_1557, rL_law_1558, rL_law_1559, rL_law_1560, K, I, Cs_K200 K2, Cs_R200_0 K2, Cs_R200_1 K2, Cs_R200_2 K2, Cs_R200_3 K2, Cs_R200_4 K2, Cs_R200_5 K2, Cs_R200_6 K2, Cs_K201 K2, Cs_R201_0 K2, Cs_R201_1 K2, Cs_K202 K2, Cs_K203 K2, Cs_K211 K2, Cs_R211_0 K2, Cs_R211_1 K2, Cs_K212 K2, Cs_K213 K2, Cs_K214 K2, Cs_R214_0 K2, Cs_R214_1 K2, Cs_K215 K2, Cs_K216 K2, Cs_K217 K2, Cs_R217_0 K2, Cs_R217_1 K2, Cs_K218 K2, Cs_K219 K2, Cs_K220 K2, Cs_R220_0 K2, Cs_K221 K2, Cs_K262 K2, Cs_K271 K2, Cs_R271_0 K2, Cs_R271_1 K2, Cs_K272 K2, Cs_K276 K2, Cs_R272_0 K2, Cs_R276_0 K2, Cs_K273 K2, Cs_R273_0 K2, Cs_R273_1 K2, Cs_K274 K2, Cs_K275 K2, Cs_K277 K2, Cs_R277_0 K2, Cs_R277_1 K2, Cs_K278 K2, Cs_K279 K2, Cs_R262_0 K2, Cs_K263 K2, Cs_R263_0 K2, Cs_K264 K2, Cs_R262_1 K2, Cs_K265 K2, Cs_R265_0 K2, Cs_K266 K2, Cs_R262_2 K2, Cs_K267 K2, Cs_R267_0 K2, Cs_K268 K2, Cs_R262_3 K2, Cs_K269 K2, Cs_R269_0 K2, Cs_K270 K2, e1, l1, Int.toNat_natCast, Int.natCast_nonneg, true_and, and_true, and_self, if_true, if_false, or_true, true_or, or_false, false_or, ne_eq, not_true_eq_false, not_false_eq_true, Nat.reduceLeDiff, Nat.reduceEqDiff, Nat.reduceLT, Nat.reduceAdd, Nat.reduceMul, Nat.reduceSub, Int.reduceLT, Int.reduceLE, Int.reduceEq, Int.reduceToNat, Int.reduceAdd, Int.reduceSub, Int.reduceMul, Int.reduceNeg, Int.cast_ofNat_Int, false_and, and_false]
  obtain ⟨v, s', w', cs, rs⟩ := L_restore (d := d) li.2.2.1 (i := (xs (i + 1)).toInt)
  refine cs h _ li.1 li.2.2.1 ?_
  intro h1 x1 f1
  have lm := li.mid x1 f1
  have K1 := lm.2.2.2.1
  have I1 := lm.2.2.2.2.1
  have M1 := lm.2.1.1
  simp only [psh_some, rL_law_1563, rL_law_1564, rL_law_1565, rL_law_1566, rL_law_1567, rL_law_1568, rL_law_1569, K1, I1, Md_K280 M1, e1, l1, Int.toNat_natCast, Int.natCast_nonneg, true_and, and_true, and_self, if_true, if_false, or_true, true_or, or_false, false_or, ne_eq, not_true_eq_false, not_false_eq_true, Nat.reduceLeDiff, Nat.reduceEqDiff, Nat.reduceLT, Nat.reduceAdd, Nat.reduceMul, Nat.reduceSub, Int.reduceLT, Int.reduceLE, Int.reduceEq, Int.reduceToNat, Int.reduceAdd, Int.reduceSub, Int.reduceMul, Int.reduceNeg, Int.cast_ofNat_Int, false_and, and_false]
  refine rs h1 _ lm.2.1 lm.2.2.1 ?_
  intro h2 x2 f2
  simp only [psh_some, rL_law_1572, Int.toNat_natCast, Int.natCast_nonneg, true_and, and_true, and_self, if_true, if_false, or_true, true_or, or_false, false_or, ne_eq, not_true_eq_false, not_false_eq_true, Nat.reduceLeDiff, Nat.reduceEqDiff, Nat.reduceLT, Nat.reduceAdd, Nat.reduceMul, Nat.reduceSub, Int.reduceLT, Int.reduceLE, Int.reduceEq, Int.reduceToNat, Int.reduceAdd, Int.reduceSub, Int.reduceMul, Int.reduceNeg, Int.cast_ofNat_Int, false_and, and_false]
  exact k h2 _ (lm.fin x2 f2 w')
set_option maxHeartbeats 1000000 in
theorem lk_43 {d : Nat} {Q : Option PV → Hp → Prop} {L : Nat} {xs : Nat → Int32} {h : Hp} {σ : AS} {c i : Nat} (hi : i + 6 ≤ L) (hL : L ≤ 3072) (li : LI L xs h σ c) (k : ∀ h' σ', LI L xs h' σ' (c + 1) → WP (d + 80) mL_law 1600 [some (.inr (.inr 91)), some (.inr (.inr 200)), some (.inr (.inr 294)), some (.inl (i : Int))] [] h' Q) : WP (d + 80) mL_law 1577 [some (.inr (.inr 91)), some (.inr (.inr 200)), some (.inr (.inr 294)), some (.inl (i : Int))] [] h Q := by
  obtain ⟨e1, l1⟩ := iw_1 hi hL
  have K := li.2.2.2.1
  have I := li.2.2.2.2.1
  have K2 := li.1.1.1
  simp only [rL_law_1577, rL_law_1578, rL_law_1579, rL_law_1580, rL_law_1581, rL_law_1582, rL_law_1583, K, I, Cs_K200 K2, Cs_R200_0 K2, Cs_R200_1 K2, Cs_R200_2 K2, Cs_R200_3 K2, Cs_R200_4 K2, Cs_R200_5 K2, Cs_R200_6 K2, Cs_K201 K2, Cs_R201_0 K2, Cs_R201_1 K2, Cs_K202 K2, Cs_K203 K2, Cs_K211 K2, Cs_R211_0 K2, Cs_R211_1 K2, Cs_K212 K2, Cs_K213 K2, Cs_K214 K2, Cs_R214_0 K2, Cs_R214_1 K2, Cs_K215 K2, Cs_K216 K2, Cs_K217 K2, Cs_R217_0 K2, Cs_R217_1 K2, Cs_K218 K2, Cs_K219 K2, Cs_K220 K2, Cs_R220_0 K2, Cs_K221 K2, Cs_K262 K2, Cs_K271 K2, Cs_R271_0 K2, Cs_R271_1 K2, Cs_K272 K2, Cs_K276 K2, Cs_R272_0 K2, Cs_R276_0 K2, Cs_K273 K2, Cs_R273_0 K2, Cs_R273_1 K2, Cs_K274 K2, Cs_K275 K2, Cs_K277 K2, Cs_R277_0 K2, Cs_R277_1 K2, Cs_K278 K2, Cs_K279 K2, Cs_R262_0 K2, Cs_K263 K2, Cs_R263_0 K2, Cs_K264 K2, Cs_R262_1 K2, Cs_K265 K2, Cs_R265_0 K2, Cs_K266 K2, Cs_R262_2 K2, Cs_K267 K2, Cs_R267_0 K2, Cs_K268 K2, Cs_R262_3 K2, Cs_K269 K2, Cs_R269_0 K2, Cs_K270 K2, e1, l1, Int.toNat_natCast, Int.natCast_nonneg, true_and, and_true, and_self, if_true, if_false, or_true, true_or, or_false, false_or, ne_eq, not_true_eq_false, not_false_eq_true, Nat.reduceLeDiff, Nat.reduceEqDiff, Nat.reduceLT, Nat.reduceAdd, Nat.reduceMul, Nat.reduceSub, Int.reduceLT, Int.reduceLE, Int.reduceEq, Int.reduceToNat, Int.reduceAdd, Int.reduceSub, Int.reduceMul, Int.reduceNeg, Int.cast_ofNat_Int, false_and, and_false]
  obtain ⟨v, s', w', cs, rs⟩ := L_count (d := d) li.2.2.1 (wh := (xs (i + 1)).toInt)
  refine cs h _ li.1 li.2.2.1 ?_
  intro h1 x1 f1
  have lm := li.mid x1 f1
  have K1 := lm.2.2.2.1
  have I1 := lm.2.2.2.2.1
  have M1 := lm.2.1.1
  simp only [psh_some, rL_law_1586, rL_law_1587, rL_law_1588, rL_law_1589, rL_law_1590, rL_law_1591, rL_law_1592, K1, I1, Md_K280 M1, e1, l1, Int.toNat_natCast, Int.natCast_nonneg, true_and, and_true, and_self, if_true, if_false, or_true, true_or, or_false, false_or, ne_eq, not_true_eq_false, not_false_eq_true, Nat.reduceLeDiff, Nat.reduceEqDiff, Nat.reduceLT, Nat.reduceAdd, Nat.reduceMul, Nat.reduceSub, Int.reduceLT, Int.reduceLE, Int.reduceEq, Int.reduceToNat, Int.reduceAdd, Int.reduceSub, Int.reduceMul, Int.reduceNeg, Int.cast_ofNat_Int, false_and, and_false]
  refine rs h1 _ lm.2.1 lm.2.2.1 ?_
  intro h2 x2 f2
  simp only [psh_some, rL_law_1595, Int.toNat_natCast, Int.natCast_nonneg, true_and, and_true, and_self, if_true, if_false, or_true, true_or, or_false, false_or, ne_eq, not_true_eq_false, not_false_eq_true, Nat.reduceLeDiff, Nat.reduceEqDiff, Nat.reduceLT, Nat.reduceAdd, Nat.reduceMul, Nat.reduceSub, Int.reduceLT, Int.reduceLE, Int.reduceEq, Int.reduceToNat, Int.reduceAdd, Int.reduceSub, Int.reduceMul, Int.reduceNeg, Int.cast_ofNat_Int, false_and, and_false]
  exact k h2 _ (lm.fin x2 f2 w')
theorem ia_63 (a : Int) : ∃ m : Nat, m < 64 ∧ iand a 63 = (m : Int) := by
  refine ⟨(Int32.ofInt a &&& Int32.ofInt 63).toBitVec.toNat, ?_, ?_⟩
  · rw [Int32.toBitVec_and, BitVec.toNat_and]
    exact Nat.lt_of_le_of_lt Nat.and_le_right (by decide)
  · unfold iand Int32.toInt
    rw [BitVec.toInt_eq_toNat_of_lt]
    rw [Int32.toBitVec_and, BitVec.toNat_and]
    have : (Int32.ofInt a).toBitVec.toNat &&& (Int32.ofInt 63).toBitVec.toNat ≤ 63 := Nat.le_trans Nat.and_le_right (by decide)
    omega
theorem lw_6 {L : Nat} (hL : L ≤ 3072) : w32 ((L : Int) - 6) = (L : Int) - 6 := w32_i (by omega) (by omega)
theorem lw_c {i L n : Nat} (h : ¬ (L : Int) - 6 < (i : Int)) (hn : L < i + 6 + n) : i + 6 ≤ L := by omega
theorem lw_m {m : Nat} (_h : m < 64) : m = 0 ∨ m = 1 ∨ m = 2 ∨ m = 3 ∨ m = 4 ∨ m = 5 ∨ m = 6 ∨ m = 7 ∨ m = 8 ∨ m = 9 ∨ m = 10 ∨ m = 11 ∨ m = 12 ∨ m = 13 ∨ m = 14 ∨ m = 15 ∨ m = 16 ∨ m = 17 ∨ m = 18 ∨ m = 19 ∨ m = 20 ∨ m = 21 ∨ m = 22 ∨ m = 23 ∨ m = 24 ∨ m = 25 ∨ m = 26 ∨ m = 27 ∨ m = 28 ∨ m = 29 ∨ m = 30 ∨ m = 31 ∨ m = 32 ∨ m = 33 ∨ m = 34 ∨ m = 35 ∨ m = 36 ∨ m = 37 ∨ m = 38 ∨ m = 39 ∨ m = 40 ∨ m = 41 ∨ m = 42 ∨ m = 43 ∨ 44 ≤ m := by omega
theorem lw_t {m : Nat} (h : 44 ≤ m) (l : List Int) : tabT 33 1567 0 43 l (m : Int) = 1600 := by
  unfold tabT
  rw [if_pos (Or.inr (by omega))]
  rfl
set_option maxHeartbeats 4000000 in
theorem lw_loop {d : Nat} {Q : Option PV → Hp → Prop} {L : Nat} {xs : Nat → Int32} (hL : L ≤ 3072) (po : ∀ (σ : AS) (n : Int), WF σ → i32 n → ∃ y σ', WF σ' ∧ CSpS (d + 79) mX11_pool [some (.inr (.inr 200)), some (.inl n), none] σ (.inl y) σ' ∧ RSpS (d + 79) mX12_pool [some (.inr (.inr 294)), some (.inl n), none] σ (.inl y) σ') (q : ∀ h σ c, LI L xs h σ c → 6 * c ≤ L → Q (some (.inl 1)) h) : ∀ (n : Nat) (i c : Nat) (h : Hp) (σ : AS), L < i + 6 + n → i ≤ L → 6 * c ≤ i → LI L xs h σ c → WP (d + 80) mL_law 18 [some (.inr (.inr 91)), some (.inr (.inr 200)), some (.inr (.inr 294)), some (.inl (i : Int))] [] h Q := by
  intro n
  induction n with
  | zero =>
    intro i c h σ hn hl hc li
    have K := li.2.2.2.1
    have t : (L : Int) - 6 < (i : Int) := by omega
    simp only [rL_law_18, rL_law_19, rL_law_20, rL_law_21, rL_law_23, rL_law_24, K, lw_6 hL, if_pos t, rL_law_1606, rL_law_1607, Int.toNat_natCast, Int.natCast_nonneg, true_and, and_true, and_self, if_true, if_false, or_true, true_or, or_false, false_or, ne_eq, not_true_eq_false, not_false_eq_true, Nat.reduceLeDiff, Nat.reduceEqDiff, Nat.reduceLT, Nat.reduceAdd, Nat.reduceMul, Nat.reduceSub, Int.reduceLT, Int.reduceLE, Int.reduceEq, Int.reduceToNat, Int.reduceAdd, Int.reduceSub, Int.reduceMul, Int.reduceNeg, Int.cast_ofNat_Int, false_and, and_false]
    exact q h σ c li (Nat.le_trans hc hl)
  | succ n ih =>
    intro i c h σ hn hl hc li
    have K := li.2.2.2.1
    have I := li.2.2.2.2.1
    by_cases t : (L : Int) - 6 < (i : Int)
    · simp only [rL_law_18, rL_law_19, rL_law_20, rL_law_21, rL_law_23, rL_law_24, K, lw_6 hL, if_pos t, rL_law_1606, rL_law_1607, Int.toNat_natCast, Int.natCast_nonneg, true_and, and_true, and_self, if_true, if_false, or_true, true_or, or_false, false_or, ne_eq, not_true_eq_false, not_false_eq_true, Nat.reduceLeDiff, Nat.reduceEqDiff, Nat.reduceLT, Nat.reduceAdd, Nat.reduceMul, Nat.reduceSub, Int.reduceLT, Int.reduceLE, Int.reduceEq, Int.reduceToNat, Int.reduceAdd, Int.reduceSub, Int.reduceMul, Int.reduceNeg, Int.cast_ofNat_Int, false_and, and_false]
      exact q h σ c li (Nat.le_trans hc hl)
    · have hi := lw_c t hn
      have e6 := iw_6 hi hL
      have tL : ((i : Int) < (L : Int)) = True := eq_true (by omega)
      simp only [rL_law_18, rL_law_19, rL_law_20, rL_law_21, rL_law_23, rL_law_24, rL_law_27, rL_law_28, rL_law_29, rL_law_30, rL_law_32, K, I, lw_6 hL, if_neg t, tL, Int.toNat_natCast, Int.natCast_nonneg, true_and, and_true, and_self, if_true, if_false, or_true, true_or, or_false, false_or, ne_eq, not_true_eq_false, not_false_eq_true, Nat.reduceLeDiff, Nat.reduceEqDiff, Nat.reduceLT, Nat.reduceAdd, Nat.reduceMul, Nat.reduceSub, Int.reduceLT, Int.reduceLE, Int.reduceEq, Int.reduceToNat, Int.reduceAdd, Int.reduceSub, Int.reduceMul, Int.reduceNeg, Int.cast_ofNat_Int, false_and, and_false]
      have k0 : ∀ h' σ' c', 6 * c' ≤ i + 6 → LI L xs h' σ' c' → WP (d + 80) mL_law 1600 [some (.inr (.inr 91)), some (.inr (.inr 200)), some (.inr (.inr 294)), some (.inl (i : Int))] [] h' Q := by
        intro h' σ' c' hc' li'
        simp only [rL_law_1600, rL_law_1603, e6]
        exact ih (i + 6) c' h' σ' (by omega) hi hc' li'
      have k1 : ∀ h' σ', LI L xs h' σ' (c + 1) → WP (d + 80) mL_law 1600 [some (.inr (.inr 91)), some (.inr (.inr 200)), some (.inr (.inr 294)), some (.inl (i : Int))] [] h' Q := fun h' σ' x => k0 h' σ' (c + 1) (by omega) x
      obtain ⟨m, hm, em⟩ := ia_63 (xs i).toInt
      simp only [em, rL_law_33]
      rcases lw_m hm with rfl | rfl | rfl | rfl | rfl | rfl | rfl | rfl | rfl | rfl | rfl | rfl | rfl | rfl | rfl | rfl | rfl | rfl | rfl | rfl | rfl | rfl | rfl | rfl | rfl | rfl | rfl | rfl | rfl | rfl | rfl | rfl | rfl | rfl | rfl | rfl | rfl | rfl | rfl | rfl | rfl | rfl | rfl | rfl | hm
      · exact lk_0 hi hL li k1
      · exact lk_1 hi hL li po k1
      · exact lk_2 hi hL li k1
      · exact lk_3 hi hL li k1
      · exact lk_4 hi hL li k1
      · exact lk_5 hi hL li k1
      · exact lk_6 hi hL li k1
      · exact lk_7 hi hL li k1
      · exact lk_8 hi hL li k1
      · exact lk_9 hi hL li k1
      · exact lk_10 hi hL li k1
      · exact lk_11 hi hL li k1
      · exact lk_12 hi hL li k1
      · exact lk_13 hi hL li k1
      · exact lk_14 hi hL li k1
      · exact lk_15 hi hL li k1
      · exact lk_16 hi hL li k1
      · exact lk_17 hi hL li k1
      · exact lk_18 hi hL li k1
      · exact lk_19 hi hL li k1
      · exact lk_20 hi hL li k1
      · exact lk_21 hi hL li k1
      · exact lk_22 hi hL li k1
      · exact lk_23 hi hL li k1
      · exact lk_24 hi hL li k1
      · exact lk_25 hi hL li k1
      · exact lk_26 hi hL li k1
      · exact lk_27 hi hL li k1
      · exact lk_28 hi hL li k1
      · exact lk_29 hi hL li k1
      · exact lk_30 hi hL li k1
      · exact lk_31 hi hL li k1
      · exact lk_32 hi hL li k1
      · exact lk_33 hi hL li k1
      · exact lk_34 hi hL li k1
      · exact lk_35 hi hL li k1
      · exact lk_36 hi hL li k1
      · exact lk_37 hi hL li k1
      · exact lk_38 hi hL li k1
      · exact lk_39 hi hL li k1
      · exact lk_40 hi hL li k1
      · exact lk_41 hi hL li k1
      · exact lk_42 hi hL li k1
      · exact lk_43 hi hL li k1
      · rw [lw_t hm]; exact k0 h σ c (by omega) li
