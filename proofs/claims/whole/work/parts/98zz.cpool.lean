/-! the class's pool: the call -/
def Po2 (h : Hp) (a : Nat) : Prop := hK h a = (5, 0) ∧ hR h a 0 = a + 1 ∧ hR h a 1 = a + 2 ∧ hR h a 2 = a + 3 ∧ hR h a 3 = a + 4 ∧ hR h a 4 = a + 5 ∧ hR h a 5 = a + 6 ∧ hR h a 6 = 90 ∧ hR h a 7 = 90 ∧ hK h (a + 1) = (21, 6) ∧ hK h (a + 2) = (21, 6) ∧ hK h (a + 3) = (21, 6) ∧ hK h (a + 4) = (21, 6) ∧ hK h (a + 5) = (21, 6) ∧ hK h (a + 6) = (21, 6) ∧ ∀ k, hI h a k = 0 ∧ hI h (a + 1) k = 0 ∧ hI h (a + 2) k = 0 ∧ hI h (a + 3) k = 0 ∧ hI h (a + 4) k = 0 ∧ hI h (a + 5) k = 0 ∧ hI h (a + 6) k = 0
set_option maxRecDepth 20000 in
theorem I_pool2 {d : Nat} {Q : Option PV → Hp → Prop} {h : Hp} {M : Nat} (hM : hN h = M) (k : ∀ h', Fa (fun _ => False) h h' → hN h' = M + 7 → hS h' ≤ hS h + 60 → Po2 h' (200 + M) → Q none h') : WP d mX5_init 0 [some (.inr (.inr (200 + M)))] [] (nw h 5 0 13) Q := by
  simp only [rX5_init_0, rX5_init_1, rX5_init_4, rX5_init_5, rX5_init_7, rX5_init_9, rX5_init_12, rX5_init_13, rX5_init_15, rX5_init_17, rX5_init_20, rX5_init_21, rX5_init_23, rX5_init_25, rX5_init_28, rX5_init_29, rX5_init_31, rX5_init_33, rX5_init_36, rX5_init_37, rX5_init_39, rX5_init_41, rX5_init_44, rX5_init_45, rX5_init_47, rX5_init_49, rX5_init_52, rX5_init_53, rX5_init_56, rX5_init_59, rX5_init_60, rX5_init_63, rX5_init_66, hN_wI, hN_wJ, hN_wR, hS_wI, hS_wJ, hS_wR, hK_wI, hK_wJ, hK_wR, hI_wI, hI_wJ, hI_wR, hJ_wI, hJ_wJ, hJ_wR, hR_wI, hR_wJ, hR_wR, hN_nw, hS_nw, hK_nw, hI_nw, hJ_nw, hR_nw, psh_some, psh_none, Int.toNat_natCast, Int.natCast_nonneg, true_and, and_true, and_self, if_true, if_false, or_true, true_or, or_false, false_or, ne_eq, not_true_eq_false, not_false_eq_true, Nat.reduceLeDiff, Nat.reduceEqDiff, Nat.reduceLT, Nat.reduceAdd, Nat.reduceMul, Nat.reduceSub, Int.reduceLT, Int.reduceLE, Int.reduceEq, Int.reduceToNat, Int.reduceAdd, Int.reduceSub, Int.reduceMul, Int.reduceNeg, Int.cast_ofNat_Int, false_and, and_false, hM, Nat.add_assoc, nwj, nw0, nw0', ge2, ge2']
  have w0 : ∀ {h1 : Hp} (_ : Fa (fun a => 200 + hN h ≤ a) h h1) (k v : Nat), Fa (fun a => 200 + hN h ≤ a) h (wR h1 (200 + M) k v) := fun f k v => f.wR (by rw [hM]; omega) k v
  have nn : ∀ {h1 : Hp} (_ : Fa (fun a => 200 + hN h ≤ a) h h1) (c l q : Nat), Fa (fun a => 200 + hN h ≤ a) h (nw h1 c l q) := fun f c l q => f.nw c l q
  refine k _ (Fa.new (w0 (w0 (w0 (nn (w0 (nn (w0 (nn (w0 (nn (w0 (nn (w0 (nn (nn (Fa.refl _ h) _ _ _) _ _ _) _ _) _ _ _) _ _) _ _ _) _ _) _ _ _) _ _) _ _ _) _ _) _ _ _) _ _) _ _) _ _)) ?_ ?_ ?_
  · simp only [hN_wI, hN_wJ, hN_wR, hS_wI, hS_wJ, hS_wR, hK_wI, hK_wJ, hK_wR, hI_wI, hI_wJ, hI_wR, hJ_wI, hJ_wJ, hJ_wR, hR_wI, hR_wJ, hR_wR, hN_nw, hS_nw, hK_nw, hI_nw, hJ_nw, hR_nw, psh_some, psh_none, hM, Nat.add_assoc, Nat.reduceAdd]
  · simp only [hN_wI, hN_wJ, hN_wR, hS_wI, hS_wJ, hS_wR, hK_wI, hK_wJ, hK_wR, hI_wI, hI_wJ, hI_wR, hJ_wI, hJ_wJ, hJ_wR, hR_wI, hR_wJ, hR_wR, hN_nw, hS_nw, hK_nw, hI_nw, hJ_nw, hR_nw, psh_some, psh_none, Int.toNat_natCast, Int.natCast_nonneg, true_and, and_true, and_self, if_true, if_false, or_true, true_or, or_false, false_or, ne_eq, not_true_eq_false, not_false_eq_true, Nat.reduceLeDiff, Nat.reduceEqDiff, Nat.reduceLT, Nat.reduceAdd, Nat.reduceMul, Nat.reduceSub, Int.reduceLT, Int.reduceLE, Int.reduceEq, Int.reduceToNat, Int.reduceAdd, Int.reduceSub, Int.reduceMul, Int.reduceNeg, Int.cast_ofNat_Int, false_and, and_false, Nat.add_assoc]; omega
  · unfold Po2
    simp only [hN_wI, hN_wJ, hN_wR, hS_wI, hS_wJ, hS_wR, hK_wI, hK_wJ, hK_wR, hI_wI, hI_wJ, hI_wR, hJ_wI, hJ_wJ, hJ_wR, hR_wI, hR_wJ, hR_wR, hN_nw, hS_nw, hK_nw, hI_nw, hJ_nw, hR_nw, psh_some, psh_none, Int.toNat_natCast, Int.natCast_nonneg, true_and, and_true, and_self, if_true, if_false, or_true, true_or, or_false, false_or, ne_eq, not_true_eq_false, not_false_eq_true, Nat.reduceLeDiff, Nat.reduceEqDiff, Nat.reduceLT, Nat.reduceAdd, Nat.reduceMul, Nat.reduceSub, Int.reduceLT, Int.reduceLE, Int.reduceEq, Int.reduceToNat, Int.reduceAdd, Int.reduceSub, Int.reduceMul, Int.reduceNeg, Int.cast_ofNat_Int, false_and, and_false, hM, Nat.add_assoc, nwj, nw0, nw0', implies_true]
theorem Po2.po1 {h : Hp} {a : Nat} (x : Po2 h a) (h3 : 314 ≤ a) : Po1 h a := by
  obtain ⟨x0, r0, r1, r2, r3, r4, r5, r6, r7, k1, k2, k3, k4, k5, k6, z⟩ := x
  refine ⟨⟨h3, x0, r0, r1, r2, r3, r4, r5, k1, k2, k3, k4, k5, k6⟩, r6, r7, fun c j hc => ?_⟩
  obtain ⟨z0, z1, z2, z3, z4, z5, z6⟩ := z j
  have : c = 0 ∨ c = 1 ∨ c = 2 ∨ c = 3 ∨ c = 4 ∨ c = 5 ∨ c = 6 := by omega
  rcases this with rfl | rfl | rfl | rfl | rfl | rfl | rfl
  · exact z0
  · exact z1
  · exact z2
  · exact z3
  · exact z4
  · exact z5
  · exact z6
def S2 (a : Nat) : Prop := a = 201 ∨ a = 203
def S3 (a : Nat) : Prop := a = 200 ∨ a = 201 ∨ a = 203 ∨ (214 ≤ a ∧ a ≤ 216) ∨ a = 220
theorem S3_s (a : Nat) (h : S3 a) : a < 314 ∧ a ≠ 90 ∧ (a < 255 ∨ 261 < a) := by unfold S3 at h; omega
theorem Fa.thru {pl : Nat} {h h1 h2 : Hp} (a : Fa (fun _ => False) h h1) (b : Fa (CS pl) h1 h2) (hp : 200 + hN h ≤ pl) : Fa S2 h h2 := by
  refine ⟨Nat.le_trans a.1 b.1, fun q hq hs => ?_⟩
  have n1 := a.1
  obtain ⟨u1, u2⟩ := a.2 q hq (fun z => z)
  obtain ⟨v1, v2⟩ := b.2 q (by omega) (fun z => by unfold CS at z; unfold S2 at hs; omega)
  exact ⟨v1.trans u1, fun k => ⟨(v2 k).1.trans (u2 k).1, (v2 k).2.1.trans (u2 k).2.1, (v2 k).2.2.trans (u2 k).2.2⟩⟩
theorem CsOk.of2 {h h' : Hp} (m : CsOk h) (eK : ∀ a, a < 294 → hK h' a = hK h a) (eR : ∀ a k, a < 294 → (a = 200 → k ≤ 6) → (a = 272 ∨ a = 283 → k = 0) → (a = 201 → k ≤ 1) → a ≠ 203 → hR h' a k = hR h a k) : CsOk h' :=
  ⟨by rw [eK _ (by omega)]; exact Cs_K200 m,
  by rw [eR _ _ (by omega) (by omega) (by omega) (by omega) (by omega)]; exact Cs_R200_0 m,
  by rw [eR _ _ (by omega) (by omega) (by omega) (by omega) (by omega)]; exact Cs_R200_1 m,
  by rw [eR _ _ (by omega) (by omega) (by omega) (by omega) (by omega)]; exact Cs_R200_2 m,
  by rw [eR _ _ (by omega) (by omega) (by omega) (by omega) (by omega)]; exact Cs_R200_3 m,
  by rw [eR _ _ (by omega) (by omega) (by omega) (by omega) (by omega)]; exact Cs_R200_4 m,
  by rw [eR _ _ (by omega) (by omega) (by omega) (by omega) (by omega)]; exact Cs_R200_5 m,
  by rw [eR _ _ (by omega) (by omega) (by omega) (by omega) (by omega)]; exact Cs_R200_6 m,
  by rw [eK _ (by omega)]; exact Cs_K201 m,
  by rw [eR _ _ (by omega) (by omega) (by omega) (by omega) (by omega)]; exact Cs_R201_0 m,
  by rw [eR _ _ (by omega) (by omega) (by omega) (by omega) (by omega)]; exact Cs_R201_1 m,
  by rw [eK _ (by omega)]; exact Cs_K202 m,
  by rw [eK _ (by omega)]; exact Cs_K203 m,
  by rw [eK _ (by omega)]; exact Cs_K211 m,
  by rw [eR _ _ (by omega) (by omega) (by omega) (by omega) (by omega)]; exact Cs_R211_0 m,
  by rw [eR _ _ (by omega) (by omega) (by omega) (by omega) (by omega)]; exact Cs_R211_1 m,
  by rw [eK _ (by omega)]; exact Cs_K212 m,
  by rw [eK _ (by omega)]; exact Cs_K213 m,
  by rw [eK _ (by omega)]; exact Cs_K214 m,
  by rw [eR _ _ (by omega) (by omega) (by omega) (by omega) (by omega)]; exact Cs_R214_0 m,
  by rw [eR _ _ (by omega) (by omega) (by omega) (by omega) (by omega)]; exact Cs_R214_1 m,
  by rw [eK _ (by omega)]; exact Cs_K215 m,
  by rw [eK _ (by omega)]; exact Cs_K216 m,
  by rw [eK _ (by omega)]; exact Cs_K217 m,
  by rw [eR _ _ (by omega) (by omega) (by omega) (by omega) (by omega)]; exact Cs_R217_0 m,
  by rw [eR _ _ (by omega) (by omega) (by omega) (by omega) (by omega)]; exact Cs_R217_1 m,
  by rw [eK _ (by omega)]; exact Cs_K218 m,
  by rw [eK _ (by omega)]; exact Cs_K219 m,
  by rw [eK _ (by omega)]; exact Cs_K220 m,
  by rw [eR _ _ (by omega) (by omega) (by omega) (by omega) (by omega)]; exact Cs_R220_0 m,
  by rw [eK _ (by omega)]; exact Cs_K221 m,
  by rw [eK _ (by omega)]; exact Cs_K262 m,
  by rw [eK _ (by omega)]; exact Cs_K271 m,
  by rw [eR _ _ (by omega) (by omega) (by omega) (by omega) (by omega)]; exact Cs_R271_0 m,
  by rw [eR _ _ (by omega) (by omega) (by omega) (by omega) (by omega)]; exact Cs_R271_1 m,
  by rw [eK _ (by omega)]; exact Cs_K272 m,
  by rw [eK _ (by omega)]; exact Cs_K276 m,
  by rw [eR _ _ (by omega) (by omega) (by omega) (by omega) (by omega)]; exact Cs_R272_0 m,
  by rw [eR _ _ (by omega) (by omega) (by omega) (by omega) (by omega)]; exact Cs_R276_0 m,
  by rw [eK _ (by omega)]; exact Cs_K273 m,
  by rw [eR _ _ (by omega) (by omega) (by omega) (by omega) (by omega)]; exact Cs_R273_0 m,
  by rw [eR _ _ (by omega) (by omega) (by omega) (by omega) (by omega)]; exact Cs_R273_1 m,
  by rw [eK _ (by omega)]; exact Cs_K274 m,
  by rw [eK _ (by omega)]; exact Cs_K275 m,
  by rw [eK _ (by omega)]; exact Cs_K277 m,
  by rw [eR _ _ (by omega) (by omega) (by omega) (by omega) (by omega)]; exact Cs_R277_0 m,
  by rw [eR _ _ (by omega) (by omega) (by omega) (by omega) (by omega)]; exact Cs_R277_1 m,
  by rw [eK _ (by omega)]; exact Cs_K278 m,
  by rw [eK _ (by omega)]; exact Cs_K279 m,
  by rw [eR _ _ (by omega) (by omega) (by omega) (by omega) (by omega)]; exact Cs_R262_0 m,
  by rw [eK _ (by omega)]; exact Cs_K263 m,
  by rw [eR _ _ (by omega) (by omega) (by omega) (by omega) (by omega)]; exact Cs_R263_0 m,
  by rw [eK _ (by omega)]; exact Cs_K264 m,
  by rw [eR _ _ (by omega) (by omega) (by omega) (by omega) (by omega)]; exact Cs_R262_1 m,
  by rw [eK _ (by omega)]; exact Cs_K265 m,
  by rw [eR _ _ (by omega) (by omega) (by omega) (by omega) (by omega)]; exact Cs_R265_0 m,
  by rw [eK _ (by omega)]; exact Cs_K266 m,
  by rw [eR _ _ (by omega) (by omega) (by omega) (by omega) (by omega)]; exact Cs_R262_2 m,
  by rw [eK _ (by omega)]; exact Cs_K267 m,
  by rw [eR _ _ (by omega) (by omega) (by omega) (by omega) (by omega)]; exact Cs_R267_0 m,
  by rw [eK _ (by omega)]; exact Cs_K268 m,
  by rw [eR _ _ (by omega) (by omega) (by omega) (by omega) (by omega)]; exact Cs_R262_3 m,
  by rw [eK _ (by omega)]; exact Cs_K269 m,
  by rw [eR _ _ (by omega) (by omega) (by omega) (by omega) (by omega)]; exact Cs_R269_0 m,
  by rw [eK _ (by omega)]; exact Cs_K270 m,
  fun i hi => by
    obtain ⟨a1, a2, a3, a4, a5, a6⟩ := Cs_ring m i hi
    exact ⟨by rw [eR _ _ (by omega) (by omega) (by omega) (by omega) (by omega)]; exact a1, by rw [eK _ (by omega)]; exact a2, by rw [eR _ _ (by omega) (by omega) (by omega) (by omega) (by omega)]; exact a3, by rw [eR _ _ (by omega) (by omega) (by omega) (by omega) (by omega)]; exact a4, by rw [eK _ (by omega)]; exact a5, by rw [eK _ (by omega)]; exact a6⟩⟩
theorem CsOk.rd {h h' : Hp} {X : TX} (m : CsOk h) (n : 114 ≤ hN h) (f : Fa S3 h h') (g : CGd X h') (k2 : ∀ a, a = 200 ∨ (214 ≤ a ∧ a ≤ 216) ∨ a = 220 → hK h' a = hK h a ∧ ∀ k, (a = 200 → k ≤ 6) → hR h' a k = hR h a k) : CsOk h' := by
  refine m.of2 (fun a ha => ?_) (fun a k ha h1 h2 h3 h4 => ?_)
  · by_cases c : S3 a
    · unfold S3 at c
      by_cases c1 : a = 201
      · rw [c1, g.2.1]; exact (Cs_K201 m).symm
      · by_cases c2 : a = 203
        · rw [c2, g.2.2.2.2.2.1]; exact (Cs_K203 m).symm
        · exact (k2 a (by omega)).1
    · exact f.K (by omega) c
  · by_cases c : S3 a
    · unfold S3 at c
      by_cases c1 : a = 201
      · subst c1
        have : k = 0 ∨ k = 1 := by omega
        rcases this with rfl | rfl
        · rw [g.2.2.1]; exact (Cs_R201_0 m).symm
        · rw [g.2.2.2.1]; exact (Cs_R201_1 m).symm
      · by_cases c2 : a = 203
        · exact absurd c2 h4
        · exact (k2 a (by omega)).2 k h1
    · exact f.R (by omega) c k
theorem PoolIs.mk {h : Hp} {pl : Nat} {A : Nat → Int} (sh : PSh h pl) (ph : PHas h pl A) (a : AI A) (lw : ∀ l, l < 2 → lawAt h (hR h pl (6 + l)) (lawA A l)) : PoolIs h pl A := by
  obtain ⟨s0, s1, s2, s3, s4, s5, s6, s7, t1, t2, t3, t4, t5, t6⟩ := sh
  have b1 := (a.1 1 (by decide)).1 (by decide) (by decide)
  have p0 : ∀ j, 8 ≤ j → j ≤ 12 → hI h pl j = A (pm 0 j) := fun j h1 h2 => ph 0 j (Or.inl ⟨rfl, h1, h2⟩)
  refine ⟨⟨by omega, s1, s2, s3, s4, t1, t2, t3, ?_, fun t ht => ?_, lw 0 (by decide), lw 1 (by decide)⟩, p0 11 (by decide) (by decide), p0 12 (by decide) (by decide), s7, t6, fun g hg => ph 6 g (pn (by decide) (by decide) hg)⟩
  · rw [p0 10 (by decide) (by decide)]
    show A 1 = (((A 1).toNat : Nat) : Int)
    omega
  · have ht : t < (A 1).toNat := ht
    have t6 : t < 6 := by omega
    have n := (a.1 (21 + t) (by omega)).2.2.1 (by omega) (by omega)
    refine ⟨ph 1 t (pn (by decide) (by decide) t6), ph 2 t (pn (by decide) (by decide) t6), ?_⟩
    rw [ph 3 t (pn (by decide) (by decide) t6)]
    show A (21 + t) = (((A (21 + t)).toNat : Nat) : Int)
    omega
theorem S_begun {d : Nat} {Q : Option PV → Hp → Prop} {h : Hp} {pl : Nat} (m : CsOk h) (sh : PSh h pl) (k : ∀ h', Fp (stP 214) h h' → hI h' 214 2 = hI h pl 8 → hI h' 214 3 = hI h pl 9 → (∀ g, g < 6 → hI h' 215 g = hI h (pl + 4) g ∧ hI h' 216 g = hI h (pl + 5) g) → Q none h') : WP d mX8_begin 0 [some (.inr (.inr 214)), some (.inr (.inr pl))] [] h Q := by
  obtain ⟨s0, s1, s2, s3, s4, s5, s6, s7, t1, t2, t3, t4, t5, t6⟩ := sh
  have n1 : (pl = 214) = False := eq_false (by omega)
  have q4 : (200 ≤ pl + 4) = True := eq_true (by omega)
  have q5 : (200 ≤ pl + 5) = True := eq_true (by omega)
  simp only [rX8_begin_0, rX8_begin_1, rX8_begin_2, rX8_begin_5, rX8_begin_8, rX8_begin_9, rX8_begin_10, rX8_begin_13, rX8_begin_16, rX8_begin_17, rX8_begin_20, rX8_begin_21, rX8_begin_22, rX8_begin_25, rX8_begin_26, rX8_begin_28, rX8_begin_31, rX8_begin_32, rX8_begin_35, rX8_begin_36, rX8_begin_37, rX8_begin_40, rX8_begin_41, rX8_begin_43, rX8_begin_46, hN_wI, hN_wJ, hN_wR, hS_wI, hS_wJ, hS_wR, hK_wI, hK_wJ, hK_wR, hI_wI, hI_wJ, hI_wR, hJ_wI, hJ_wJ, hJ_wR, hR_wI, hR_wJ, hR_wR, hN_nw, hS_nw, hK_nw, hI_nw, hJ_nw, hR_nw, psh_some, psh_none, hK_cp, hR_cp, Cs_K200 m, Cs_R200_0 m, Cs_R200_1 m, Cs_R200_2 m, Cs_R200_3 m, Cs_R200_4 m, Cs_R200_5 m, Cs_R200_6 m, Cs_K201 m, Cs_R201_0 m, Cs_R201_1 m, Cs_K202 m, Cs_K203 m, Cs_K211 m, Cs_R211_0 m, Cs_R211_1 m, Cs_K212 m, Cs_K213 m, Cs_K214 m, Cs_R214_0 m, Cs_R214_1 m, Cs_K215 m, Cs_K216 m, Cs_K217 m, Cs_R217_0 m, Cs_R217_1 m, Cs_K218 m, Cs_K219 m, Cs_K220 m, Cs_R220_0 m, Cs_K221 m, Cs_K262 m, Cs_K271 m, Cs_R271_0 m, Cs_R271_1 m, Cs_K272 m, Cs_K276 m, Cs_R272_0 m, Cs_R276_0 m, Cs_K273 m, Cs_R273_0 m, Cs_R273_1 m, Cs_K274 m, Cs_K275 m, Cs_K277 m, Cs_R277_0 m, Cs_R277_1 m, Cs_K278 m, Cs_K279 m, Cs_R262_0 m, Cs_K263 m, Cs_R263_0 m, Cs_K264 m, Cs_R262_1 m, Cs_K265 m, Cs_R265_0 m, Cs_K266 m, Cs_R262_2 m, Cs_K267 m, Cs_R267_0 m, Cs_K268 m, Cs_R262_3 m, Cs_K269 m, Cs_R269_0 m, Cs_K270 m, s1, s5, s6, t4, t5, n1, q4, q5, Int.toNat_natCast, Int.natCast_nonneg, true_and, and_true, and_self, if_true, if_false, or_true, true_or, or_false, false_or, ne_eq, not_true_eq_false, not_false_eq_true, Nat.reduceLeDiff, Nat.reduceEqDiff, Nat.reduceLT, Nat.reduceAdd, Nat.reduceMul, Nat.reduceSub, Int.reduceLT, Int.reduceLE, Int.reduceEq, Int.reduceToNat, Int.reduceAdd, Int.reduceSub, Int.reduceMul, Int.reduceNeg, Int.cast_ofNat_Int, false_and, and_false]
  have f : Fp (stP 214) h (cpI (cpI (wI (wI h 214 2 (hI h pl 8)) 214 3 (hI h pl 9)) (pl + 4) 0 215 0 6) (pl + 5) 0 216 0 6) := (((((Fp.refl (stP 214) h).wI (by unfold stP; omega) _).wI (by unfold stP; omega) _).cp _ _ _ _ (fun j _ _ => by unfold stP; omega)).cp _ _ _ _ (fun j _ _ => by unfold stP; omega))
  refine k _ f ?_ ?_ (fun g hg => ⟨?_, ?_⟩)
  · rw [hI_cp, if_neg (by omega), hI_cp, if_neg (by omega), hI_wI, if_neg (by omega), hI_wI, if_pos ⟨rfl, rfl⟩]
  · rw [hI_cp, if_neg (by omega), hI_cp, if_neg (by omega), hI_wI, if_pos ⟨rfl, rfl⟩]
  · rw [hI_cp, if_neg (by omega), hI_cp, if_pos ⟨rfl, Nat.zero_le _, by omega⟩, hI_wI, if_neg (by omega), hI_wI, if_neg (by omega), Nat.sub_zero, Nat.zero_add]
  · rw [hI_cp, if_pos ⟨rfl, Nat.zero_le _, by omega⟩, hI_cp, if_neg (by omega), hI_wI, if_neg (by omega), hI_wI, if_neg (by omega), Nat.sub_zero, Nat.zero_add]
theorem C_pool {d : Nat} {σ : AS} {n : Int} : CSpS (d + 154) mX11_pool [some (.inr (.inr 200)), some (.inl n), none] σ (.inl (poAns σ n)) (poSt σ n) := by
  intro h Q sg x w k
  have m := x.1.1
  obtain ⟨⟨_, hn, ⟨p1, p2⟩, st, pa, tr, im, rd⟩, sv⟩ := id x
  obtain ⟨d3, dt, d11, d12⟩ := id rd
  by_cases c : 0 ≤ n ∧ n ≤ (sN σ : Int)
  · obtain ⟨N, rfl⟩ : ∃ N : Nat, n = (N : Int) := ⟨n.toNat, by omega⟩
    have h9 : N ≤ 900 := by have := w.2.2.2.2.2.2.1; omega
    have hN' : N ≤ sN σ := by omega
    have w8 := w.2.2.2.2.2.2.2.1
    have c1 : ((N : Int) < 0) = False := eq_false (by omega)
    have c2 : ((N : Int) ≤ (sN σ : Int)) = True := eq_true c.2
    have c3 : ((sN σ : Int) < (N : Int)) = False := eq_false (by omega)
    simp only [rX11_pool_0, rX11_pool_1, rX11_pool_4, rX11_pool_5, rX11_pool_6, rX11_pool_9, rX11_pool_12, rX11_pool_15, rX11_pool_17, rX11_pool_18, rX11_pool_21, rX11_pool_22, Cs_K200 m, Cs_R200_0 m, Cs_R200_1 m, Cs_R200_2 m, Cs_R200_3 m, Cs_R200_4 m, Cs_R200_5 m, Cs_R200_6 m, Cs_K201 m, Cs_R201_0 m, Cs_R201_1 m, Cs_K202 m, Cs_K203 m, Cs_K211 m, Cs_R211_0 m, Cs_R211_1 m, Cs_K212 m, Cs_K213 m, Cs_K214 m, Cs_R214_0 m, Cs_R214_1 m, Cs_K215 m, Cs_K216 m, Cs_K217 m, Cs_R217_0 m, Cs_R217_1 m, Cs_K218 m, Cs_K219 m, Cs_K220 m, Cs_R220_0 m, Cs_K221 m, Cs_K262 m, Cs_K271 m, Cs_R271_0 m, Cs_R271_1 m, Cs_K272 m, Cs_K276 m, Cs_R272_0 m, Cs_R276_0 m, Cs_K273 m, Cs_R273_0 m, Cs_R273_1 m, Cs_K274 m, Cs_K275 m, Cs_K277 m, Cs_R277_0 m, Cs_R277_1 m, Cs_K278 m, Cs_K279 m, Cs_R262_0 m, Cs_K263 m, Cs_R263_0 m, Cs_K264 m, Cs_R262_1 m, Cs_K265 m, Cs_R265_0 m, Cs_K266 m, Cs_R262_2 m, Cs_K267 m, Cs_R267_0 m, Cs_K268 m, Cs_R262_3 m, Cs_K269 m, Cs_R269_0 m, Cs_K270 m, d3, c1, c2, c3, Int.toNat_natCast, Int.natCast_nonneg, true_and, and_true, and_self, if_true, if_false, or_true, true_or, or_false, false_or, ne_eq, not_true_eq_false, not_false_eq_true, Nat.reduceLeDiff, Nat.reduceEqDiff, Nat.reduceLT, Nat.reduceAdd, Nat.reduceMul, Nat.reduceSub, Int.reduceLT, Int.reduceLE, Int.reduceEq, Int.reduceToNat, Int.reduceAdd, Int.reduceSub, Int.reduceMul, Int.reduceNeg, Int.cast_ofNat_Int, false_and, and_false]
    refine ⟨Nat.le_add_right _ _, I_pool2 (M := hN h) rfl (fun h1 f1 n1 s1 po => ?_)⟩
    have pl3 : 314 ≤ 200 + hN h := by omega
    have k1 : ∀ a, a < 314 → hK h1 a = hK h a := fun a ha => f1.K (by omega) (fun z => z)
    have r1 : ∀ a i, a < 314 → hR h1 a i = hR h a i := fun a i ha => f1.R (by omega) (fun z => z) i
    have i1 : ∀ a i, a < 314 → hI h1 a i = hI h a i := fun a i ha => f1.I (by omega) (fun z => z) i
    simp only [psh_none, rX11_pool_25, rX11_pool_26, rX11_pool_27, rX11_pool_30, rX11_pool_31, rX11_pool_32, k1 200 (by decide), r1 200 0 (by decide), k1 201 (by decide), Cs_K200 m, Cs_R200_0 m, Cs_R200_1 m, Cs_R200_2 m, Cs_R200_3 m, Cs_R200_4 m, Cs_R200_5 m, Cs_R200_6 m, Cs_K201 m, Cs_R201_0 m, Cs_R201_1 m, Cs_K202 m, Cs_K203 m, Cs_K211 m, Cs_R211_0 m, Cs_R211_1 m, Cs_K212 m, Cs_K213 m, Cs_K214 m, Cs_R214_0 m, Cs_R214_1 m, Cs_K215 m, Cs_K216 m, Cs_K217 m, Cs_R217_0 m, Cs_R217_1 m, Cs_K218 m, Cs_K219 m, Cs_K220 m, Cs_R220_0 m, Cs_K221 m, Cs_K262 m, Cs_K271 m, Cs_R271_0 m, Cs_R271_1 m, Cs_K272 m, Cs_K276 m, Cs_R272_0 m, Cs_R276_0 m, Cs_K273 m, Cs_R273_0 m, Cs_R273_1 m, Cs_K274 m, Cs_K275 m, Cs_K277 m, Cs_R277_0 m, Cs_R277_1 m, Cs_K278 m, Cs_K279 m, Cs_R262_0 m, Cs_K263 m, Cs_R263_0 m, Cs_K264 m, Cs_R262_1 m, Cs_K265 m, Cs_R265_0 m, Cs_K266 m, Cs_R262_2 m, Cs_K267 m, Cs_R267_0 m, Cs_K268 m, Cs_R262_3 m, Cs_K269 m, Cs_R269_0 m, Cs_K270 m, Int.toNat_natCast, Int.natCast_nonneg, true_and, and_true, and_self, if_true, if_false, or_true, true_or, or_false, false_or, ne_eq, not_true_eq_false, not_false_eq_true, Nat.reduceLeDiff, Nat.reduceEqDiff, Nat.reduceLT, Nat.reduceAdd, Nat.reduceMul, Nat.reduceSub, Int.reduceLT, Int.reduceLE, Int.reduceEq, Int.reduceToNat, Int.reduceAdd, Int.reduceSub, Int.reduceMul, Int.reduceNeg, Int.cast_ofNat_Int, false_and, and_false]
    refine E_read (d := d + 1) (X := (sT σ, N)) (pl := 200 + hN h) h9 (sg.fa f1 (fun a z => z.elim)) ((k1 _ (by decide)).trans (Cs_K201 m)) ((r1 _ _ (by decide)).trans (Cs_R201_0 m)) ((r1 _ _ (by decide)).trans (Cs_R201_1 m)) ((k1 _ (by decide)).trans (Cs_K202 m)) ((k1 _ (by decide)).trans (Cs_K203 m)) (fun j hj => ⟨(i1 _ _ (by decide)).trans (dt j (Nat.lt_of_lt_of_le hj hN')), w8 j (Nat.lt_of_lt_of_le hj hN')⟩) (po.po1 pl3) (by rw [n1]; omega) (fun h2 x2 z3 t25 => ?_)
    have f2 : Fa S2 h h2 := f1.thru x2.2.1 (Nat.le_refl _)
    have f23 : Fa S3 h h2 := f2.mono (fun a z => by unfold S2 at z; unfold S3; omega)
    have nb : hN h2 ≤ hN h + 920 := by have := x2.2.2.2.1.1; have q : hN h2 ≤ hN h1 + N := this; rw [n1] at q; omega
    have sb : hS h2 ≤ hS h + 2000 := by have := x2.2.2.2.1.2; have q : hS h2 ≤ hS h1 + N := this; omega
    have g2 := x2.1.1
    have K200 : hK h2 200 = (11, 0) := (f2.K (by omega) (by unfold S2; omega)).trans (Cs_K200 m)
    have R200 : ∀ i, hR h2 200 i = hR h 200 i := fun i => f2.R (by omega) (by unfold S2; omega) i
    have r8 : ∀ k, 8 ≤ k → hR h2 200 k = hR h 200 k := fun k _ => R200 k
    have lo : ∀ a, a < 200 + hN h → ¬ S2 a → hK h2 a = hK h a ∧ ∀ k, hI h2 a k = hI h a k ∧ hJ h2 a k = hJ h a k ∧ hR h2 a k = hR h a k := f2.2
    cases e : pPool (sT σ, N) with
    | inr e1 =>
      obtain ⟨y1, y2⟩ := poAns_b (σ := σ) (n := (N : Int)) c e
      rw [y1, y2] at k
      rw [e] at x2
      obtain ⟨t1, t2, t3, t4⟩ := x2.1.2.1
      have t1 : (e1.1 = 0) = False := eq_false t1
      have t3 : hI h2 201 11 = e1.1 := t3
      have t4 : hI h2 201 12 = (e1.2 : Int) := t4
      simp only [psh_none, rX11_pool_35, rX11_pool_36, rX11_pool_39, rX11_pool_42, rX11_pool_45, rX11_pool_47, rX11_pool_48, rX11_pool_51, rX11_pool_54, rX11_pool_55, K200, R200, Cs_R200_0 m, g2.2.1, t3, t1, Int.toNat_natCast, Int.natCast_nonneg, true_and, and_true, and_self, if_true, if_false, or_true, true_or, or_false, false_or, ne_eq, not_true_eq_false, not_false_eq_true, Nat.reduceLeDiff, Nat.reduceEqDiff, Nat.reduceLT, Nat.reduceAdd, Nat.reduceMul, Nat.reduceSub, Int.reduceLT, Int.reduceLE, Int.reduceEq, Int.reduceToNat, Int.reduceAdd, Int.reduceSub, Int.reduceMul, Int.reduceNeg, Int.cast_ofNat_Int, false_and, and_false]
      have m2 : CsOk h2 := m.rd hn f23 g2 (fun a ha => ⟨(lo a (by omega) (by unfold S2; omega)).1, fun k _ => ((lo a (by omega) (by unfold S2; omega)).2 k).2.2⟩)
      refine k h2 (x.mk f23 r8 S3_s m2 ?_ ?_ ?_ ?_ ?_ ?_) (Cfr.fa f2 hn r8 (fun a z => by unfold S2 at z; omega) nb sb)
      · rw [R200 7]
        exact ⟨(p1.fa f23 (pc_of S3_s p2)).1, p2.fa2 f23 r8 (pc_of S3_s p2 _ (Or.inl ⟨by omega, by omega⟩)).2⟩
      · exact st.fa f2 (by omega) (by unfold S2; omega) (by unfold S2; omega) (by unfold S2; omega)
      · exact pa.fa f2 hn (fun a h1 h2 => by unfold S2; omega)
      · exact tr.fa f2 hn (fun a h1 h2 => by unfold S2; omega)
      · intro i hi
        obtain ⟨b1, b2⟩ := im i hi
        have nq : ¬ S2 (272 + 11 * i) := by unfold S2; omega
        rw [f2.I (by omega) nq, f2.R (by omega) nq]
        refine ⟨b1, fun hh => ?_⟩
        obtain ⟨q1, q2, q3⟩ := b2 hh
        exact ⟨(q1.fa f23 (pc_of S3_s q2)).1, q2.fa2 f23 r8 (pc_of S3_s q2 _ (Or.inl ⟨by omega, by omega⟩)).2, q3.fa f2 (by omega) (by unfold S2; omega) (by unfold S2; omega) (by unfold S2; omega)⟩
      · exact ⟨z3, fun j hj => absurd hj (Nat.not_lt_zero j), t3, t4⟩
    | inl y =>
      obtain ⟨q, A⟩ := y
      obtain ⟨y1, y2⟩ := poAns_o (σ := σ) (n := (N : Int)) c e
      have y1 : poAns σ (N : Int) = A 0 := y1
      rw [y1, y2] at k
      rw [e] at x2
      have h9' : (sT σ, N).2 ≤ 900 := h9
      obtain ⟨ai, ai1, ai2⟩ := pPool_inv h9' q A e
      obtain ⟨o1, o2, o3⟩ := AI_ok ai (by have ai2 : q ≤ N := ai2; omega)
      have tq := t25 q A e
      obtain ⟨u1, u2, u3, _⟩ := x2.1.2.1.2.2.2.2 (by rw [tq]; decide)
      obtain ⟨s0, s1', s2, s3, s4, s5, s6, s7, v1, v2, v3, v4, v5, v6⟩ := id x2.1.2.2.2.1
      have ph := x2.1.2.2.2.2 q A rfl
      obtain ⟨_, lw⟩ := x2.2.2.2.2 q A rfl
      have n2 := x2.2.1.1
      have ne2 : (200 = 200 + hN h) = False := eq_false (by omega)
      have m2 : CsOk h2 := m.rd hn f23 g2 (fun a ha => ⟨(lo a (by omega) (by unfold S2; omega)).1, fun k _ => ((lo a (by omega) (by unfold S2; omega)).2 k).2.2⟩)
      simp only [psh_none, rX11_pool_35, rX11_pool_36, rX11_pool_39, rX11_pool_42, rX11_pool_56, rX11_pool_57, rX11_pool_58, rX11_pool_61, rX11_pool_62, rX11_pool_65, rX11_pool_66, rX11_pool_69, hK_wR, hR_wR, Cs_K200 m2, Cs_R200_0 m2, Cs_R200_1 m2, Cs_R200_2 m2, Cs_R200_3 m2, Cs_R200_4 m2, Cs_R200_5 m2, Cs_R200_6 m2, Cs_K201 m2, Cs_R201_0 m2, Cs_R201_1 m2, Cs_K202 m2, Cs_K203 m2, Cs_K211 m2, Cs_R211_0 m2, Cs_R211_1 m2, Cs_K212 m2, Cs_K213 m2, Cs_K214 m2, Cs_R214_0 m2, Cs_R214_1 m2, Cs_K215 m2, Cs_K216 m2, Cs_K217 m2, Cs_R217_0 m2, Cs_R217_1 m2, Cs_K218 m2, Cs_K219 m2, Cs_K220 m2, Cs_R220_0 m2, Cs_K221 m2, Cs_K262 m2, Cs_K271 m2, Cs_R271_0 m2, Cs_R271_1 m2, Cs_K272 m2, Cs_K276 m2, Cs_R272_0 m2, Cs_R276_0 m2, Cs_K273 m2, Cs_R273_0 m2, Cs_R273_1 m2, Cs_K274 m2, Cs_K275 m2, Cs_K277 m2, Cs_R277_0 m2, Cs_R277_1 m2, Cs_K278 m2, Cs_K279 m2, Cs_R262_0 m2, Cs_K263 m2, Cs_R263_0 m2, Cs_K264 m2, Cs_R262_1 m2, Cs_K265 m2, Cs_R265_0 m2, Cs_K266 m2, Cs_R262_2 m2, Cs_K267 m2, Cs_R267_0 m2, Cs_K268 m2, Cs_R262_3 m2, Cs_K269 m2, Cs_R269_0 m2, Cs_K270 m2, u2, Int.toNat_natCast, Int.natCast_nonneg, true_and, and_true, and_self, if_true, if_false, or_true, true_or, or_false, false_or, ne_eq, not_true_eq_false, not_false_eq_true, Nat.reduceLeDiff, Nat.reduceEqDiff, Nat.reduceLT, Nat.reduceAdd, Nat.reduceMul, Nat.reduceSub, Int.reduceLT, Int.reduceLE, Int.reduceEq, Int.reduceToNat, Int.reduceAdd, Int.reduceSub, Int.reduceMul, Int.reduceNeg, Int.cast_ofNat_Int, false_and, and_false]
      have m3 : CsOk (wR h2 200 7 (200 + hN h)) := m2.wR (Or.inl ⟨rfl, rfl⟩)
      have sh3 : PSh (wR h2 200 7 (200 + hN h)) (200 + hN h) := by
        have rr : ∀ i, hR (wR h2 200 7 (200 + hN h)) (200 + hN h) i = hR h2 (200 + hN h) i := fun i => by rw [hR_wR, if_neg (fun z => by have := z.1; omega)]
        exact ⟨s0, s1', (rr 0).trans s2, (rr 1).trans s3, (rr 2).trans s4, (rr 3).trans s5, (rr 4).trans s6, (rr 5).trans s7, v1, v2, v3, v4, v5, v6⟩
      refine S_begun m3 sh3 (fun h4 f4 b2 b3 bg => ?_)
      have m4 := m3.fr f4
      have r4 : ∀ a i, hR h4 a i = if a = 200 ∧ i = 7 then 200 + hN h else hR h2 a i := fun a i => (f4.R a i).trans (hR_wR _ _ _ _ _ _)
      have r47 : hR h4 200 7 = 200 + hN h := (r4 200 7).trans (if_pos ⟨rfl, rfl⟩)
      have k4p : hK h4 (200 + hN h) = (5, 0) := (f4.K _).trans s1'
      have i4 : ∀ a i, ¬ stP 214 a i → hI h4 a i = hI h2 a i := fun a i ha => f4.I ha
      have np : ∀ c i, ¬ stP 214 (200 + hN h + c) i := fun c i => by unfold stP; omega
      have l12 : hI h4 (200 + hN h) 12 = A 0 := (i4 _ _ (np 0 12)).trans (ph 0 12 (Or.inl ⟨rfl, by decide, by decide⟩))
      have nz : (200 + hN h = 220) = False := eq_false (by omega)
      simp only [psh_none, rX11_pool_72, rX11_pool_73, rX11_pool_76, rX4_forget_0, rX4_forget_1, rX4_forget_2, rX4_forget_5, rX11_pool_79, rX11_pool_80, rX11_pool_83, rX11_pool_86, Cs_K200 m4, Cs_R200_0 m4, Cs_R200_1 m4, Cs_R200_2 m4, Cs_R200_3 m4, Cs_R200_4 m4, Cs_R200_5 m4, Cs_R200_6 m4, Cs_K201 m4, Cs_R201_0 m4, Cs_R201_1 m4, Cs_K202 m4, Cs_K203 m4, Cs_K211 m4, Cs_R211_0 m4, Cs_R211_1 m4, Cs_K212 m4, Cs_K213 m4, Cs_K214 m4, Cs_R214_0 m4, Cs_R214_1 m4, Cs_K215 m4, Cs_K216 m4, Cs_K217 m4, Cs_R217_0 m4, Cs_R217_1 m4, Cs_K218 m4, Cs_K219 m4, Cs_K220 m4, Cs_R220_0 m4, Cs_K221 m4, Cs_K262 m4, Cs_K271 m4, Cs_R271_0 m4, Cs_R271_1 m4, Cs_K272 m4, Cs_K276 m4, Cs_R272_0 m4, Cs_R276_0 m4, Cs_K273 m4, Cs_R273_0 m4, Cs_R273_1 m4, Cs_K274 m4, Cs_K275 m4, Cs_K277 m4, Cs_R277_0 m4, Cs_R277_1 m4, Cs_K278 m4, Cs_K279 m4, Cs_R262_0 m4, Cs_K263 m4, Cs_R263_0 m4, Cs_K264 m4, Cs_R262_1 m4, Cs_K265 m4, Cs_R265_0 m4, Cs_K266 m4, Cs_R262_2 m4, Cs_K267 m4, Cs_R267_0 m4, Cs_K268 m4, Cs_R262_3 m4, Cs_K269 m4, Cs_R269_0 m4, Cs_K270 m4, r47, k4p, l12, hK_wI, hR_wI, hI_wI, nz, Int.toNat_natCast, Int.natCast_nonneg, true_and, and_true, and_self, if_true, if_false, or_true, true_or, or_false, false_or, ne_eq, not_true_eq_false, not_false_eq_true, Nat.reduceLeDiff, Nat.reduceEqDiff, Nat.reduceLT, Nat.reduceAdd, Nat.reduceMul, Nat.reduceSub, Int.reduceLT, Int.reduceLE, Int.reduceEq, Int.reduceToNat, Int.reduceAdd, Int.reduceSub, Int.reduceMul, Int.reduceNeg, Int.cast_ofNat_Int, false_and, and_false]
      have m5 : CsOk (wI h4 220 2 0) := m4.fr ((Fp.refl (fun _ _ => True) h4).wI trivial _)
      have fB : Fa S3 h (wI h4 220 2 0) := by
        refine ((Fa.trans f23 (Fa.trans ((Fa.refl S3 h2).wR (Or.inl rfl) _ _) (f4.fa (fun a k p => ?_)))).wI (Or.inr (Or.inr (Or.inr (Or.inr rfl)))) _ _)
        unfold stP at p; unfold S3; omega
      have r5 : ∀ a i, (a = 200 ∧ i = 7 → False) → hR (wI h4 220 2 0) a i = hR h2 a i := fun a i hh => (r4 a i).trans (if_neg hh)
      have i5 : ∀ a i, ¬ stP 214 a i → a ≠ 220 → hI (wI h4 220 2 0) a i = hI h2 a i := fun a i ha hb => by rw [hI_wI, if_neg (fun z => hb z.1)]; exact i4 a i ha
      have r58 : ∀ k, 8 ≤ k → hR (wI h4 220 2 0) 200 k = hR h 200 k := fun k hk => (r5 200 k (fun z => by omega)).trans (R200 k)
      have n5 : hN (wI h4 220 2 0) = hN h2 := f4.N
      have s5' : hS (wI h4 220 2 0) = hS h2 := f4.S
      have sA5 : ∀ k, k < 1089 → (fun k => if k < 1089 then A k else sA σ k) k = A k := fun k hk => if_pos hk
      have sh5 : PSh (wI h4 220 2 0) (200 + hN h) := (sh3.fp f4).fp (P := fun _ _ => True) ((Fp.refl (fun _ _ => True) h4).wI trivial _)
      have ph5 : PHas (wI h4 220 2 0) (200 + hN h) A := fun c j hc => (i5 _ _ (np c j) (by omega)).trans (ph c j hc)
      have lw5 : ∀ l, l < 2 → lawAt (wI h4 220 2 0) (hR (wI h4 220 2 0) (200 + hN h) (6 + l)) (lawA A l) ∧ (hR (wI h4 220 2 0) (200 + hN h) (6 + l) = 90 ∨ (200 + hN h1 ≤ hR (wI h4 220 2 0) (200 + hN h) (6 + l) ∧ hR (wI h4 220 2 0) (200 + hN h) (6 + l) < 200 + hN h2)) := fun l hl => by
        rw [r5 _ _ (fun z => by have := z.1; omega)]
        obtain ⟨⟨a1, a2, a3⟩, a4⟩ := lw l hl
        refine ⟨⟨(f4.K _).trans a1, a2, fun j hj => (i5 _ _ ?_ ?_).trans (a3 j hj)⟩, a4⟩
        · clear a1 a3; unfold stP; rcases a4 with a4 | a4
          · rw [a4]; decide
          · omega
        · clear a1 a3; rcases a4 with a4 | a4
          · rw [a4]; decide
          · omega
      refine k _ (x.mk (σ' := (fun k => if k < 1089 then A k else sA σ k, sH σ, 0, sT σ, 0, -1, sSo σ, sM σ, sB σ)) fB r58 S3_s m5 ?_ ?_ ?_ ?_ ?_ ?_) (Cfr.fa fB hn r58 (fun a z => by unfold S3 at z; omega) (by rw [n5]; exact nb) (by rw [s5']; exact sb))
      · have r57 : hR (wI h4 220 2 0) 200 7 = 200 + hN h := r47
        rw [r57]
        refine ⟨(PoolIs.mk sh5 ph5 ai (fun l hl => (lw5 l hl).1)).same o1 (fun k hk => sA5 k (by omega)), by omega, fun a ha => ?_⟩
        have lt : ∀ l, l < 2 → hR (wI h4 220 2 0) (200 + hN h) (6 + l) = 90 ∨ (200 + hN h1 ≤ hR (wI h4 220 2 0) (200 + hN h) (6 + l) ∧ hR (wI h4 220 2 0) (200 + hN h) (6 + l) < 200 + hN h2) := fun l hl => (lw5 l hl).2
        have l0 := lt 0 (by decide)
        have l1 := lt 1 (by decide)
        have big : a = 90 ∨ (200 + hN h ≤ a ∧ a < 200 + hN h2) := by
          rcases ha with ha | ha | ha
          · exact Or.inr ⟨ha.1, by omega⟩
          · have ha : a = hR (wI h4 220 2 0) (200 + hN h) (6 + 0) := ha
            rw [← ha] at l0
            exact l0.elim Or.inl (fun z => Or.inr ⟨by omega, z.2⟩)
          · have ha : a = hR (wI h4 220 2 0) (200 + hN h) (6 + 1) := ha
            rw [← ha] at l1
            exact l1.elim Or.inl (fun z => Or.inr ⟨by omega, z.2⟩)
        rw [n5]
        refine ⟨by omega, by omega, fun dy => ?_⟩
        have dy' : Dy h a := by
          unfold Dy at dy ⊢
          rw [r58 8 (by decide), r58 9 (by decide), r58 10 (by decide)] at dy
          exact dy
        have := sv.1.ge dy'
        omega
      · refine ⟨?_, ?_, fun g hg => ⟨?_, ?_⟩⟩
        · rw [hI_wI, if_neg (by omega), b2]
          exact ph 0 8 (Or.inl ⟨rfl, by decide, by decide⟩)
        · rw [hI_wI, if_neg (by omega), b3]
          exact ph 0 9 (Or.inl ⟨rfl, by decide, by decide⟩)
        · rw [hI_wI, if_neg (by omega), (bg g hg).1]
          refine (ph 4 g (pn (by decide) (by decide) hg)).trans ?_
          show A (35 + g) = (fun k => if k < 1089 then A k else sA σ k) (33 + (2 + g))
          rw [sA5 _ (by omega), show 33 + (2 + g) = 35 + g by omega]
        · rw [hI_wI, if_neg (by omega), (bg g hg).2]
          refine (ph 5 g (pn (by decide) (by decide) hg)).trans ?_
          show A (41 + g) = (fun k => if k < 1089 then A k else sA σ k) (33 + (8 + g))
          rw [sA5 _ (by omega), show 33 + (8 + g) = 41 + g by omega]
      · obtain ⟨top, q1, q2, _⟩ := pa
        have z47 : (fun k => if k < 1089 then A k else sA σ k) 47 = 0 := (sA5 47 (by decide)).trans o3
        refine ⟨top, q1, ?_, ?_, fun i hi => ?_⟩
        · rw [hI_wI, if_neg (by omega), f4.I (by unfold stP; omega), hI_wR, f2.I (by omega) (by unfold S2; omega)]; exact q2
        · rw [hI_wI, if_pos ⟨rfl, rfl⟩]; exact z47.symm
        · have hi : i < ((fun k => if k < 1089 then A k else sA σ k) 47).toNat := hi
          rw [z47] at hi
          exact absurd hi (Nat.not_lt_zero i)
      · exact tr.fa fB hn (fun a h1 h2 => by unfold S3; omega)
      · intro i hi
        have e : imA (fun k => if k < 1089 then A k else sA σ k) i = imA (sA σ) i := funext (fun k => if_neg (by omega))
        obtain ⟨b1, b2⟩ := im i hi
        have nq : ¬ S3 (272 + 11 * i) := by unfold S3; omega
        rw [fB.I (by omega) nq, fB.R (by omega) nq]
        show _ ∧ (_ → PoolIs _ _ (imA (fun k => if k < 1089 then A k else sA σ k) i) ∧ _ ∧ StIs _ _ (stA (imA (fun k => if k < 1089 then A k else sA σ k) i)))
        rw [e]
        refine ⟨b1, fun hh => ?_⟩
        obtain ⟨q1, q2, q3⟩ := b2 hh
        exact ⟨(q1.fa fB (pc_of S3_s q2)).1, q2.fa2 fB r58 (pc_of S3_s q2 _ (Or.inl ⟨by omega, by omega⟩)).2, q3.fa fB (by omega) (by unfold S3; omega) (by unfold S3; omega) (by unfold S3; omega)⟩
      · have j5 : ∀ i, hI (wI h4 220 2 0) 201 i = hI h2 201 i := fun i => i5 201 i (by unfold stP; omega) (by decide)
        exact ⟨(j5 3).trans z3, fun j hj => absurd hj (Nat.not_lt_zero j), (j5 11).trans u2, (j5 12).trans u3⟩
  · obtain ⟨y1, y2⟩ := poAns_n c
    rw [y1, y2] at k
    have kk := k h x (Cfr.refl h)
    by_cases c1 : n < 0
    · simp only [rX11_pool_0, rX11_pool_1, rX11_pool_4, rX11_pool_5, rX11_pool_6, rX11_pool_9, rX11_pool_12, rX11_pool_15, rX11_pool_17, c1, Int.toNat_natCast, Int.natCast_nonneg, true_and, and_true, and_self, if_true, if_false, or_true, true_or, or_false, false_or, ne_eq, not_true_eq_false, not_false_eq_true, Nat.reduceLeDiff, Nat.reduceEqDiff, Nat.reduceLT, Nat.reduceAdd, Nat.reduceMul, Nat.reduceSub, Int.reduceLT, Int.reduceLE, Int.reduceEq, Int.reduceToNat, Int.reduceAdd, Int.reduceSub, Int.reduceMul, Int.reduceNeg, Int.cast_ofNat_Int, false_and, and_false]
      exact kk
    · have c2 : (n ≤ (sN σ : Int)) = False := eq_false (by omega)
      have c3 : ((sN σ : Int) < n) = True := eq_true (by omega)
      simp only [rX11_pool_0, rX11_pool_1, rX11_pool_4, rX11_pool_5, rX11_pool_6, rX11_pool_9, rX11_pool_12, rX11_pool_15, rX11_pool_17, Cs_K200 m, Cs_R200_0 m, Cs_R200_1 m, Cs_R200_2 m, Cs_R200_3 m, Cs_R200_4 m, Cs_R200_5 m, Cs_R200_6 m, Cs_K201 m, Cs_R201_0 m, Cs_R201_1 m, Cs_K202 m, Cs_K203 m, Cs_K211 m, Cs_R211_0 m, Cs_R211_1 m, Cs_K212 m, Cs_K213 m, Cs_K214 m, Cs_R214_0 m, Cs_R214_1 m, Cs_K215 m, Cs_K216 m, Cs_K217 m, Cs_R217_0 m, Cs_R217_1 m, Cs_K218 m, Cs_K219 m, Cs_K220 m, Cs_R220_0 m, Cs_K221 m, Cs_K262 m, Cs_K271 m, Cs_R271_0 m, Cs_R271_1 m, Cs_K272 m, Cs_K276 m, Cs_R272_0 m, Cs_R276_0 m, Cs_K273 m, Cs_R273_0 m, Cs_R273_1 m, Cs_K274 m, Cs_K275 m, Cs_K277 m, Cs_R277_0 m, Cs_R277_1 m, Cs_K278 m, Cs_K279 m, Cs_R262_0 m, Cs_K263 m, Cs_R263_0 m, Cs_K264 m, Cs_R262_1 m, Cs_K265 m, Cs_R265_0 m, Cs_K266 m, Cs_R262_2 m, Cs_K267 m, Cs_R267_0 m, Cs_K268 m, Cs_R262_3 m, Cs_K269 m, Cs_R269_0 m, Cs_K270 m, d3, c1, c2, c3, Int.toNat_natCast, Int.natCast_nonneg, true_and, and_true, and_self, if_true, if_false, or_true, true_or, or_false, false_or, ne_eq, not_true_eq_false, not_false_eq_true, Nat.reduceLeDiff, Nat.reduceEqDiff, Nat.reduceLT, Nat.reduceAdd, Nat.reduceMul, Nat.reduceSub, Int.reduceLT, Int.reduceLE, Int.reduceEq, Int.reduceToNat, Int.reduceAdd, Int.reduceSub, Int.reduceMul, Int.reduceNeg, Int.cast_ofNat_Int, false_and, and_false]
      exact kk
