theorem look_C {d : Nat} {Q : Option PV → Hp → Prop} {h0 h : Hp} {p sd : Nat} {pd : PD} {g bd th : Nat} {br bo : Int} {x6 : Option PV} (C : LkC h p sd pd g bd th br bo) (f : Fp vP h0 h) (hkn : ∀ j, j < 5 → hI h 212 j = env0 br bo g th bd 0 j) (h3 : hI h 211 3 = dRch pd br bo g th bd) (h4 : hI h 211 4 = (dThr pd br bo g th bd : Nat))
    (k : ∀ h', Fp vP h0 h' → hI h' 211 3 = dRch pd br bo g th bd → hI h' 211 4 = (dThr pd br bo g th bd : Nat) → hI h' 211 5 = dPst pd br bo g th bd → Q none h') :
    WP (d + 3) mX0_look 215 [some (.inr (.inr 211)), some (.inr (.inr p)), some (.inr (.inr sd)), some (.inl (g : Int)), some (.inl (bd : Int)), some (.inl (th : Int)), x6] [] h Q := by
  obtain ⟨D, ⟨p0, p1, p2, p3, p4, p5, p6, p7, p8, p9, p10, p11⟩, pk, ⟨s0, s01, s02, s1, s2, s3⟩, c5, c6, c7, c8, c9, c10, c11, c12, c13⟩ := id C
  obtain ⟨k1, r1, r2, k2, k3⟩ := id D
  have hr := dRch_in pk (g := g) (th := th) (bd := bd) (bo := bo) c7 c8
  have l1 := p11.1
  simp only [rX0_look_215, rX0_look_216, rX0_look_219, rX0_look_220, rX0_look_221, rX0_look_224, rX0_look_225, rX0_look_226, rX0_look_228, rX0_look_229, rX0_look_230, rX0_look_232, rX0_look_235, rX0_look_238, rX0_look_239, rX0_look_242, rX0_look_243, hN_wI, hN_wJ, hN_wR, hS_wI, hS_wJ, hS_wR, hK_wI, hK_wJ, hK_wR, hI_wI, hI_wJ, hI_wR, hJ_wI, hJ_wJ, hJ_wR, hR_wI, hR_wJ, hR_wR, hN_nw, hS_nw, hK_nw, hI_nw, hJ_nw, hR_nw, psh_some, psh_none, Int.toNat_natCast, Int.natCast_nonneg, true_and, and_true, and_self, if_true, if_false, or_true, true_or, or_false, false_or, ne_eq, not_true_eq_false, not_false_eq_true, Nat.reduceLeDiff, Nat.reduceEqDiff, Nat.reduceLT, Nat.reduceAdd, Nat.reduceMul, Nat.reduceSub, Int.reduceLT, Int.reduceLE, Int.reduceEq, Int.reduceToNat, Int.reduceAdd, Int.reduceSub, Int.reduceMul, Int.reduceNeg, Int.cast_ofNat_Int, false_and, and_false, k1, r1, k2, h3, w32_i (z := (bd : Int) + 1) (by omega) (by omega), S_min, p1, l1, show ¬ (p = 211) by omega]
  by_cases ht : pd.2.2.2.2.2 = []
  · rw [ht]
    simp only [List.length_nil, Int.toNat_natCast, Int.natCast_nonneg, true_and, and_true, and_self, if_true, if_false, or_true, true_or, or_false, false_or, ne_eq, not_true_eq_false, not_false_eq_true, Nat.reduceLeDiff, Nat.reduceEqDiff, Nat.reduceLT, Nat.reduceAdd, Nat.reduceMul, Nat.reduceSub, Int.reduceLT, Int.reduceLE, Int.reduceEq, Int.reduceToNat, Int.reduceAdd, Int.reduceSub, Int.reduceMul, Int.reduceNeg, Int.cast_ofNat_Int, false_and, and_false, rX0_look_265, Int.lt_irrefl, Int.natCast_zero]
    refine k _ ((f.wI (Or.inr (Or.inl rfl)) _).wI (Or.inl rfl) _) ?_ ?_ ?_
    · simp only [hN_wI, hN_wJ, hN_wR, hS_wI, hS_wJ, hS_wR, hK_wI, hK_wJ, hK_wR, hI_wI, hI_wJ, hI_wR, hJ_wI, hJ_wJ, hJ_wR, hR_wI, hR_wJ, hR_wR, hN_nw, hS_nw, hK_nw, hI_nw, hJ_nw, hR_nw, psh_some, psh_none, Int.toNat_natCast, Int.natCast_nonneg, true_and, and_true, and_self, if_true, if_false, or_true, true_or, or_false, false_or, ne_eq, not_true_eq_false, not_false_eq_true, Nat.reduceLeDiff, Nat.reduceEqDiff, Nat.reduceLT, Nat.reduceAdd, Nat.reduceMul, Nat.reduceSub, Int.reduceLT, Int.reduceLE, Int.reduceEq, Int.reduceToNat, Int.reduceAdd, Int.reduceSub, Int.reduceMul, Int.reduceNeg, Int.cast_ofNat_Int, false_and, and_false]; exact h3
    · simp only [hN_wI, hN_wJ, hN_wR, hS_wI, hS_wJ, hS_wR, hK_wI, hK_wJ, hK_wR, hI_wI, hI_wJ, hI_wR, hJ_wI, hJ_wJ, hJ_wR, hR_wI, hR_wJ, hR_wR, hN_nw, hS_nw, hK_nw, hI_nw, hJ_nw, hR_nw, psh_some, psh_none, Int.toNat_natCast, Int.natCast_nonneg, true_and, and_true, and_self, if_true, if_false, or_true, true_or, or_false, false_or, ne_eq, not_true_eq_false, not_false_eq_true, Nat.reduceLeDiff, Nat.reduceEqDiff, Nat.reduceLT, Nat.reduceAdd, Nat.reduceMul, Nat.reduceSub, Int.reduceLT, Int.reduceLE, Int.reduceEq, Int.reduceToNat, Int.reduceAdd, Int.reduceSub, Int.reduceMul, Int.reduceNeg, Int.cast_ofNat_Int, false_and, and_false]; exact h4
    · simp only [hN_wI, hN_wJ, hN_wR, hS_wI, hS_wJ, hS_wR, hK_wI, hK_wJ, hK_wR, hI_wI, hI_wJ, hI_wR, hJ_wI, hJ_wJ, hJ_wR, hR_wI, hR_wJ, hR_wR, hN_nw, hS_nw, hK_nw, hI_nw, hJ_nw, hR_nw, psh_some, psh_none, Int.toNat_natCast, Int.natCast_nonneg, true_and, and_true, and_self, if_true, if_false, or_true, true_or, or_false, false_or, ne_eq, not_true_eq_false, not_false_eq_true, Nat.reduceLeDiff, Nat.reduceEqDiff, Nat.reduceLT, Nat.reduceAdd, Nat.reduceMul, Nat.reduceSub, Int.reduceLT, Int.reduceLE, Int.reduceEq, Int.reduceToNat, Int.reduceAdd, Int.reduceSub, Int.reduceMul, Int.reduceNeg, Int.cast_ofNat_Int, false_and, and_false]
      unfold dPst
      rw [if_pos ht]
      by_cases hb9 : bd < 99
      · rw [if_neg (by omega), if_pos hb9]
      · rw [if_neg hb9]; split <;> omega
  · have hln : (0 : Int) < ((pd.2.2.2.2.2.length : Nat) : Int) := by
      have := List.length_pos_iff.2 ht
      omega
    have hty := (pk.2.2.2.2).resolve_left ht
    rw [if_pos hln]
    simp only [rX0_look_246, rX0_look_247, rX0_look_248, rX0_look_249, rX0_look_252, hN_wI, hN_wJ, hN_wR, hS_wI, hS_wJ, hS_wR, hK_wI, hK_wJ, hK_wR, hI_wI, hI_wJ, hI_wR, hJ_wI, hJ_wJ, hJ_wR, hR_wI, hR_wJ, hR_wR, hN_nw, hS_nw, hK_nw, hI_nw, hJ_nw, hR_nw, psh_some, psh_none, Int.toNat_natCast, Int.natCast_nonneg, true_and, and_true, and_self, if_true, if_false, or_true, true_or, or_false, false_or, ne_eq, not_true_eq_false, not_false_eq_true, Nat.reduceLeDiff, Nat.reduceEqDiff, Nat.reduceLT, Nat.reduceAdd, Nat.reduceMul, Nat.reduceSub, Int.reduceLT, Int.reduceLE, Int.reduceEq, Int.reduceToNat, Int.reduceAdd, Int.reduceSub, Int.reduceMul, Int.reduceNeg, Int.cast_ofNat_Int, false_and, and_false, p1, k1]
    have C1 := C.fr ((Fp.refl vP h).wI (a := 212) (k := 5) (Or.inr (Or.inl rfl)) (dRch pd br bo g th bd))
    have C2 := C1.fr ((Fp.refl vP _).wI (a := 211) (k := 5) (Or.inl rfl) (if 99 < (bd : Int) + 1 then 99 else (bd : Int) + 1))
    obtain ⟨D2, ⟨_, _, _, _, _, _, _, _, _, _, _, q11⟩, _⟩ := id C2
    refine S_worth (w := 6) (env := env0 br bo g th bd (dRch pd br bo g th bd)) (cs := pd.2.2.2.2.2) (by omega) (env0_ok ⟨c7, c8⟩ ⟨c9, c10⟩ c11 c12 hr 6) ⟨D2, ?_, ?_, q11.1, pk.2.2.2.1, q11.2.2, ?_⟩ hty ?_
    · have := p11.2.1
      omega
    · have := p11.2.1
      omega
    · intro j hj
      simp only [hN_wI, hN_wJ, hN_wR, hS_wI, hS_wJ, hS_wR, hK_wI, hK_wJ, hK_wR, hI_wI, hI_wJ, hI_wR, hJ_wI, hJ_wJ, hJ_wR, hR_wI, hR_wJ, hR_wR, hN_nw, hS_nw, hK_nw, hI_nw, hJ_nw, hR_nw, psh_some, psh_none, Int.toNat_natCast, Int.natCast_nonneg, true_and, and_true, and_self, if_true, if_false, or_true, true_or, or_false, false_or, ne_eq, not_true_eq_false, not_false_eq_true, Nat.reduceLeDiff, Nat.reduceEqDiff, Nat.reduceLT, Nat.reduceAdd, Nat.reduceMul, Nat.reduceSub, Int.reduceLT, Int.reduceLE, Int.reduceEq, Int.reduceToNat, Int.reduceAdd, Int.reduceSub, Int.reduceMul, Int.reduceNeg, Int.cast_ofNat_Int, false_and, and_false]
      by_cases h5 : j = 5
      · subst h5; simp [env0]
      · rw [if_neg (by omega), hkn j (by omega)]
        unfold env0
        have : j = 0 ∨ j = 1 ∨ j = 2 ∨ j = 3 ∨ j = 4 := by omega
        rcases this with rfl | rfl | rfl | rfl | rfl <;> rfl
    · intro h' f'
      simp only [psh_some, rX0_look_255, rX0_look_256, rX0_look_257, rX0_look_259, rX0_look_262, rX0_look_265, S_kept, f'.K, hN_wI, hN_wJ, hN_wR, hS_wI, hS_wJ, hS_wR, hK_wI, hK_wJ, hK_wR, hI_wI, hI_wJ, hI_wR, hJ_wI, hJ_wJ, hJ_wR, hR_wI, hR_wJ, hR_wR, hN_nw, hS_nw, hK_nw, hI_nw, hJ_nw, hR_nw, psh_some, psh_none, k1, Int.toNat_natCast, Int.natCast_nonneg, true_and, and_true, and_self, if_true, if_false, or_true, true_or, or_false, false_or, ne_eq, not_true_eq_false, not_false_eq_true, Nat.reduceLeDiff, Nat.reduceEqDiff, Nat.reduceLT, Nat.reduceAdd, Nat.reduceMul, Nat.reduceSub, Int.reduceLT, Int.reduceLE, Int.reduceEq, Int.reduceToNat, Int.reduceAdd, Int.reduceSub, Int.reduceMul, Int.reduceNeg, Int.cast_ofNat_Int, false_and, and_false]
      have fv : Fp vP h0 h' := ((f.wI (a := 212) (k := 5) (Or.inr (Or.inl rfl)) (dRch pd br bo g th bd)).wI (a := 211) (k := 5) (Or.inl rfl) (if 99 < (bd : Int) + 1 then 99 else (bd : Int) + 1)).trans (f'.mono (fun a b c => by unfold wP at c; unfold vP; omega))
      refine k _ (fv.wI (Or.inl rfl) _) ?_ ?_ ?_
      · simp only [hN_wI, hN_wJ, hN_wR, hS_wI, hS_wJ, hS_wR, hK_wI, hK_wJ, hK_wR, hI_wI, hI_wJ, hI_wR, hJ_wI, hJ_wJ, hJ_wR, hR_wI, hR_wJ, hR_wR, hN_nw, hS_nw, hK_nw, hI_nw, hJ_nw, hR_nw, psh_some, psh_none, Int.toNat_natCast, Int.natCast_nonneg, true_and, and_true, and_self, if_true, if_false, or_true, true_or, or_false, false_or, ne_eq, not_true_eq_false, not_false_eq_true, Nat.reduceLeDiff, Nat.reduceEqDiff, Nat.reduceLT, Nat.reduceAdd, Nat.reduceMul, Nat.reduceSub, Int.reduceLT, Int.reduceLE, Int.reduceEq, Int.reduceToNat, Int.reduceAdd, Int.reduceSub, Int.reduceMul, Int.reduceNeg, Int.cast_ofNat_Int, false_and, and_false]
        rw [f'.I (by unfold wP; omega)]
        simp only [hN_wI, hN_wJ, hN_wR, hS_wI, hS_wJ, hS_wR, hK_wI, hK_wJ, hK_wR, hI_wI, hI_wJ, hI_wR, hJ_wI, hJ_wJ, hJ_wR, hR_wI, hR_wJ, hR_wR, hN_nw, hS_nw, hK_nw, hI_nw, hJ_nw, hR_nw, psh_some, psh_none, Int.toNat_natCast, Int.natCast_nonneg, true_and, and_true, and_self, if_true, if_false, or_true, true_or, or_false, false_or, ne_eq, not_true_eq_false, not_false_eq_true, Nat.reduceLeDiff, Nat.reduceEqDiff, Nat.reduceLT, Nat.reduceAdd, Nat.reduceMul, Nat.reduceSub, Int.reduceLT, Int.reduceLE, Int.reduceEq, Int.reduceToNat, Int.reduceAdd, Int.reduceSub, Int.reduceMul, Int.reduceNeg, Int.cast_ofNat_Int, false_and, and_false]; exact h3
      · simp only [hN_wI, hN_wJ, hN_wR, hS_wI, hS_wJ, hS_wR, hK_wI, hK_wJ, hK_wR, hI_wI, hI_wJ, hI_wR, hJ_wI, hJ_wJ, hJ_wR, hR_wI, hR_wJ, hR_wR, hN_nw, hS_nw, hK_nw, hI_nw, hJ_nw, hR_nw, psh_some, psh_none, Int.toNat_natCast, Int.natCast_nonneg, true_and, and_true, and_self, if_true, if_false, or_true, true_or, or_false, false_or, ne_eq, not_true_eq_false, not_false_eq_true, Nat.reduceLeDiff, Nat.reduceEqDiff, Nat.reduceLT, Nat.reduceAdd, Nat.reduceMul, Nat.reduceSub, Int.reduceLT, Int.reduceLE, Int.reduceEq, Int.reduceToNat, Int.reduceAdd, Int.reduceSub, Int.reduceMul, Int.reduceNeg, Int.cast_ofNat_Int, false_and, and_false]
        rw [f'.I (by unfold wP; omega)]
        simp only [hN_wI, hN_wJ, hN_wR, hS_wI, hS_wJ, hS_wR, hK_wI, hK_wJ, hK_wR, hI_wI, hI_wJ, hI_wR, hJ_wI, hJ_wJ, hJ_wR, hR_wI, hR_wJ, hR_wR, hN_nw, hS_nw, hK_nw, hI_nw, hJ_nw, hR_nw, psh_some, psh_none, Int.toNat_natCast, Int.natCast_nonneg, true_and, and_true, and_self, if_true, if_false, or_true, true_or, or_false, false_or, ne_eq, not_true_eq_false, not_false_eq_true, Nat.reduceLeDiff, Nat.reduceEqDiff, Nat.reduceLT, Nat.reduceAdd, Nat.reduceMul, Nat.reduceSub, Int.reduceLT, Int.reduceLE, Int.reduceEq, Int.reduceToNat, Int.reduceAdd, Int.reduceSub, Int.reduceMul, Int.reduceNeg, Int.cast_ofNat_Int, false_and, and_false]; exact h4
      · simp only [hN_wI, hN_wJ, hN_wR, hS_wI, hS_wJ, hS_wR, hK_wI, hK_wJ, hK_wR, hI_wI, hI_wJ, hI_wR, hJ_wI, hJ_wJ, hJ_wR, hR_wI, hR_wJ, hR_wR, hN_nw, hS_nw, hK_nw, hI_nw, hJ_nw, hR_nw, psh_some, psh_none, Int.toNat_natCast, Int.natCast_nonneg, true_and, and_true, and_self, if_true, if_false, or_true, true_or, or_false, false_or, ne_eq, not_true_eq_false, not_false_eq_true, Nat.reduceLeDiff, Nat.reduceEqDiff, Nat.reduceLT, Nat.reduceAdd, Nat.reduceMul, Nat.reduceSub, Int.reduceLT, Int.reduceLE, Int.reduceEq, Int.reduceToNat, Int.reduceAdd, Int.reduceSub, Int.reduceMul, Int.reduceNeg, Int.cast_ofNat_Int, false_and, and_false]
        rw [kept_clamp (by omega) (by omega)]
        unfold dPst lawv
        rw [if_neg ht]
theorem look_B {d : Nat} {Q : Option PV → Hp → Prop} {h0 : Hp} {p sd : Nat} {pd : PD} {g bd th : Nat} {br bo : Int} (C0 : LkC h0 p sd pd g bd th br bo)
    (k : ∀ h', Fp vP h0 h' → hI h' 211 3 = dRch pd br bo g th bd → hI h' 211 4 = (dThr pd br bo g th bd : Nat) → hI h' 211 5 = dPst pd br bo g th bd → Q none h') :
    ∀ i (h : Hp), i ≤ pd.1 → (Fp vP h0 h ∧ (∀ j, j < 5 → hI h 212 j = env0 br bo g th bd 0 j) ∧ hI h 211 3 = dRch pd br bo g th bd ∧ hI h 211 4 = (thr pd (dRch pd br bo g th bd) th i : Nat)) →
    WP (d + 3) mX0_look 158 [some (.inr (.inr 211)), some (.inr (.inr p)), some (.inr (.inr sd)), some (.inl (g : Int)), some (.inl (bd : Int)), some (.inl (th : Int)), some (.inl (i : Int))] [] h Q := by
  intro i h hi hx
  refine wp_for (fun i h => WP (d + 3) mX0_look 158 [some (.inr (.inr 211)), some (.inr (.inr p)), some (.inr (.inr sd)), some (.inl (g : Int)), some (.inl (bd : Int)), some (.inl (th : Int)), some (.inl (i : Int))] [] h Q) (fun i h => (Fp vP h0 h ∧ (∀ j, j < 5 → hI h 212 j = env0 br bo g th bd 0 j) ∧ hI h 211 3 = dRch pd br bo g th bd ∧ hI h 211 4 = (thr pd (dRch pd br bo g th bd) th i : Nat))) pd.1 ?_ ?_ i h hi hx
  · rintro i h hi ⟨f, hkn, h3, h4⟩ nx
    have C := C0.fr f
    obtain ⟨D, ⟨p0, p1, p2, p3, p4, p5, p6, p7, p8, p9, p10, p11⟩, pk, ⟨s0, s01, s02, s1, s2, s3⟩, c5, c6, c7, c8, c9, c10, c11, c12, c13⟩ := id C
    obtain ⟨k1, r1, r2, k2, k3⟩ := id D
    obtain ⟨e1, e2, e3⟩ := p9 i hi
    have t6 := pk.1
    have hi6 : (i : Int) < 6 := by omega
    have hlt : (i : Int) < (pd.1 : Int) := by omega
    have hn := (pk.2.1 i hi).2.2
    have ht := thr_in (p := pd) (rc := dRch pd br bo g th bd) c13 i (by omega)
    have h2i : 2 ^ i < 64 := Nat.pow_lt_pow_right (a := 2) (n := 6) (m := i) (by decide) (by omega)
    rw [rX0_look_158]
    simp only [rX0_look_160, rX0_look_161, rX0_look_164, rX0_look_167, rX0_look_168, rX0_look_171, rX0_look_173, rX0_look_174, rX0_look_175, rX0_look_178, rX0_look_181, rX0_look_182, rX0_look_185, rX0_look_187, rX0_look_188, rX0_look_190, rX0_look_191, rX0_look_192, rX0_look_193, rX0_look_196, rX0_look_197, rX0_look_198, rX0_look_201, rX0_look_202, rX0_look_204, rX0_look_205, rX0_look_206, rX0_look_209, rX0_look_212, hN_wI, hN_wJ, hN_wR, hS_wI, hS_wJ, hS_wR, hK_wI, hK_wJ, hK_wR, hI_wI, hI_wJ, hI_wR, hJ_wI, hJ_wJ, hJ_wR, hR_wI, hR_wJ, hR_wR, hN_nw, hS_nw, hK_nw, hI_nw, hJ_nw, hR_nw, psh_some, psh_none, Int.toNat_natCast, Int.natCast_nonneg, true_and, and_true, and_self, if_true, if_false, or_true, true_or, or_false, false_or, ne_eq, not_true_eq_false, not_false_eq_true, Nat.reduceLeDiff, Nat.reduceEqDiff, Nat.reduceLT, Nat.reduceAdd, Nat.reduceMul, Nat.reduceSub, Int.reduceLT, Int.reduceLE, Int.reduceEq, Int.reduceToNat, Int.reduceAdd, Int.reduceSub, Int.reduceMul, Int.reduceNeg, Int.cast_ofNat_Int, false_and, and_false, k1, r1, k2, h3, h4, p1, p2, p4, p5, p7, p8, hlt, hi6, e1, e3, w32_s (i := i) (by omega), shl1 (show i < 31 by omega), iandn_n (show pd.2.2.2.1 i < 2147483648 by omega) (show th < 2147483648 by omega), ior_n (show thr pd (dRch pd br bo g th bd) th i < 2147483648 by omega) (show 2 ^ i < 2147483648 by omega)]
    have et : thr pd (dRch pd br bo g th bd) th (i + 1) = if pd.2.1 i ≤ dRch pd br bo g th bd ∧ without (pd.2.2.2.1 i) th = 0 then thr pd (dRch pd br bo g th bd) th i ||| 2 ^ i else thr pd (dRch pd br bo g th bd) th i := rfl
    by_cases q1 : dRch pd br bo g th bd < pd.2.1 i
    · rw [if_pos q1]
      refine nx _ ⟨f, hkn, h3, ?_⟩
      rw [et, if_neg (by omega)]; exact h4
    · rw [if_neg q1]
      by_cases q2 : without (pd.2.2.2.1 i) th = 0
      · rw [if_pos (by omega)]
        refine nx _ ⟨f.wI (Or.inl rfl) _, fun j hj => ?_, ?_, ?_⟩
        · simp only [hN_wI, hN_wJ, hN_wR, hS_wI, hS_wJ, hS_wR, hK_wI, hK_wJ, hK_wR, hI_wI, hI_wJ, hI_wR, hJ_wI, hJ_wJ, hJ_wR, hR_wI, hR_wJ, hR_wR, hN_nw, hS_nw, hK_nw, hI_nw, hJ_nw, hR_nw, psh_some, psh_none, Int.toNat_natCast, Int.natCast_nonneg, true_and, and_true, and_self, if_true, if_false, or_true, true_or, or_false, false_or, ne_eq, not_true_eq_false, not_false_eq_true, Nat.reduceLeDiff, Nat.reduceEqDiff, Nat.reduceLT, Nat.reduceAdd, Nat.reduceMul, Nat.reduceSub, Int.reduceLT, Int.reduceLE, Int.reduceEq, Int.reduceToNat, Int.reduceAdd, Int.reduceSub, Int.reduceMul, Int.reduceNeg, Int.cast_ofNat_Int, false_and, and_false]; exact hkn j hj
        · simp only [hN_wI, hN_wJ, hN_wR, hS_wI, hS_wJ, hS_wR, hK_wI, hK_wJ, hK_wR, hI_wI, hI_wJ, hI_wR, hJ_wI, hJ_wJ, hJ_wR, hR_wI, hR_wJ, hR_wR, hN_nw, hS_nw, hK_nw, hI_nw, hJ_nw, hR_nw, psh_some, psh_none, Int.toNat_natCast, Int.natCast_nonneg, true_and, and_true, and_self, if_true, if_false, or_true, true_or, or_false, false_or, ne_eq, not_true_eq_false, not_false_eq_true, Nat.reduceLeDiff, Nat.reduceEqDiff, Nat.reduceLT, Nat.reduceAdd, Nat.reduceMul, Nat.reduceSub, Int.reduceLT, Int.reduceLE, Int.reduceEq, Int.reduceToNat, Int.reduceAdd, Int.reduceSub, Int.reduceMul, Int.reduceNeg, Int.cast_ofNat_Int, false_and, and_false]; exact h3
        · simp only [hN_wI, hN_wJ, hN_wR, hS_wI, hS_wJ, hS_wR, hK_wI, hK_wJ, hK_wR, hI_wI, hI_wJ, hI_wR, hJ_wI, hJ_wJ, hJ_wR, hR_wI, hR_wJ, hR_wR, hN_nw, hS_nw, hK_nw, hI_nw, hJ_nw, hR_nw, psh_some, psh_none, Int.toNat_natCast, Int.natCast_nonneg, true_and, and_true, and_self, if_true, if_false, or_true, true_or, or_false, false_or, ne_eq, not_true_eq_false, not_false_eq_true, Nat.reduceLeDiff, Nat.reduceEqDiff, Nat.reduceLT, Nat.reduceAdd, Nat.reduceMul, Nat.reduceSub, Int.reduceLT, Int.reduceLE, Int.reduceEq, Int.reduceToNat, Int.reduceAdd, Int.reduceSub, Int.reduceMul, Int.reduceNeg, Int.cast_ofNat_Int, false_and, and_false]
          rw [et, if_pos ⟨by omega, q2⟩]
      · rw [if_neg (by omega)]
        refine nx _ ⟨f, hkn, h3, ?_⟩
        rw [et, if_neg (by omega)]; exact h4
  · rintro h ⟨f, hkn, h3, h4⟩
    have C := C0.fr f
    have p1 := C.2.1.2.1
    have p8 := C.2.1.2.2.2.2.2.2.2.2.1
    rw [rX0_look_158]
    simp only [rX0_look_160, rX0_look_161, rX0_look_164, hN_wI, hN_wJ, hN_wR, hS_wI, hS_wJ, hS_wR, hK_wI, hK_wJ, hK_wR, hI_wI, hI_wJ, hI_wR, hJ_wI, hJ_wJ, hJ_wR, hR_wI, hR_wJ, hR_wR, hN_nw, hS_nw, hK_nw, hI_nw, hJ_nw, hR_nw, psh_some, psh_none, Int.toNat_natCast, Int.natCast_nonneg, true_and, and_true, and_self, if_true, if_false, or_true, true_or, or_false, false_or, ne_eq, not_true_eq_false, not_false_eq_true, Nat.reduceLeDiff, Nat.reduceEqDiff, Nat.reduceLT, Nat.reduceAdd, Nat.reduceMul, Nat.reduceSub, Int.reduceLT, Int.reduceLE, Int.reduceEq, Int.reduceToNat, Int.reduceAdd, Int.reduceSub, Int.reduceMul, Int.reduceNeg, Int.cast_ofNat_Int, false_and, and_false, p1, p8, Int.lt_irrefl]
    exact look_C C f hkn h3 h4 k
theorem look_A {d : Nat} {Q : Option PV → Hp → Prop} {h0 : Hp} {p sd : Nat} {pd : PD} {g bd th : Nat} {br bo : Int} (C0 : LkC h0 p sd pd g bd th br bo)
    (k : ∀ h', Fp vP h0 h' → hI h' 211 3 = dRch pd br bo g th bd → hI h' 211 4 = (dThr pd br bo g th bd : Nat) → hI h' 211 5 = dPst pd br bo g th bd → Q none h') :
    ∀ i (h : Hp), i ≤ pd.1 → (Fp vP h0 h ∧ (∀ j, j < 5 → hI h 212 j = env0 br bo g th bd 0 j) ∧ hI h 211 3 = rch pd bo th i (rch0 pd br bo g th bd) ∧ hI h 211 4 = (th : Int)) →
    WP (d + 3) mX0_look 96 [some (.inr (.inr 211)), some (.inr (.inr p)), some (.inr (.inr sd)), some (.inl (g : Int)), some (.inl (bd : Int)), some (.inl (th : Int)), some (.inl (i : Int))] [] h Q := by
  intro i h hi hx
  refine wp_for (fun i h => WP (d + 3) mX0_look 96 [some (.inr (.inr 211)), some (.inr (.inr p)), some (.inr (.inr sd)), some (.inl (g : Int)), some (.inl (bd : Int)), some (.inl (th : Int)), some (.inl (i : Int))] [] h Q) (fun i h => (Fp vP h0 h ∧ (∀ j, j < 5 → hI h 212 j = env0 br bo g th bd 0 j) ∧ hI h 211 3 = rch pd bo th i (rch0 pd br bo g th bd) ∧ hI h 211 4 = (th : Int))) pd.1 ?_ ?_ i h hi hx
  · rintro i h hi ⟨f, hkn, h3, h4⟩ nx
    have C := C0.fr f
    obtain ⟨D, ⟨p0, p1, p2, p3, p4, p5, p6, p7, p8, p9, p10, p11⟩, pk, ⟨s0, s01, s02, s1, s2, s3⟩, c5, c6, c7, c8, c9, c10, c11, c12, c13⟩ := id C
    obtain ⟨k1, r1, r2, k2, k3⟩ := id D
    obtain ⟨e1, e2, e3⟩ := p9 i hi
    have t6 := pk.1
    have hi6 : (i : Int) < 6 := by omega
    have hg6 : (g : Int) < 6 := by omega
    have hlt : (i : Int) < (pd.1 : Int) := by omega
    rw [rX0_look_96]
    simp only [rX0_look_98, rX0_look_99, rX0_look_102, rX0_look_105, rX0_look_107, rX0_look_109, rX0_look_112, rX0_look_115, rX0_look_116, rX0_look_119, rX0_look_121, rX0_look_122, rX0_look_123, rX0_look_126, rX0_look_127, rX0_look_128, rX0_look_131, rX0_look_132, rX0_look_133, rX0_look_136, rX0_look_137, rX0_look_140, rX0_look_142, rX0_look_143, rX0_look_146, rX0_look_149, rX0_look_152, hN_wI, hN_wJ, hN_wR, hS_wI, hS_wJ, hS_wR, hK_wI, hK_wJ, hK_wR, hI_wI, hI_wJ, hI_wR, hJ_wI, hJ_wJ, hJ_wR, hR_wI, hR_wJ, hR_wR, hN_nw, hS_nw, hK_nw, hI_nw, hJ_nw, hR_nw, psh_some, psh_none, Int.toNat_natCast, Int.natCast_nonneg, true_and, and_true, and_self, if_true, if_false, or_true, true_or, or_false, false_or, ne_eq, not_true_eq_false, not_false_eq_true, Nat.reduceLeDiff, Nat.reduceEqDiff, Nat.reduceLT, Nat.reduceAdd, Nat.reduceMul, Nat.reduceSub, Int.reduceLT, Int.reduceLE, Int.reduceEq, Int.reduceToNat, Int.reduceAdd, Int.reduceSub, Int.reduceMul, Int.reduceNeg, Int.cast_ofNat_Int, false_and, and_false, k1, r1, k2, h3, h4, p1, p2, p3, p4, p5, p6, p7, p8, hlt, hi6, e1, e2, w32_s (i := i) (by omega), S_has (show th < 2147483648 by omega) (show i < 31 by omega), S_min, s1, s2, s3, c5, c6, hg6]
    have et : rch pd bo th (i + 1) (rch0 pd br bo g th bd) = if th.testBit i = true ∧ bo < pd.2.2.1 i ∧ pd.2.1 i < rch pd bo th i (rch0 pd br bo g th bd) then pd.2.1 i else rch pd bo th i (rch0 pd br bo g th bd) := rfl
    by_cases q0 : th.testBit i = true
    · rw [if_pos q0]
      simp only [Int.toNat_natCast, Int.natCast_nonneg, true_and, and_true, and_self, if_true, if_false, or_true, true_or, or_false, false_or, ne_eq, not_true_eq_false, not_false_eq_true, Nat.reduceLeDiff, Nat.reduceEqDiff, Nat.reduceLT, Nat.reduceAdd, Nat.reduceMul, Nat.reduceSub, Int.reduceLT, Int.reduceLE, Int.reduceEq, Int.reduceToNat, Int.reduceAdd, Int.reduceSub, Int.reduceMul, Int.reduceNeg, Int.cast_ofNat_Int, false_and, and_false]
      by_cases q1 : bo < pd.2.2.1 i
      · rw [if_pos q1]
        refine nx _ ⟨f.wI (Or.inl rfl) _, fun j hj => ?_, ?_, ?_⟩
        · simp only [hN_wI, hN_wJ, hN_wR, hS_wI, hS_wJ, hS_wR, hK_wI, hK_wJ, hK_wR, hI_wI, hI_wJ, hI_wR, hJ_wI, hJ_wJ, hJ_wR, hR_wI, hR_wJ, hR_wR, hN_nw, hS_nw, hK_nw, hI_nw, hJ_nw, hR_nw, psh_some, psh_none, Int.toNat_natCast, Int.natCast_nonneg, true_and, and_true, and_self, if_true, if_false, or_true, true_or, or_false, false_or, ne_eq, not_true_eq_false, not_false_eq_true, Nat.reduceLeDiff, Nat.reduceEqDiff, Nat.reduceLT, Nat.reduceAdd, Nat.reduceMul, Nat.reduceSub, Int.reduceLT, Int.reduceLE, Int.reduceEq, Int.reduceToNat, Int.reduceAdd, Int.reduceSub, Int.reduceMul, Int.reduceNeg, Int.cast_ofNat_Int, false_and, and_false]; exact hkn j hj
        · simp only [hN_wI, hN_wJ, hN_wR, hS_wI, hS_wJ, hS_wR, hK_wI, hK_wJ, hK_wR, hI_wI, hI_wJ, hI_wR, hJ_wI, hJ_wJ, hJ_wR, hR_wI, hR_wJ, hR_wR, hN_nw, hS_nw, hK_nw, hI_nw, hJ_nw, hR_nw, psh_some, psh_none, Int.toNat_natCast, Int.natCast_nonneg, true_and, and_true, and_self, if_true, if_false, or_true, true_or, or_false, false_or, ne_eq, not_true_eq_false, not_false_eq_true, Nat.reduceLeDiff, Nat.reduceEqDiff, Nat.reduceLT, Nat.reduceAdd, Nat.reduceMul, Nat.reduceSub, Int.reduceLT, Int.reduceLE, Int.reduceEq, Int.reduceToNat, Int.reduceAdd, Int.reduceSub, Int.reduceMul, Int.reduceNeg, Int.cast_ofNat_Int, false_and, and_false]
          rw [et]
          by_cases q2 : pd.2.1 i < rch pd bo th i (rch0 pd br bo g th bd)
          · rw [if_pos q2, if_pos ⟨q0, q1, q2⟩]
          · rw [if_neg q2, if_neg (fun q => q2 q.2.2)]
        · simp only [hN_wI, hN_wJ, hN_wR, hS_wI, hS_wJ, hS_wR, hK_wI, hK_wJ, hK_wR, hI_wI, hI_wJ, hI_wR, hJ_wI, hJ_wJ, hJ_wR, hR_wI, hR_wJ, hR_wR, hN_nw, hS_nw, hK_nw, hI_nw, hJ_nw, hR_nw, psh_some, psh_none, Int.toNat_natCast, Int.natCast_nonneg, true_and, and_true, and_self, if_true, if_false, or_true, true_or, or_false, false_or, ne_eq, not_true_eq_false, not_false_eq_true, Nat.reduceLeDiff, Nat.reduceEqDiff, Nat.reduceLT, Nat.reduceAdd, Nat.reduceMul, Nat.reduceSub, Int.reduceLT, Int.reduceLE, Int.reduceEq, Int.reduceToNat, Int.reduceAdd, Int.reduceSub, Int.reduceMul, Int.reduceNeg, Int.cast_ofNat_Int, false_and, and_false]; exact h4
      · rw [if_neg q1]
        refine nx _ ⟨f, hkn, ?_, h4⟩
        rw [et, if_neg (fun q => q1 q.2.1)]; exact h3
    · rw [if_neg q0]
      simp only [Int.toNat_natCast, Int.natCast_nonneg, true_and, and_true, and_self, if_true, if_false, or_true, true_or, or_false, false_or, ne_eq, not_true_eq_false, not_false_eq_true, Nat.reduceLeDiff, Nat.reduceEqDiff, Nat.reduceLT, Nat.reduceAdd, Nat.reduceMul, Nat.reduceSub, Int.reduceLT, Int.reduceLE, Int.reduceEq, Int.reduceToNat, Int.reduceAdd, Int.reduceSub, Int.reduceMul, Int.reduceNeg, Int.cast_ofNat_Int, false_and, and_false]
      refine nx _ ⟨f, hkn, ?_, h4⟩
      rw [et, if_neg (fun q => q0 q.1)]; exact h3
  · rintro h ⟨f, hkn, h3, h4⟩
    have C := C0.fr f
    have p1 := C.2.1.2.1
    have p8 := C.2.1.2.2.2.2.2.2.2.2.1
    rw [rX0_look_96]
    simp only [rX0_look_98, rX0_look_99, rX0_look_102, rX0_look_155, rX0_look_156, hN_wI, hN_wJ, hN_wR, hS_wI, hS_wJ, hS_wR, hK_wI, hK_wJ, hK_wR, hI_wI, hI_wJ, hI_wR, hJ_wI, hJ_wJ, hJ_wR, hR_wI, hR_wJ, hR_wR, hN_nw, hS_nw, hK_nw, hI_nw, hJ_nw, hR_nw, psh_some, psh_none, Int.toNat_natCast, Int.natCast_nonneg, true_and, and_true, and_self, if_true, if_false, or_true, true_or, or_false, false_or, ne_eq, not_true_eq_false, not_false_eq_true, Nat.reduceLeDiff, Nat.reduceEqDiff, Nat.reduceLT, Nat.reduceAdd, Nat.reduceMul, Nat.reduceSub, Int.reduceLT, Int.reduceLE, Int.reduceEq, Int.reduceToNat, Int.reduceAdd, Int.reduceSub, Int.reduceMul, Int.reduceNeg, Int.cast_ofNat_Int, false_and, and_false, p1, p8, Int.lt_irrefl]
    exact look_B C0 k 0 h (Nat.zero_le _) ⟨f, hkn, h3, h4⟩
theorem S_look {d : Nat} {Q : Option PV → Hp → Prop} {h : Hp} {p sd : Nat} {pd : PD} {g bd th : Nat} {br bo : Int} (C : LkC h p sd pd g bd th br bo)
    (k : ∀ h', Fp vP h h' → hI h' 211 3 = dRch pd br bo g th bd → hI h' 211 4 = (dThr pd br bo g th bd : Nat) → hI h' 211 5 = dPst pd br bo g th bd → Q none h') :
    WP (d + 3) mX0_look 0 [some (.inr (.inr 211)), some (.inr (.inr p)), some (.inr (.inr sd)), some (.inl (g : Int)), some (.inl (bd : Int)), some (.inl (th : Int)), none] [] h Q := by
  obtain ⟨D, ⟨p0, p1, p2, p3, p4, p5, p6, p7, p8, p9, p10, p11⟩, pk, ⟨s0, s01, s02, s1, s2, s3⟩, c5, c6, c7, c8, c9, c10, c11, c12, c13⟩ := id C
  obtain ⟨k1, r1, r2, k2, k3⟩ := id D
  have hg6 : (g : Int) < 6 := by omega
  have l1 := p10.1
  have n1 : ¬ (hR h sd 0 = 212) := by omega
  have n2 : ¬ (hR h sd 1 = 212) := by omega
  simp only [rX0_look_0, rX0_look_1, rX0_look_4, rX0_look_5, rX0_look_6, rX0_look_7, rX0_look_8, rX0_look_11, rX0_look_12, rX0_look_13, rX0_look_16, rX0_look_17, rX0_look_18, rX0_look_19, rX0_look_20, rX0_look_23, rX0_look_24, rX0_look_26, rX0_look_27, rX0_look_28, rX0_look_31, rX0_look_32, rX0_look_34, rX0_look_37, rX0_look_38, rX0_look_39, rX0_look_42, rX0_look_43, rX0_look_44, rX0_look_47, rX0_look_48, rX0_look_49, rX0_look_50, rX0_look_51, rX0_look_52, rX0_look_55, rX0_look_56, rX0_look_57, rX0_look_60, rX0_look_61, rX0_look_64, rX0_look_65, hN_wI, hN_wJ, hN_wR, hS_wI, hS_wJ, hS_wR, hK_wI, hK_wJ, hK_wR, hI_wI, hI_wJ, hI_wR, hJ_wI, hJ_wJ, hJ_wR, hR_wI, hR_wJ, hR_wR, hN_nw, hS_nw, hK_nw, hI_nw, hJ_nw, hR_nw, psh_some, psh_none, Int.toNat_natCast, Int.natCast_nonneg, true_and, and_true, and_self, if_true, if_false, or_true, true_or, or_false, false_or, ne_eq, not_true_eq_false, not_false_eq_true, Nat.reduceLeDiff, Nat.reduceEqDiff, Nat.reduceLT, Nat.reduceAdd, Nat.reduceMul, Nat.reduceSub, Int.reduceLT, Int.reduceLE, Int.reduceEq, Int.reduceToNat, Int.reduceAdd, Int.reduceSub, Int.reduceMul, Int.reduceNeg, Int.cast_ofNat_Int, false_and, and_false, k1, r1, k2, S_bitCount c13, p1, l1, s1, s2, s3, c5, c6, hg6, n1, n2]
  have fA : ∀ e : Int, Fp vP h (wI (wI (wI (wI (wI (wI h 212 0 g) 212 1 bo) 212 2 bd) 212 3 (bits th : Nat)) 212 4 br) 211 3 e) := fun e => (((((((Fp.refl vP h).wI (Or.inr (Or.inl rfl)) _).wI (Or.inr (Or.inl rfl)) _).wI (Or.inr (Or.inl rfl)) _).wI (Or.inr (Or.inl rfl)) _).wI (Or.inr (Or.inl rfl)) _).wI (Or.inl rfl) _)
  have kn : ∀ e : Int, ∀ j, j < 5 → hI (wI (wI (wI (wI (wI (wI h 212 0 g) 212 1 bo) 212 2 bd) 212 3 (bits th : Nat)) 212 4 br) 211 3 e) 212 j = env0 br bo g th bd 0 j := by
    intro e j hj
    have : j = 0 ∨ j = 1 ∨ j = 2 ∨ j = 3 ∨ j = 4 := by omega
    rcases this with rfl | rfl | rfl | rfl | rfl <;> simp [hI_wI, env0]
  by_cases ht : pd.2.2.2.2.1 = []
  · rw [ht]
    simp only [List.length_nil, Int.toNat_natCast, Int.natCast_nonneg, true_and, and_true, and_self, if_true, if_false, or_true, true_or, or_false, false_or, ne_eq, not_true_eq_false, not_false_eq_true, Nat.reduceLeDiff, Nat.reduceEqDiff, Nat.reduceLT, Nat.reduceAdd, Nat.reduceMul, Nat.reduceSub, Int.reduceLT, Int.reduceLE, Int.reduceEq, Int.reduceToNat, Int.reduceAdd, Int.reduceSub, Int.reduceMul, Int.reduceNeg, Int.cast_ofNat_Int, false_and, and_false, rX0_look_87, rX0_look_88, rX0_look_90, rX0_look_93, rX0_look_94, Int.lt_irrefl, Int.natCast_zero, hN_wI, hN_wJ, hN_wR, hS_wI, hS_wJ, hS_wR, hK_wI, hK_wJ, hK_wR, hI_wI, hI_wJ, hI_wR, hJ_wI, hJ_wJ, hJ_wR, hR_wI, hR_wJ, hR_wR, hN_nw, hS_nw, hK_nw, hI_nw, hJ_nw, hR_nw, psh_some, psh_none, k1]
    refine look_A C k 0 _ (Nat.zero_le _) ⟨(fA _).wI (Or.inl rfl) _, fun j hj => ?_, ?_, ?_⟩
    · rw [hI_wI, if_neg (by omega)]; exact kn _ j hj
    · simp only [hN_wI, hN_wJ, hN_wR, hS_wI, hS_wJ, hS_wR, hK_wI, hK_wJ, hK_wR, hI_wI, hI_wJ, hI_wR, hJ_wI, hJ_wJ, hJ_wR, hR_wI, hR_wJ, hR_wR, hN_nw, hS_nw, hK_nw, hI_nw, hJ_nw, hR_nw, psh_some, psh_none, Int.toNat_natCast, Int.natCast_nonneg, true_and, and_true, and_self, if_true, if_false, or_true, true_or, or_false, false_or, ne_eq, not_true_eq_false, not_false_eq_true, Nat.reduceLeDiff, Nat.reduceEqDiff, Nat.reduceLT, Nat.reduceAdd, Nat.reduceMul, Nat.reduceSub, Int.reduceLT, Int.reduceLE, Int.reduceEq, Int.reduceToNat, Int.reduceAdd, Int.reduceSub, Int.reduceMul, Int.reduceNeg, Int.cast_ofNat_Int, false_and, and_false]
      unfold rch rch0
      rw [if_pos ht]
    · simp only [hN_wI, hN_wJ, hN_wR, hS_wI, hS_wJ, hS_wR, hK_wI, hK_wJ, hK_wR, hI_wI, hI_wJ, hI_wR, hJ_wI, hJ_wJ, hJ_wR, hR_wI, hR_wJ, hR_wR, hN_nw, hS_nw, hK_nw, hI_nw, hJ_nw, hR_nw, psh_some, psh_none, Int.toNat_natCast, Int.natCast_nonneg, true_and, and_true, and_self, if_true, if_false, or_true, true_or, or_false, false_or, ne_eq, not_true_eq_false, not_false_eq_true, Nat.reduceLeDiff, Nat.reduceEqDiff, Nat.reduceLT, Nat.reduceAdd, Nat.reduceMul, Nat.reduceSub, Int.reduceLT, Int.reduceLE, Int.reduceEq, Int.reduceToNat, Int.reduceAdd, Int.reduceSub, Int.reduceMul, Int.reduceNeg, Int.cast_ofNat_Int, false_and, and_false]
  · have hln : (0 : Int) < ((pd.2.2.2.2.1.length : Nat) : Int) := by
      have := List.length_pos_iff.2 ht
      omega
    have hty := (pk.2.2.1.2).resolve_left ht
    rw [if_pos hln]
    simp only [rX0_look_68, rX0_look_69, rX0_look_70, rX0_look_71, rX0_look_74, hN_wI, hN_wJ, hN_wR, hS_wI, hS_wJ, hS_wR, hK_wI, hK_wJ, hK_wR, hI_wI, hI_wJ, hI_wR, hJ_wI, hJ_wJ, hJ_wR, hR_wI, hR_wJ, hR_wR, hN_nw, hS_nw, hK_nw, hI_nw, hJ_nw, hR_nw, psh_some, psh_none, Int.toNat_natCast, Int.natCast_nonneg, true_and, and_true, and_self, if_true, if_false, or_true, true_or, or_false, false_or, ne_eq, not_true_eq_false, not_false_eq_true, Nat.reduceLeDiff, Nat.reduceEqDiff, Nat.reduceLT, Nat.reduceAdd, Nat.reduceMul, Nat.reduceSub, Int.reduceLT, Int.reduceLE, Int.reduceEq, Int.reduceToNat, Int.reduceAdd, Int.reduceSub, Int.reduceMul, Int.reduceNeg, Int.cast_ofNat_Int, false_and, and_false, p1, k1]
    have C2 := C.fr (fA br)
    obtain ⟨D2, ⟨_, _, _, _, _, _, _, _, _, _, q10, _⟩, _⟩ := id C2
    refine S_worth (w := 5) (env := env0 br bo g th bd 0) (cs := pd.2.2.2.2.1) (by omega) (env0_ok ⟨c7, c8⟩ ⟨c9, c10⟩ c11 c12 ⟨by omega, by omega⟩ 5) ⟨D2, ?_, ?_, q10.1, pk.2.2.1.1, q10.2.2, kn br⟩ hty ?_
    · have := p10.2.1
      omega
    · have := p10.2.1
      omega
    · intro h' f'
      simp only [psh_some, rX0_look_77, rX0_look_78, rX0_look_79, rX0_look_81, rX0_look_84, rX0_look_87, rX0_look_88, rX0_look_90, rX0_look_93, rX0_look_94, S_kept, f'.K, hN_wI, hN_wJ, hN_wR, hS_wI, hS_wJ, hS_wR, hK_wI, hK_wJ, hK_wR, hI_wI, hI_wJ, hI_wR, hJ_wI, hJ_wJ, hJ_wR, hR_wI, hR_wJ, hR_wR, hN_nw, hS_nw, hK_nw, hI_nw, hJ_nw, hR_nw, psh_some, psh_none, k1, Int.toNat_natCast, Int.natCast_nonneg, true_and, and_true, and_self, if_true, if_false, or_true, true_or, or_false, false_or, ne_eq, not_true_eq_false, not_false_eq_true, Nat.reduceLeDiff, Nat.reduceEqDiff, Nat.reduceLT, Nat.reduceAdd, Nat.reduceMul, Nat.reduceSub, Int.reduceLT, Int.reduceLE, Int.reduceEq, Int.reduceToNat, Int.reduceAdd, Int.reduceSub, Int.reduceMul, Int.reduceNeg, Int.cast_ofNat_Int, false_and, and_false]
      have fv : Fp vP h h' := (fA br).trans (f'.mono (fun a b c => by unfold wP at c; unfold vP; omega))
      refine look_A C k 0 _ (Nat.zero_le _) ⟨(fv.wI (Or.inl rfl) _).wI (Or.inl rfl) _, fun j hj => ?_, ?_, ?_⟩
      · simp only [hN_wI, hN_wJ, hN_wR, hS_wI, hS_wJ, hS_wR, hK_wI, hK_wJ, hK_wR, hI_wI, hI_wJ, hI_wR, hJ_wI, hJ_wJ, hJ_wR, hR_wI, hR_wJ, hR_wR, hN_nw, hS_nw, hK_nw, hI_nw, hJ_nw, hR_nw, psh_some, psh_none, Int.toNat_natCast, Int.natCast_nonneg, true_and, and_true, and_self, if_true, if_false, or_true, true_or, or_false, false_or, ne_eq, not_true_eq_false, not_false_eq_true, Nat.reduceLeDiff, Nat.reduceEqDiff, Nat.reduceLT, Nat.reduceAdd, Nat.reduceMul, Nat.reduceSub, Int.reduceLT, Int.reduceLE, Int.reduceEq, Int.reduceToNat, Int.reduceAdd, Int.reduceSub, Int.reduceMul, Int.reduceNeg, Int.cast_ofNat_Int, false_and, and_false]
        rw [f'.I (by unfold wP; omega)]; exact kn br j hj
      · simp only [hN_wI, hN_wJ, hN_wR, hS_wI, hS_wJ, hS_wR, hK_wI, hK_wJ, hK_wR, hI_wI, hI_wJ, hI_wR, hJ_wI, hJ_wJ, hJ_wR, hR_wI, hR_wJ, hR_wR, hN_nw, hS_nw, hK_nw, hI_nw, hJ_nw, hR_nw, psh_some, psh_none, Int.toNat_natCast, Int.natCast_nonneg, true_and, and_true, and_self, if_true, if_false, or_true, true_or, or_false, false_or, ne_eq, not_true_eq_false, not_false_eq_true, Nat.reduceLeDiff, Nat.reduceEqDiff, Nat.reduceLT, Nat.reduceAdd, Nat.reduceMul, Nat.reduceSub, Int.reduceLT, Int.reduceLE, Int.reduceEq, Int.reduceToNat, Int.reduceAdd, Int.reduceSub, Int.reduceMul, Int.reduceNeg, Int.cast_ofNat_Int, false_and, and_false]
        rw [kept_clamp (by omega) (by omega)]
        unfold rch rch0 lawv
        rw [if_neg ht]
      · simp only [hN_wI, hN_wJ, hN_wR, hS_wI, hS_wJ, hS_wR, hK_wI, hK_wJ, hK_wR, hI_wI, hI_wJ, hI_wR, hJ_wI, hJ_wJ, hJ_wR, hR_wI, hR_wJ, hR_wR, hN_nw, hS_nw, hK_nw, hI_nw, hJ_nw, hR_nw, psh_some, psh_none, Int.toNat_natCast, Int.natCast_nonneg, true_and, and_true, and_self, if_true, if_false, or_true, true_or, or_false, false_or, ne_eq, not_true_eq_false, not_false_eq_true, Nat.reduceLeDiff, Nat.reduceEqDiff, Nat.reduceLT, Nat.reduceAdd, Nat.reduceMul, Nat.reduceSub, Int.reduceLT, Int.reduceLE, Int.reduceEq, Int.reduceToNat, Int.reduceAdd, Int.reduceSub, Int.reduceMul, Int.reduceNeg, Int.cast_ofNat_Int, false_and, and_false]
