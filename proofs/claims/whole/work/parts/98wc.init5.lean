/-! the reference's constructor -/
theorem pl_w {i : Nat} (h : i < 1089) : w32 ((i : Int) + 1) = ((i + 1 : Nat) : Int) := by rw [w32_i (by omega) (by omega)]; omega
theorem pl_l {i : Nat} (h : i < 1089) : (((i : Nat) : Int) < 1089) = True := eq_true (by omega)
theorem pl_m {i : Nat} (h : i < 1089) : (((i : Nat) : Int) < 3267) = True := eq_true (by omega)
theorem S_plain0 {d : Nat} {Q : Option PV → Hp → Prop} : ∀ (n i : Nat) (h : Hp), i + n = 1089 → hK h 295 = (21, 3267) → (∀ k, hI h 295 k = 0) → (∀ h', Fp (fun a _ => a = 295) h h' → (∀ k, hI h' 295 k = 0) → Q none h') → WP d mX12_plain 2 [some (.inr (.inr 295)), some (.inl (i : Int))] [] h Q := by
  intro n
  induction n with
  | zero =>
    intro i h hi K z k
    have e : i = 1089 := by omega
    subst e
    have t : (((1089 : Nat) : Int) < 1089) = False := eq_false (by omega)
    rw [rX12_plain_2]
    simp only [rX12_plain_3, rX12_plain_6, t, if_false, rX12_plain_19]
    exact k h (Fp.refl _ h) z
  | succ n ih =>
    intro i h hi K z k
    have i9 : i < 1089 := by omega
    rw [rX12_plain_2]
    simp only [rX12_plain_3, rX12_plain_6, rX12_plain_9, rX12_plain_10, rX12_plain_11, rX12_plain_12, rX12_plain_13, rX12_plain_16, K, pl_l i9, pl_m i9, pl_w i9, Int.toNat_natCast, Int.natCast_nonneg, true_and, and_true, and_self, if_true, if_false, or_true, true_or, or_false, false_or, ne_eq, not_true_eq_false, not_false_eq_true, Nat.reduceLeDiff, Nat.reduceEqDiff, Nat.reduceLT, Nat.reduceAdd, Nat.reduceMul, Nat.reduceSub, Int.reduceLT, Int.reduceLE, Int.reduceEq, Int.reduceToNat, Int.reduceAdd, Int.reduceSub, Int.reduceMul, Int.reduceNeg, Int.cast_ofNat_Int, false_and, and_false]
    have f : Fp (fun a _ => a = 295) h (wI h 295 i 0) := (Fp.refl (fun a _ => a = 295) h).wI rfl 0
    refine ih (i + 1) _ (by omega) (by rw [hK_wI, K]) (fun q => ?_) (fun h' f' z' => k h' (f.trans f') z')
    rw [hI_wI, z q]; simp
def Mz (H : Hp) : Prop := (∀ k, hI H 295 k = 0) ∧ (∀ k, hI H 296 k = 0) ∧ hI H 294 5 = 0 ∧ hI H 294 13 = 0 ∧ hI H 294 14 = -1 ∧ (∀ i, i < 4 → hI H 311 i = -1 ∧ hI H 312 i = 0) ∧ ∀ k, hJ H 313 k = 0
theorem MSn {g : Hp} {M c l s j : Nat} {v : Nat → Nat} {w : Nat → Int} (n : hN g = M) (k : hK g 294 = (12, 0)) (x : VR g 294 v) (y : ∀ q, hI g 294 q = w q) (hM : 94 < M) : hN (wR (nw g c l s) 294 j (200 + M)) = M + 1 ∧ hK (wR (nw g c l s) 294 j (200 + M)) 294 = (12, 0) ∧ VR (wR (nw g c l s) 294 j (200 + M)) 294 (upR v j (200 + M)) ∧ (∀ q, hI (wR (nw g c l s) 294 j (200 + M)) 294 q = w q) ∧ hK (wR (nw g c l s) 294 j (200 + M)) (200 + M) = (c, l) ∧ Fa (fun a => a = 294) g (wR (nw g c l s) 294 j (200 + M)) ∧ hS (wR (nw g c l s) 294 j (200 + M)) = hS g + s ∧ ∀ q, hI (wR (nw g c l s) 294 j (200 + M)) (200 + M) q = 0 ∧ hJ (wR (nw g c l s) 294 j (200 + M)) (200 + M) q = 0 := by
  have b : 294 < 200 + hN g := by omega
  have f : Fa (fun _ => False) g (nw g c l s) := (Fa.refl _ g).nw c l s
  refine ⟨by rw [hN_wR, hN_nw, n], by rw [hK_wR, f.K b id, k], (x.f f b).w _ _, fun q => by rw [hI_wR, f.I b id, y q], ?_, ?_, by rw [hS_wR, hS_nw], fun q => ⟨?_, ?_⟩⟩
  · rw [hK_wR, hK_nw, n, if_pos rfl]
  · exact (f.mono (S' := fun a => a = 294) (fun _ q => q.elim)).wR rfl j (200 + M)
  · rw [hI_wR, hI_nw, n, if_pos rfl]
  · rw [hJ_wR, hJ_nw, n, if_pos rfl]
theorem MPl {g : Hp} {M : Nat} {v : Nat → Nat} (n : hN g = M) (k : hK g 294 = (12, 0)) (x : VR g 294 v) (y : ∀ q, hI g 294 q = 0) : hN (wI g 294 14 (-1)) = M ∧ hK (wI g 294 14 (-1)) 294 = (12, 0) ∧ VR (wI g 294 14 (-1)) 294 v ∧ (∀ q, hI (wI g 294 14 (-1)) 294 q = (fun q => if q = 14 then -1 else 0) q) ∧ Fa (fun a => a = 294) g (wI g 294 14 (-1)) ∧ hS (wI g 294 14 (-1)) = hS g := by
  refine ⟨by rw [hN_wI, n], by rw [hK_wI, k], fun q => by rw [hR_wI, x q], fun q => ?_, (Fa.refl (fun a => a = 294) g).wI rfl 14 (-1), by rw [hS_wI]⟩
  rw [hI_wI, y q]; simp
theorem MSq {g : Hp} {v : Nat → Nat} {w : Nat → Int} (n : hN g = 111) (k : hK g 294 = (12, 0)) (x : VR g 294 v) (y : ∀ q, hI g 294 q = w q) : hN (wR (wI (wI (wI (wI (nw g 21 4 4) 311 0 (-1)) 311 1 (-1)) 311 2 (-1)) 311 3 (-1)) 294 35 311) = 112 ∧ hK (wR (wI (wI (wI (wI (nw g 21 4 4) 311 0 (-1)) 311 1 (-1)) 311 2 (-1)) 311 3 (-1)) 294 35 311) 294 = (12, 0) ∧ VR (wR (wI (wI (wI (wI (nw g 21 4 4) 311 0 (-1)) 311 1 (-1)) 311 2 (-1)) 311 3 (-1)) 294 35 311) 294 (upR v 35 311) ∧ (∀ q, hI (wR (wI (wI (wI (wI (nw g 21 4 4) 311 0 (-1)) 311 1 (-1)) 311 2 (-1)) 311 3 (-1)) 294 35 311) 294 q = w q) ∧ hK (wR (wI (wI (wI (wI (nw g 21 4 4) 311 0 (-1)) 311 1 (-1)) 311 2 (-1)) 311 3 (-1)) 294 35 311) 311 = (21, 4) ∧ Fa (fun a => a = 294) g (wR (wI (wI (wI (wI (nw g 21 4 4) 311 0 (-1)) 311 1 (-1)) 311 2 (-1)) 311 3 (-1)) 294 35 311) ∧ hS (wR (wI (wI (wI (wI (nw g 21 4 4) 311 0 (-1)) 311 1 (-1)) 311 2 (-1)) 311 3 (-1)) 294 35 311) = hS g + 4 ∧ ∀ q, q < 4 → hI (wR (wI (wI (wI (wI (nw g 21 4 4) 311 0 (-1)) 311 1 (-1)) 311 2 (-1)) 311 3 (-1)) 294 35 311) 311 q = -1 := by
  have b : 294 < 200 + hN g := by omega
  have f : Fa (fun _ => False) g (nw g 21 4 4) := (Fa.refl _ g).nw 21 4 4
  refine ⟨by simp only [hN_wR, hN_wI, hN_nw, n], by simp only [hK_wR, hK_wI]; rw [f.K b id, k], ?_, fun q => ?_, ?_, ?_, by simp only [hS_wR, hS_wI, hS_nw], fun q hq => ?_⟩
  · refine VR.w (fun q => ?_) 35 311
    simp only [hR_wI]
    rw [f.R b id, x q]
  · rw [hI_wR]
    simp only [hI_wI, Int.toNat_natCast, Int.natCast_nonneg, true_and, and_true, and_self, if_true, if_false, or_true, true_or, or_false, false_or, ne_eq, not_true_eq_false, not_false_eq_true, Nat.reduceLeDiff, Nat.reduceEqDiff, Nat.reduceLT, Nat.reduceAdd, Nat.reduceMul, Nat.reduceSub, Int.reduceLT, Int.reduceLE, Int.reduceEq, Int.reduceToNat, Int.reduceAdd, Int.reduceSub, Int.reduceMul, Int.reduceNeg, Int.cast_ofNat_Int, false_and, and_false]
    rw [f.I b id, y q]
  · simp only [hK_wR, hK_wI, hK_nw, n, Int.toNat_natCast, Int.natCast_nonneg, true_and, and_true, and_self, if_true, if_false, or_true, true_or, or_false, false_or, ne_eq, not_true_eq_false, not_false_eq_true, Nat.reduceLeDiff, Nat.reduceEqDiff, Nat.reduceLT, Nat.reduceAdd, Nat.reduceMul, Nat.reduceSub, Int.reduceLT, Int.reduceLE, Int.reduceEq, Int.reduceToNat, Int.reduceAdd, Int.reduceSub, Int.reduceMul, Int.reduceNeg, Int.cast_ofNat_Int, false_and, and_false]
  · have e : Fa (fun a => a = 294 ∨ a = 311) g (wR (wI (wI (wI (wI (nw g 21 4 4) 311 0 (-1)) 311 1 (-1)) 311 2 (-1)) 311 3 (-1)) 294 35 311) := (((((f.mono (S' := fun a => a = 294 ∨ a = 311) (fun _ q => q.elim)).wI (Or.inr rfl) 0 (-1)).wI (Or.inr rfl) 1 (-1)).wI (Or.inr rfl) 2 (-1)).wI (Or.inr rfl) 3 (-1)).wR (Or.inl rfl) 35 311
    exact ⟨e.1, fun q hq hs => e.2 q hq (fun y => y.elim hs (fun y => by omega))⟩
  · have e : q = 0 ∨ q = 1 ∨ q = 2 ∨ q = 3 := by omega
    rcases e with rfl | rfl | rfl | rfl <;> simp only [hI_wR, hI_wI, Int.toNat_natCast, Int.natCast_nonneg, true_and, and_true, and_self, if_true, if_false, or_true, true_or, or_false, false_or, ne_eq, not_true_eq_false, not_false_eq_true, Nat.reduceLeDiff, Nat.reduceEqDiff, Nat.reduceLT, Nat.reduceAdd, Nat.reduceMul, Nat.reduceSub, Int.reduceLT, Int.reduceLE, Int.reduceEq, Int.reduceToNat, Int.reduceAdd, Int.reduceSub, Int.reduceMul, Int.reduceNeg, Int.cast_ofNat_Int, false_and, and_false]
set_option maxHeartbeats 4000000 in
theorem I_model {d : Nat} {Q : Option PV → Hp → Prop} {g0 : Hp} (n0 : hN g0 = 95) (k0 : hK g0 294 = (12, 0)) (v0 : VR g0 294 (fun _ => 0)) (i0 : ∀ q, hI g0 294 q = 0) (k : ∀ H, Fa (fun a => a = 294) g0 H → hN H = 114 → hS H ≤ hS g0 + 200000 → MdOk H → Mz H → Q none H) : WP (d + 1) mX12_init 0 [some (.inr (.inr 294))] [] g0 Q := by
  obtain ⟨n1, k1, v1, i1, a1, f1, s1, z1⟩ := MSn (c := 21) (l := 3267) (s := 3267) (j := 1) n0 k0 v0 i0 (by decide)
  simp only [rX12_init_0, rX12_init_1, rX12_init_4, rX12_init_5, rX12_init_8, rX12_init_10, n0, k0, hK_nw, hN_nw, Int.toNat_natCast, Int.natCast_nonneg, true_and, and_true, and_self, if_true, if_false, or_true, true_or, or_false, false_or, ne_eq, not_true_eq_false, not_false_eq_true, Nat.reduceLeDiff, Nat.reduceEqDiff, Nat.reduceLT, Nat.reduceAdd, Nat.reduceMul, Nat.reduceSub, Int.reduceLT, Int.reduceLE, Int.reduceEq, Int.reduceToNat, Int.reduceAdd, Int.reduceSub, Int.reduceMul, Int.reduceNeg, Int.cast_ofNat_Int, false_and, and_false]
  simp only [Nat.reduceAdd] at n1 v1 a1 f1 s1 z1 k1 i1
  generalize hg1 : wR (nw g0 21 3267 3267) 294 1 295 = g1 at *
  obtain ⟨n2, k2, v2, i2, a2, f2, s2, z2⟩ := MSn (c := 23) (l := 2) (s := 2) (j := 2) n1 k1 v1 i1 (by decide)
  simp only [rX12_init_13, rX12_init_14, rX12_init_15, rX12_init_17, n1, k1, hK_nw, hN_nw, Int.toNat_natCast, Int.natCast_nonneg, true_and, and_true, and_self, if_true, if_false, or_true, true_or, or_false, false_or, ne_eq, not_true_eq_false, not_false_eq_true, Nat.reduceLeDiff, Nat.reduceEqDiff, Nat.reduceLT, Nat.reduceAdd, Nat.reduceMul, Nat.reduceSub, Int.reduceLT, Int.reduceLE, Int.reduceEq, Int.reduceToNat, Int.reduceAdd, Int.reduceSub, Int.reduceMul, Int.reduceNeg, Int.cast_ofNat_Int, false_and, and_false]
  simp only [Nat.reduceAdd] at n2 v2 a2 f2 s2 z2 k2 i2
  generalize hg2 : wR (nw g1 23 2 2) 294 2 296 = g2 at *
  obtain ⟨n3, k3, v3, i3, a3, f3, s3, z3⟩ := MSn (c := 21) (l := 900) (s := 900) (j := 3) n2 k2 v2 i2 (by decide)
  simp only [rX12_init_20, rX12_init_21, rX12_init_24, rX12_init_26, n2, k2, hK_nw, hN_nw, Int.toNat_natCast, Int.natCast_nonneg, true_and, and_true, and_self, if_true, if_false, or_true, true_or, or_false, false_or, ne_eq, not_true_eq_false, not_false_eq_true, Nat.reduceLeDiff, Nat.reduceEqDiff, Nat.reduceLT, Nat.reduceAdd, Nat.reduceMul, Nat.reduceSub, Int.reduceLT, Int.reduceLE, Int.reduceEq, Int.reduceToNat, Int.reduceAdd, Int.reduceSub, Int.reduceMul, Int.reduceNeg, Int.cast_ofNat_Int, false_and, and_false]
  simp only [Nat.reduceAdd] at n3 v3 a3 f3 s3 z3 k3 i3
  generalize hg3 : wR (nw g2 21 900 900) 294 3 297 = g3 at *
  obtain ⟨n4, k4, v4, i4, a4, f4, s4, z4⟩ := MSn (c := 21) (l := 1089) (s := 1089) (j := 4) n3 k3 v3 i3 (by decide)
  simp only [rX12_init_29, rX12_init_30, rX12_init_33, rX12_init_35, n3, k3, hK_nw, hN_nw, Int.toNat_natCast, Int.natCast_nonneg, true_and, and_true, and_self, if_true, if_false, or_true, true_or, or_false, false_or, ne_eq, not_true_eq_false, not_false_eq_true, Nat.reduceLeDiff, Nat.reduceEqDiff, Nat.reduceLT, Nat.reduceAdd, Nat.reduceMul, Nat.reduceSub, Int.reduceLT, Int.reduceLE, Int.reduceEq, Int.reduceToNat, Int.reduceAdd, Int.reduceSub, Int.reduceMul, Int.reduceNeg, Int.cast_ofNat_Int, false_and, and_false]
  simp only [Nat.reduceAdd] at n4 v4 a4 f4 s4 z4 k4 i4
  generalize hg4 : wR (nw g3 21 1089 1089) 294 4 298 = g4 at *
  simp only [rX12_init_38, rX12_init_39, rX12_init_40, k4, Int.toNat_natCast, Int.natCast_nonneg, true_and, and_true, and_self, if_true, if_false, or_true, true_or, or_false, false_or, ne_eq, not_true_eq_false, not_false_eq_true, Nat.reduceLeDiff, Nat.reduceEqDiff, Nat.reduceLT, Nat.reduceAdd, Nat.reduceMul, Nat.reduceSub, Int.reduceLT, Int.reduceLE, Int.reduceEq, Int.reduceToNat, Int.reduceAdd, Int.reduceSub, Int.reduceMul, Int.reduceNeg, Int.cast_ofNat_Int, false_and, and_false]
  obtain ⟨m4, y4, u4, t4, b4, z4⟩ := MPl n4 k4 v4 i4
  generalize hg : wI g4 294 14 (-1) = g4b at *
  obtain ⟨n5, k5, v5, i5, a5, f5, s5, z5⟩ := MSn (c := 21) (l := 900) (s := 900) (j := 16) m4 y4 u4 t4 (by decide)
  simp only [rX12_init_43, rX12_init_44, rX12_init_47, rX12_init_49, m4, y4, hK_nw, hN_nw, Int.toNat_natCast, Int.natCast_nonneg, true_and, and_true, and_self, if_true, if_false, or_true, true_or, or_false, false_or, ne_eq, not_true_eq_false, not_false_eq_true, Nat.reduceLeDiff, Nat.reduceEqDiff, Nat.reduceLT, Nat.reduceAdd, Nat.reduceMul, Nat.reduceSub, Int.reduceLT, Int.reduceLE, Int.reduceEq, Int.reduceToNat, Int.reduceAdd, Int.reduceSub, Int.reduceMul, Int.reduceNeg, Int.cast_ofNat_Int, false_and, and_false]
  simp only [Nat.reduceAdd] at n5 v5 a5 f5 s5 z5 k5 i5
  generalize hg5 : wR (nw g4b 21 900 900) 294 16 299 = g5 at *
  obtain ⟨n6, k6, v6, i6, a6, f6, s6, z6⟩ := MSn (c := 21) (l := 6) (s := 6) (j := 17) n5 k5 v5 i5 (by decide)
  simp only [rX12_init_52, rX12_init_53, rX12_init_55, rX12_init_57, n5, k5, hK_nw, hN_nw, Int.toNat_natCast, Int.natCast_nonneg, true_and, and_true, and_self, if_true, if_false, or_true, true_or, or_false, false_or, ne_eq, not_true_eq_false, not_false_eq_true, Nat.reduceLeDiff, Nat.reduceEqDiff, Nat.reduceLT, Nat.reduceAdd, Nat.reduceMul, Nat.reduceSub, Int.reduceLT, Int.reduceLE, Int.reduceEq, Int.reduceToNat, Int.reduceAdd, Int.reduceSub, Int.reduceMul, Int.reduceNeg, Int.cast_ofNat_Int, false_and, and_false]
  simp only [Nat.reduceAdd] at n6 v6 a6 f6 s6 z6 k6 i6
  generalize hg6 : wR (nw g5 21 6 6) 294 17 300 = g6 at *
  obtain ⟨n7, k7, v7, i7, a7, f7, s7, z7⟩ := MSn (c := 21) (l := 14) (s := 14) (j := 21) n6 k6 v6 i6 (by decide)
  simp only [rX12_init_60, rX12_init_61, rX12_init_63, rX12_init_65, n6, k6, hK_nw, hN_nw, Int.toNat_natCast, Int.natCast_nonneg, true_and, and_true, and_self, if_true, if_false, or_true, true_or, or_false, false_or, ne_eq, not_true_eq_false, not_false_eq_true, Nat.reduceLeDiff, Nat.reduceEqDiff, Nat.reduceLT, Nat.reduceAdd, Nat.reduceMul, Nat.reduceSub, Int.reduceLT, Int.reduceLE, Int.reduceEq, Int.reduceToNat, Int.reduceAdd, Int.reduceSub, Int.reduceMul, Int.reduceNeg, Int.cast_ofNat_Int, false_and, and_false]
  simp only [Nat.reduceAdd] at n7 v7 a7 f7 s7 z7 k7 i7
  generalize hg7 : wR (nw g6 21 14 14) 294 21 301 = g7 at *
  obtain ⟨n8, k8, v8, i8, a8, f8, s8, z8⟩ := MSn (c := 21) (l := 6400) (s := 6400) (j := 24) n7 k7 v7 i7 (by decide)
  simp only [rX12_init_68, rX12_init_69, rX12_init_72, rX12_init_74, n7, k7, hK_nw, hN_nw, Int.toNat_natCast, Int.natCast_nonneg, true_and, and_true, and_self, if_true, if_false, or_true, true_or, or_false, false_or, ne_eq, not_true_eq_false, not_false_eq_true, Nat.reduceLeDiff, Nat.reduceEqDiff, Nat.reduceLT, Nat.reduceAdd, Nat.reduceMul, Nat.reduceSub, Int.reduceLT, Int.reduceLE, Int.reduceEq, Int.reduceToNat, Int.reduceAdd, Int.reduceSub, Int.reduceMul, Int.reduceNeg, Int.cast_ofNat_Int, false_and, and_false]
  simp only [Nat.reduceAdd] at n8 v8 a8 f8 s8 z8 k8 i8
  generalize hg8 : wR (nw g7 21 6400 6400) 294 24 302 = g8 at *
  obtain ⟨n9, k9, v9, i9, a9, f9, s9, z9⟩ := MSn (c := 21) (l := 6400) (s := 6400) (j := 25) n8 k8 v8 i8 (by decide)
  simp only [rX12_init_77, rX12_init_78, rX12_init_81, rX12_init_83, n8, k8, hK_nw, hN_nw, Int.toNat_natCast, Int.natCast_nonneg, true_and, and_true, and_self, if_true, if_false, or_true, true_or, or_false, false_or, ne_eq, not_true_eq_false, not_false_eq_true, Nat.reduceLeDiff, Nat.reduceEqDiff, Nat.reduceLT, Nat.reduceAdd, Nat.reduceMul, Nat.reduceSub, Int.reduceLT, Int.reduceLE, Int.reduceEq, Int.reduceToNat, Int.reduceAdd, Int.reduceSub, Int.reduceMul, Int.reduceNeg, Int.cast_ofNat_Int, false_and, and_false]
  simp only [Nat.reduceAdd] at n9 v9 a9 f9 s9 z9 k9 i9
  generalize hg9 : wR (nw g8 21 6400 6400) 294 25 303 = g9 at *
  obtain ⟨n10, k10, v10, i10, a10, f10, s10, z10⟩ := MSn (c := 21) (l := 38400) (s := 38400) (j := 26) n9 k9 v9 i9 (by decide)
  simp only [rX12_init_86, rX12_init_87, rX12_init_89, rX12_init_91, n9, k9, hK_nw, hN_nw, Int.toNat_natCast, Int.natCast_nonneg, true_and, and_true, and_self, if_true, if_false, or_true, true_or, or_false, false_or, ne_eq, not_true_eq_false, not_false_eq_true, Nat.reduceLeDiff, Nat.reduceEqDiff, Nat.reduceLT, Nat.reduceAdd, Nat.reduceMul, Nat.reduceSub, Int.reduceLT, Int.reduceLE, Int.reduceEq, Int.reduceToNat, Int.reduceAdd, Int.reduceSub, Int.reduceMul, Int.reduceNeg, Int.cast_ofNat_Int, false_and, and_false]
  simp only [Nat.reduceAdd] at n10 v10 a10 f10 s10 z10 k10 i10
  generalize hg10 : wR (nw g9 21 38400 38400) 294 26 304 = g10 at *
  obtain ⟨n11, k11, v11, i11, a11, f11, s11, z11⟩ := MSn (c := 21) (l := 6400) (s := 6400) (j := 28) n10 k10 v10 i10 (by decide)
  simp only [rX12_init_94, rX12_init_95, rX12_init_98, rX12_init_100, n10, k10, hK_nw, hN_nw, Int.toNat_natCast, Int.natCast_nonneg, true_and, and_true, and_self, if_true, if_false, or_true, true_or, or_false, false_or, ne_eq, not_true_eq_false, not_false_eq_true, Nat.reduceLeDiff, Nat.reduceEqDiff, Nat.reduceLT, Nat.reduceAdd, Nat.reduceMul, Nat.reduceSub, Int.reduceLT, Int.reduceLE, Int.reduceEq, Int.reduceToNat, Int.reduceAdd, Int.reduceSub, Int.reduceMul, Int.reduceNeg, Int.cast_ofNat_Int, false_and, and_false]
  simp only [Nat.reduceAdd] at n11 v11 a11 f11 s11 z11 k11 i11
  generalize hg11 : wR (nw g10 21 6400 6400) 294 28 305 = g11 at *
  obtain ⟨n12, k12, v12, i12, a12, f12, s12, z12⟩ := MSn (c := 21) (l := 6400) (s := 6400) (j := 29) n11 k11 v11 i11 (by decide)
  simp only [rX12_init_103, rX12_init_104, rX12_init_107, rX12_init_109, n11, k11, hK_nw, hN_nw, Int.toNat_natCast, Int.natCast_nonneg, true_and, and_true, and_self, if_true, if_false, or_true, true_or, or_false, false_or, ne_eq, not_true_eq_false, not_false_eq_true, Nat.reduceLeDiff, Nat.reduceEqDiff, Nat.reduceLT, Nat.reduceAdd, Nat.reduceMul, Nat.reduceSub, Int.reduceLT, Int.reduceLE, Int.reduceEq, Int.reduceToNat, Int.reduceAdd, Int.reduceSub, Int.reduceMul, Int.reduceNeg, Int.cast_ofNat_Int, false_and, and_false]
  simp only [Nat.reduceAdd] at n12 v12 a12 f12 s12 z12 k12 i12
  generalize hg12 : wR (nw g11 21 6400 6400) 294 29 306 = g12 at *
  obtain ⟨n13, k13, v13, i13, a13, f13, s13, z13⟩ := MSn (c := 22) (l := 6400) (s := 6400) (j := 30) n12 k12 v12 i12 (by decide)
  simp only [rX12_init_112, rX12_init_113, rX12_init_116, rX12_init_118, n12, k12, hK_nw, hN_nw, Int.toNat_natCast, Int.natCast_nonneg, true_and, and_true, and_self, if_true, if_false, or_true, true_or, or_false, false_or, ne_eq, not_true_eq_false, not_false_eq_true, Nat.reduceLeDiff, Nat.reduceEqDiff, Nat.reduceLT, Nat.reduceAdd, Nat.reduceMul, Nat.reduceSub, Int.reduceLT, Int.reduceLE, Int.reduceEq, Int.reduceToNat, Int.reduceAdd, Int.reduceSub, Int.reduceMul, Int.reduceNeg, Int.cast_ofNat_Int, false_and, and_false]
  simp only [Nat.reduceAdd] at n13 v13 a13 f13 s13 z13 k13 i13
  generalize hg13 : wR (nw g12 22 6400 6400) 294 30 307 = g13 at *
  obtain ⟨n14, k14, v14, i14, a14, f14, s14, z14⟩ := MSn (c := 22) (l := 6400) (s := 6400) (j := 31) n13 k13 v13 i13 (by decide)
  simp only [rX12_init_121, rX12_init_122, rX12_init_125, rX12_init_127, n13, k13, hK_nw, hN_nw, Int.toNat_natCast, Int.natCast_nonneg, true_and, and_true, and_self, if_true, if_false, or_true, true_or, or_false, false_or, ne_eq, not_true_eq_false, not_false_eq_true, Nat.reduceLeDiff, Nat.reduceEqDiff, Nat.reduceLT, Nat.reduceAdd, Nat.reduceMul, Nat.reduceSub, Int.reduceLT, Int.reduceLE, Int.reduceEq, Int.reduceToNat, Int.reduceAdd, Int.reduceSub, Int.reduceMul, Int.reduceNeg, Int.cast_ofNat_Int, false_and, and_false]
  simp only [Nat.reduceAdd] at n14 v14 a14 f14 s14 z14 k14 i14
  generalize hg14 : wR (nw g13 22 6400 6400) 294 31 308 = g14 at *
  obtain ⟨n15, k15, v15, i15, a15, f15, s15, z15⟩ := MSn (c := 23) (l := 83200) (s := 83200) (j := 32) n14 k14 v14 i14 (by decide)
  simp only [rX12_init_130, rX12_init_131, rX12_init_133, rX12_init_135, n14, k14, hK_nw, hN_nw, Int.toNat_natCast, Int.natCast_nonneg, true_and, and_true, and_self, if_true, if_false, or_true, true_or, or_false, false_or, ne_eq, not_true_eq_false, not_false_eq_true, Nat.reduceLeDiff, Nat.reduceEqDiff, Nat.reduceLT, Nat.reduceAdd, Nat.reduceMul, Nat.reduceSub, Int.reduceLT, Int.reduceLE, Int.reduceEq, Int.reduceToNat, Int.reduceAdd, Int.reduceSub, Int.reduceMul, Int.reduceNeg, Int.cast_ofNat_Int, false_and, and_false]
  simp only [Nat.reduceAdd] at n15 v15 a15 f15 s15 z15 k15 i15
  generalize hg15 : wR (nw g14 23 83200 83200) 294 32 309 = g15 at *
  obtain ⟨n16, k16, v16, i16, a16, f16, s16, z16⟩ := MSn (c := 23) (l := 100) (s := 100) (j := 34) n15 k15 v15 i15 (by decide)
  simp only [rX12_init_138, rX12_init_139, rX12_init_141, rX12_init_143, n15, k15, hK_nw, hN_nw, Int.toNat_natCast, Int.natCast_nonneg, true_and, and_true, and_self, if_true, if_false, or_true, true_or, or_false, false_or, ne_eq, not_true_eq_false, not_false_eq_true, Nat.reduceLeDiff, Nat.reduceEqDiff, Nat.reduceLT, Nat.reduceAdd, Nat.reduceMul, Nat.reduceSub, Int.reduceLT, Int.reduceLE, Int.reduceEq, Int.reduceToNat, Int.reduceAdd, Int.reduceSub, Int.reduceMul, Int.reduceNeg, Int.cast_ofNat_Int, false_and, and_false]
  simp only [Nat.reduceAdd] at n16 v16 a16 f16 s16 z16 k16 i16
  generalize hg16 : wR (nw g15 23 100 100) 294 34 310 = g16 at *
  obtain ⟨n17, k17, v17, i17, a17, f17, s17, z17⟩ := MSq n16 k16 v16 i16
  simp only [rX12_init_146, rX12_init_147, rX12_init_148, rX12_init_150, rX12_init_151, rX12_init_152, rX12_init_153, rX12_init_154, rX12_init_155, rX12_init_156, rX12_init_157, rX12_init_158, rX12_init_159, rX12_init_160, rX12_init_161, rX12_init_162, rX12_init_163, rX12_init_164, rX12_init_165, rX12_init_166, n16, k16, hK_wI, hK_nw, hN_nw, Int.toNat_natCast, Int.natCast_nonneg, true_and, and_true, and_self, if_true, if_false, or_true, true_or, or_false, false_or, ne_eq, not_true_eq_false, not_false_eq_true, Nat.reduceLeDiff, Nat.reduceEqDiff, Nat.reduceLT, Nat.reduceAdd, Nat.reduceMul, Nat.reduceSub, Int.reduceLT, Int.reduceLE, Int.reduceEq, Int.reduceToNat, Int.reduceAdd, Int.reduceSub, Int.reduceMul, Int.reduceNeg, Int.cast_ofNat_Int, false_and, and_false]
  generalize hg17 : wR (wI (wI (wI (wI (nw g16 21 4 4) 311 0 (-1)) 311 1 (-1)) 311 2 (-1)) 311 3 (-1)) 294 35 311 = g17 at *
  obtain ⟨n18, k18, v18, i18, a18, f18, s18, z18⟩ := MSn (c := 21) (l := 4) (s := 4) (j := 36) n17 k17 v17 i17 (by decide)
  simp only [rX12_init_169, rX12_init_170, rX12_init_171, rX12_init_173, n17, k17, hK_nw, hN_nw, Int.toNat_natCast, Int.natCast_nonneg, true_and, and_true, and_self, if_true, if_false, or_true, true_or, or_false, false_or, ne_eq, not_true_eq_false, not_false_eq_true, Nat.reduceLeDiff, Nat.reduceEqDiff, Nat.reduceLT, Nat.reduceAdd, Nat.reduceMul, Nat.reduceSub, Int.reduceLT, Int.reduceLE, Int.reduceEq, Int.reduceToNat, Int.reduceAdd, Int.reduceSub, Int.reduceMul, Int.reduceNeg, Int.cast_ofNat_Int, false_and, and_false]
  simp only [Nat.reduceAdd] at n18 v18 a18 f18 s18 z18 k18 i18
  generalize hg18 : wR (nw g17 21 4 4) 294 36 312 = g18 at *
  obtain ⟨n19, k19, v19, i19, a19, f19, s19, z19⟩ := MSn (c := 22) (l := 160) (s := 160) (j := 37) n18 k18 v18 i18 (by decide)
  simp only [rX12_init_176, rX12_init_177, rX12_init_180, rX12_init_182, n18, k18, hK_nw, hN_nw, Int.toNat_natCast, Int.natCast_nonneg, true_and, and_true, and_self, if_true, if_false, or_true, true_or, or_false, false_or, ne_eq, not_true_eq_false, not_false_eq_true, Nat.reduceLeDiff, Nat.reduceEqDiff, Nat.reduceLT, Nat.reduceAdd, Nat.reduceMul, Nat.reduceSub, Int.reduceLT, Int.reduceLE, Int.reduceEq, Int.reduceToNat, Int.reduceAdd, Int.reduceSub, Int.reduceMul, Int.reduceNeg, Int.cast_ofNat_Int, false_and, and_false]
  simp only [Nat.reduceAdd] at n19 v19 a19 f19 s19 z19 k19 i19
  generalize hg19 : wR (nw g18 22 160 160) 294 37 313 = g19 at *
  have R1 : hR g19 294 1 = 295 := v19 1
  have e19 := Fa.refl (fun a => a = 294) g19
  have e18 := Fa.trans f19 e19
  have e17 := Fa.trans f18 e18
  have e16 := Fa.trans f17 e17
  have e15 := Fa.trans f16 e16
  have e14 := Fa.trans f15 e15
  have e13 := Fa.trans f14 e14
  have e12 := Fa.trans f13 e13
  have e11 := Fa.trans f12 e12
  have e10 := Fa.trans f11 e11
  have e9 := Fa.trans f10 e10
  have e8 := Fa.trans f9 e9
  have e7 := Fa.trans f8 e8
  have e6 := Fa.trans f7 e7
  have e5 := Fa.trans f6 e6
  have e4 := Fa.trans b4 (Fa.trans f5 e5)
  have e3 := Fa.trans f4 e4
  have e2 := Fa.trans f3 e3
  have e1 := Fa.trans f2 e2
  have e0 := Fa.trans f1 e1
  have A1 : hK g19 295 = (21, 3267) := (e1.K (by rw [n1]; decide) (by decide)).trans a1
  have Z1 : ∀ q, hI g19 295 q = 0 := fun q => (e1.I (by rw [n1]; decide) (by decide) q).trans (z1 q).1
  simp only [rX12_init_185, rX12_init_186, rX12_init_189, rX12_plain_0, rX12_plain_1, k19, R1, Int.toNat_natCast, Int.natCast_nonneg, true_and, and_true, and_self, if_true, if_false, or_true, true_or, or_false, false_or, ne_eq, not_true_eq_false, not_false_eq_true, Nat.reduceLeDiff, Nat.reduceEqDiff, Nat.reduceLT, Nat.reduceAdd, Nat.reduceMul, Nat.reduceSub, Int.reduceLT, Int.reduceLE, Int.reduceEq, Int.reduceToNat, Int.reduceAdd, Int.reduceSub, Int.reduceMul, Int.reduceNeg, Int.cast_ofNat_Int, false_and, and_false]
  refine S_plain0 1089 0 _ rfl A1 Z1 ?_
  intro H f z
  simp only [psh_none, rX12_init_192]
  have nf : Fa (fun a => a = 294 ∨ a = 295) g0 H := Fa.trans (e0.mono (fun _ q => Or.inl q)) (f.fa (fun a k q => Or.inr q))
  have fw : Fa (fun a => a = 294) g0 H := ⟨nf.1, fun q hq hs => nf.2 q hq (fun y => y.elim hs (fun y => by rw [n0, y] at hq; omega))⟩
  refine k H fw (by rw [f.N, n19]) ?_ ?_ ?_
  · rw [f.S]; omega
  · exact ⟨(f.K 294).trans k19, (f.R 294 1).trans (v19 1), (f.K 295).trans ((e1.K (by rw [n1]; decide) (by decide)).trans a1), (f.R 294 2).trans (v19 2), (f.K 296).trans ((e2.K (by rw [n2]; decide) (by decide)).trans a2), (f.R 294 3).trans (v19 3), (f.K 297).trans ((e3.K (by rw [n3]; decide) (by decide)).trans a3), (f.R 294 4).trans (v19 4), (f.K 298).trans ((e4.K (by rw [n4]; decide) (by decide)).trans a4), (f.R 294 16).trans (v19 16), (f.K 299).trans ((e5.K (by rw [n5]; decide) (by decide)).trans a5), (f.R 294 17).trans (v19 17), (f.K 300).trans ((e6.K (by rw [n6]; decide) (by decide)).trans a6), (f.R 294 21).trans (v19 21), (f.K 301).trans ((e7.K (by rw [n7]; decide) (by decide)).trans a7), (f.R 294 24).trans (v19 24), (f.K 302).trans ((e8.K (by rw [n8]; decide) (by decide)).trans a8), (f.R 294 25).trans (v19 25), (f.K 303).trans ((e9.K (by rw [n9]; decide) (by decide)).trans a9), (f.R 294 26).trans (v19 26), (f.K 304).trans ((e10.K (by rw [n10]; decide) (by decide)).trans a10), (f.R 294 28).trans (v19 28), (f.K 305).trans ((e11.K (by rw [n11]; decide) (by decide)).trans a11), (f.R 294 29).trans (v19 29), (f.K 306).trans ((e12.K (by rw [n12]; decide) (by decide)).trans a12), (f.R 294 30).trans (v19 30), (f.K 307).trans ((e13.K (by rw [n13]; decide) (by decide)).trans a13), (f.R 294 31).trans (v19 31), (f.K 308).trans ((e14.K (by rw [n14]; decide) (by decide)).trans a14), (f.R 294 32).trans (v19 32), (f.K 309).trans ((e15.K (by rw [n15]; decide) (by decide)).trans a15), (f.R 294 34).trans (v19 34), (f.K 310).trans ((e16.K (by rw [n16]; decide) (by decide)).trans a16), (f.R 294 35).trans (v19 35), (f.K 311).trans ((e17.K (by rw [n17]; decide) (by decide)).trans a17), (f.R 294 36).trans (v19 36), (f.K 312).trans ((e18.K (by rw [n18]; decide) (by decide)).trans a18), (f.R 294 37).trans (v19 37), (f.K 313).trans ((e19.K (by rw [n19]; decide) (by decide)).trans a19)⟩
  · refine ⟨z, fun q => ?_, ?_, ?_, ?_, fun i hi => ⟨?_, ?_⟩, fun q => ?_⟩
    · exact (f.I (by decide)).trans ((e2.I (by rw [n2]; decide) (by decide) q).trans (z2 q).1)
    · exact (f.I (by decide)).trans (i19 5)
    · exact (f.I (by decide)).trans (i19 13)
    · exact (f.I (by decide)).trans (i19 14)
    · exact (f.I (by decide)).trans ((e17.I (by rw [n17]; decide) (by decide) i).trans (z17 i hi))
    · exact (f.I (by decide)).trans ((e18.I (by rw [n18]; decide) (by decide) i).trans (z18 i).1)
    · exact (f.J (by decide)).trans ((e19.J (by rw [n19]; decide) (by decide) q).trans (z19 q).2)
