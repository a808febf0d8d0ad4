/-! the class's constructor, whole -/
theorem Rd0.fa {S : Nat → Prop} {h h' : Hp} {a : Nat} (x : Rd0 h a) (f : Fa S h h') (hn : a + 2 < 200 + hN h) (hs : ∀ i, i ≤ 2 → ¬ S (a + i)) : Rd0 h' a := by
  have n0 : a < 200 + hN h := by omega
  have n1 : a + 1 < 200 + hN h := by omega
  have h0 := hs 0 (by decide)
  obtain ⟨x0, x1, x2, x3, x4, x5, x6, x7⟩ := x
  exact ⟨(f.K n0 h0).trans x0, (f.R n0 h0 _).trans x1, (f.R n0 h0 _).trans x2, (f.K n1 (hs 1 (by decide))).trans x3, (f.K hn (hs 2 (by decide))).trans x4, (f.I n0 h0 _).trans x5, (f.I n0 h0 _).trans x6, (f.I n0 h0 _).trans x7⟩
theorem Di0.fa {S : Nat → Prop} {h h' : Hp} {a : Nat} (x : Di0 h a) (f : Fa S h h') (hn : a + 2 < 200 + hN h) (hs : ∀ i, i ≤ 2 → ¬ S (a + i)) : Di0 h' a := by
  have n0 : a < 200 + hN h := by omega
  have n1 : a + 1 < 200 + hN h := by omega
  have h0 := hs 0 (by decide)
  obtain ⟨x0, x1, x2, x3, x4⟩ := x
  exact ⟨(f.K n0 h0).trans x0, (f.R n0 h0 _).trans x1, (f.R n0 h0 _).trans x2, (f.K n1 (hs 1 (by decide))).trans x3, (f.K hn (hs 2 (by decide))).trans x4⟩
theorem Tr0.fa {S : Nat → Prop} {h h' : Hp} {a : Nat} (x : Tr0 h a) (f : Fa S h h') (hn : a + 1 < 200 + hN h) (hs : ∀ i, i ≤ 1 → ¬ S (a + i)) : Tr0 h' a := by
  have n0 : a < 200 + hN h := by omega
  have h0 := hs 0 (by decide)
  obtain ⟨x0, x1, x2, x3⟩ := x
  exact ⟨(f.K n0 h0).trans x0, (f.R n0 h0 _).trans x1, (f.K hn (hs 1 (by decide))).trans x2, (f.I n0 h0 _).trans x3⟩
theorem Im0.fa {S : Nat → Prop} {h h' : Hp} {a : Nat} (x : Im0 h a) (f : Fa S h h') (hn : a + 3 < 200 + hN h) (hs : ∀ i, i ≤ 3 → ¬ S (a + i)) : Im0 h' a := by
  have n0 : a < 200 + hN h := by omega
  have h0 := hs 0 (by decide)
  obtain ⟨x0, x1, x2, x3⟩ := x
  exact ⟨(f.K n0 h0).trans x0, (f.R n0 h0 _).trans x1, (f.I n0 h0 _).trans x2, x3.fa f hn (hs 1 (by decide)) (hs 2 (by decide)) (hs 3 (by decide))⟩
theorem Po0.fa {S : Nat → Prop} {h h' : Hp} {a : Nat} (x : Po0 h a) (f : Fa S h h') (hn : a + 6 < 200 + hN h) (hs : ∀ i, i ≤ 6 → ¬ S (a + i)) : Po0 h' a := by
  have n0 : a < 200 + hN h := by omega
  have h0 := hs 0 (by decide)
  have n : ∀ i, i ≤ 6 → a + i < 200 + hN h := fun i hi => by omega
  obtain ⟨x0, x1, x2, x3, x4, x5, x6, x7, x8, x9, x10, x11⟩ := x
  exact ⟨(f.K n0 h0).trans x0, (f.R n0 h0 _).trans x1, (f.R n0 h0 _).trans x2, (f.R n0 h0 _).trans x3, (f.R n0 h0 _).trans x4, (f.R n0 h0 _).trans x5, (f.R n0 h0 _).trans x6, (f.K (n 1 (by decide)) (hs 1 (by decide))).trans x7, (f.K (n 2 (by decide)) (hs 2 (by decide))).trans x8, (f.K (n 3 (by decide)) (hs 3 (by decide))).trans x9, (f.K (n 6 (by decide)) (hs 6 (by decide))).trans x10, fun k => ⟨(f.I n0 h0 k).trans (x11 k).1, (f.I (n 6 (by decide)) (hs 6 (by decide)) k).trans (x11 k).2⟩⟩
def PaF (h : Hp) : Prop := hK h 220 = (4, 0) ∧ hR h 220 0 = 221 ∧ hK h 221 = (25, 11) ∧ hI h 220 1 = 0 ∧ hI h 220 2 = 0 ∧ ∀ j, j < 11 → hR h 221 j = 222 + 3 * j ∧ St0 h (222 + 3 * j)
theorem PaF.fa {S : Nat → Prop} {h h' : Hp} (x : PaF h) (f : Fa S h h') (hn : 255 ≤ 200 + hN h) (hs : ∀ a, 220 ≤ a → a < 255 → ¬ S a) : PaF h' := by
  have n : ∀ a, a < 255 → a < 200 + hN h := fun a ha => by omega
  obtain ⟨x0, x1, x2, x3, x4, x5⟩ := x
  refine ⟨(f.K (n _ (by decide)) (hs _ (by decide) (by decide))).trans x0, (f.R (n _ (by decide)) (hs _ (by decide) (by decide)) _).trans x1, (f.K (n _ (by decide)) (hs _ (by decide) (by decide))).trans x2, (f.I (n _ (by decide)) (hs _ (by decide) (by decide)) _).trans x3, (f.I (n _ (by decide)) (hs _ (by decide) (by decide)) _).trans x4, fun j hj => ⟨(f.R (n _ (by decide)) (hs _ (by decide) (by decide)) _).trans (x5 j hj).1, (x5 j hj).2.fa f (by omega) (hs _ (by omega) (by omega)) (hs _ (by omega) (by omega)) (hs _ (by omega) (by omega))⟩⟩
theorem cS_n {a m : Nat} (h : 200 < a ∧ a + m < 262 ∨ 262 < a ∧ a + m < 271 ∨ 271 < a) : ∀ i, i ≤ m → ¬ cS (a + i) := fun i hi q => by unfold cS at q; omega
def Cini (h H : Hp) : Prop := hN H = 94 ∧ hS H ≤ hS h + 4000 ∧ Fa cS h H ∧ hK H 200 = (11, 0) ∧ hK H 262 = (26, 4) ∧ hK H 271 = (24, 2) ∧ VR H 200 (upR (upR (upR (upR (upR (upR (upR (upR (fun _ => 0) 0 201) 1 211) 2 214) 3 217) 4 220) 7 255) 5 262) 6 271) ∧ VR H 262 (upR (upR (upR (upR (fun _ => 0) 0 263) 1 265) 2 267) 3 269) ∧ VR H 271 (upR (upR (fun _ => 0) 0 272) 1 283) ∧ Rd0 H 201 ∧ Di0 H 211 ∧ St0 H 214 ∧ St0 H 217 ∧ PaF H ∧ Po0 H 255 ∧ Tr0 H 263 ∧ Tr0 H 265 ∧ Tr0 H 267 ∧ Tr0 H 269 ∧ Im0 H 272 ∧ Im0 H 283
set_option maxRecDepth 20000 in
set_option maxHeartbeats 4000000 in
theorem I_board {d : Nat} {Q : Option PV → Hp → Prop} {h : Hp} (hM : hN h = 1) (hK0 : hK h 200 = (11, 0)) (hV : VR h 200 (fun _ => 0)) (k : ∀ H, Cini h H → Q none H) : WP (d + 2) mX11_init 0 [some (.inr (.inr 200))] [] h Q := by
  simp only [rX11_init_0, rX11_init_1, rX11_init_4, rX11_init_5, rX11_init_8, rX11_init_9, hK0, hM, hN_wR, hK_wR, elC, Int.toNat_natCast, Int.natCast_nonneg, true_and, and_true, and_self, if_true, if_false, or_true, true_or, or_false, false_or, ne_eq, not_true_eq_false, not_false_eq_true, Nat.reduceLeDiff, Nat.reduceEqDiff, Nat.reduceLT, Nat.reduceAdd, Nat.reduceMul, Nat.reduceSub, Int.reduceLT, Int.reduceLE, Int.reduceEq, Int.reduceToNat, Int.reduceAdd, Int.reduceSub, Int.reduceMul, Int.reduceNeg, Int.cast_ofNat_Int, false_and, and_false]
  refine I_reader (M := 1) hM ?_
  intro h1 f1 n1 s1 o1
  have o1 : Rd0 h1 201 := o1
  have n1 : hN h1 = 11 := n1
  have K1 : hK h1 200 = (11, 0) := (f1.K (by rw [hM]; decide) id).trans hK0
  have V1 : VR h1 200 _ := hV.f f1 (by rw [hM]; decide)
  have m1 : hN (wR h1 200 0 201) = 11 := by rw [hN_wR, n1]
  have q1 : hK (wR h1 200 0 201) 200 = (11, 0) := by rw [hK_wR, K1]
  have v1 := V1.w 0 201
  simp only [psh_none, rX11_init_12, rX11_init_15, rX11_init_16, rX11_init_19, rX11_init_20, q1, m1, K1, n1, o1.1, hN_wR, hK_wR, elC, Int.toNat_natCast, Int.natCast_nonneg, true_and, and_true, and_self, if_true, if_false, or_true, true_or, or_false, false_or, ne_eq, not_true_eq_false, not_false_eq_true, Nat.reduceLeDiff, Nat.reduceEqDiff, Nat.reduceLT, Nat.reduceAdd, Nat.reduceMul, Nat.reduceSub, Int.reduceLT, Int.reduceLE, Int.reduceEq, Int.reduceToNat, Int.reduceAdd, Int.reduceSub, Int.reduceMul, Int.reduceNeg, Int.cast_ofNat_Int, false_and, and_false]
  refine I_diver (M := 11) m1 ?_
  intro h2 f2 n2 s2 o2
  have o2 : Di0 h2 211 := o2
  have n2 : hN h2 = 14 := n2
  have K2 : hK h2 200 = (11, 0) := (f2.K (by rw [m1]; decide) id).trans q1
  have V2 : VR h2 200 _ := v1.f f2 (by rw [m1]; decide)
  have m2 : hN (wR h2 200 1 211) = 14 := by rw [hN_wR, n2]
  have q2 : hK (wR h2 200 1 211) 200 = (11, 0) := by rw [hK_wR, K2]
  have v2 := V2.w 1 211
  simp only [psh_none, rX11_init_23, rX11_init_26, rX11_init_27, rX11_init_30, rX11_init_31, q2, m2, K2, n2, o2.1, hN_wR, hK_wR, elC, Int.toNat_natCast, Int.natCast_nonneg, true_and, and_true, and_self, if_true, if_false, or_true, true_or, or_false, false_or, ne_eq, not_true_eq_false, not_false_eq_true, Nat.reduceLeDiff, Nat.reduceEqDiff, Nat.reduceLT, Nat.reduceAdd, Nat.reduceMul, Nat.reduceSub, Int.reduceLT, Int.reduceLE, Int.reduceEq, Int.reduceToNat, Int.reduceAdd, Int.reduceSub, Int.reduceMul, Int.reduceNeg, Int.cast_ofNat_Int, false_and, and_false]
  refine I_stand (M := 14) m2 ?_
  intro h3 f3 n3 s3 o3
  have o3 : St0 h3 214 := o3
  have n3 : hN h3 = 17 := n3
  have K3 : hK h3 200 = (11, 0) := (f3.K (by rw [m2]; decide) id).trans q2
  have V3 : VR h3 200 _ := v2.f f3 (by rw [m2]; decide)
  have m3 : hN (wR h3 200 2 214) = 17 := by rw [hN_wR, n3]
  have q3 : hK (wR h3 200 2 214) 200 = (11, 0) := by rw [hK_wR, K3]
  have v3 := V3.w 2 214
  simp only [psh_none, rX11_init_34, rX11_init_37, rX11_init_38, rX11_init_41, rX11_init_42, q3, m3, K3, n3, o3.1, hN_wR, hK_wR, elC, Int.toNat_natCast, Int.natCast_nonneg, true_and, and_true, and_self, if_true, if_false, or_true, true_or, or_false, false_or, ne_eq, not_true_eq_false, not_false_eq_true, Nat.reduceLeDiff, Nat.reduceEqDiff, Nat.reduceLT, Nat.reduceAdd, Nat.reduceMul, Nat.reduceSub, Int.reduceLT, Int.reduceLE, Int.reduceEq, Int.reduceToNat, Int.reduceAdd, Int.reduceSub, Int.reduceMul, Int.reduceNeg, Int.cast_ofNat_Int, false_and, and_false]
  refine I_stand (M := 17) m3 ?_
  intro h4 f4 n4 s4 o4
  have o4 : St0 h4 217 := o4
  have n4 : hN h4 = 20 := n4
  have K4 : hK h4 200 = (11, 0) := (f4.K (by rw [m3]; decide) id).trans q3
  have V4 : VR h4 200 _ := v3.f f4 (by rw [m3]; decide)
  have m4 : hN (wR h4 200 3 217) = 20 := by rw [hN_wR, n4]
  have q4 : hK (wR h4 200 3 217) 200 = (11, 0) := by rw [hK_wR, K4]
  have v4 := V4.w 3 217
  simp only [psh_none, rX11_init_45, rX11_init_48, rX11_init_49, rX11_init_52, rX11_init_53, q4, m4, K4, n4, o4.1, hN_wR, hK_wR, elC, Int.toNat_natCast, Int.natCast_nonneg, true_and, and_true, and_self, if_true, if_false, or_true, true_or, or_false, false_or, ne_eq, not_true_eq_false, not_false_eq_true, Nat.reduceLeDiff, Nat.reduceEqDiff, Nat.reduceLT, Nat.reduceAdd, Nat.reduceMul, Nat.reduceSub, Int.reduceLT, Int.reduceLE, Int.reduceEq, Int.reduceToNat, Int.reduceAdd, Int.reduceSub, Int.reduceMul, Int.reduceNeg, Int.cast_ofNat_Int, false_and, and_false]
  refine I_past m4 ?_
  intro h5 f5 n5 s5 p5
  have o5 : PaF h5 := p5.2
  have K5 : hK h5 200 = (11, 0) := (f5.K (by rw [m4]; decide) id).trans q4
  have V5 : VR h5 200 _ := v4.f f5 (by rw [m4]; decide)
  have m5 : hN (wR h5 200 4 220) = 55 := by rw [hN_wR, n5]
  have q5 : hK (wR h5 200 4 220) 200 = (11, 0) := by rw [hK_wR, K5]
  have v5 := V5.w 4 220
  simp only [psh_none, rX11_init_56, rX11_init_59, rX11_init_60, rX11_init_63, rX11_init_64, q5, m5, K5, n5, hN_wR, hK_wR, elC, Int.toNat_natCast, Int.natCast_nonneg, true_and, and_true, and_self, if_true, if_false, or_true, true_or, or_false, false_or, ne_eq, not_true_eq_false, not_false_eq_true, Nat.reduceLeDiff, Nat.reduceEqDiff, Nat.reduceLT, Nat.reduceAdd, Nat.reduceMul, Nat.reduceSub, Int.reduceLT, Int.reduceLE, Int.reduceEq, Int.reduceToNat, Int.reduceAdd, Int.reduceSub, Int.reduceMul, Int.reduceNeg, Int.cast_ofNat_Int, false_and, and_false]
  refine I_pool (M := 55) m5 ?_
  intro h6 f6 n6 s6 o6
  have o6 : Po0 h6 255 := o6
  have n6 : hN h6 = 62 := n6
  have K6 : hK h6 200 = (11, 0) := (f6.K (by rw [m5]; decide) id).trans q5
  have V6 : VR h6 200 _ := v5.f f6 (by rw [m5]; decide)
  have m6 : hN (wR h6 200 7 255) = 62 := by rw [hN_wR, n6]
  have q6 : hK (wR h6 200 7 255) 200 = (11, 0) := by rw [hK_wR, K6]
  have v6 := V6.w 7 255
  have na : hN (nw (wR h6 200 7 255) 26 4 4) = 63 := by rw [hN_nw, m6]
  have ka : hK (nw (wR h6 200 7 255) 26 4 4) 200 = (11, 0) := (((Fa.refl (fun _ => False) _).nw 26 4 4).K (by rw [m6]; decide) id).trans q6
  have va := (v6).n (by rw [m6]; decide) 26 4 4
  have k262 : hK (nw (wR h6 200 7 255) 26 4 4) 262 = (26, 4) := by rw [hK_nw, m6]; rfl
  have v262 : VR (nw (wR h6 200 7 255) 26 4 4) 262 (fun _ => 0) := by intro q; rw [hR_nw, m6]; rfl
  simp only [psh_none, rX11_init_67, rX11_init_70, rX11_init_71, rX11_init_72, rX11_init_75, rX11_init_76, rX11_init_77, rX11_init_80, rX11_init_81, m6, ka, na, K6, n6, k262, o6.1, hN_wR, hK_wR, elC, Int.toNat_natCast, Int.natCast_nonneg, true_and, and_true, and_self, if_true, if_false, or_true, true_or, or_false, false_or, ne_eq, not_true_eq_false, not_false_eq_true, Nat.reduceLeDiff, Nat.reduceEqDiff, Nat.reduceLT, Nat.reduceAdd, Nat.reduceMul, Nat.reduceSub, Int.reduceLT, Int.reduceLE, Int.reduceEq, Int.reduceToNat, Int.reduceAdd, Int.reduceSub, Int.reduceMul, Int.reduceNeg, Int.cast_ofNat_Int, false_and, and_false]
  refine I_tray (M := 63) na ?_
  intro h7 f7 n7 s7 o7
  have o7 : Tr0 h7 263 := o7
  have n7 : hN h7 = 65 := n7
  have K7 : hK h7 200 = (11, 0) := (f7.K (by rw [na]; decide) id).trans ka
  have V7 : VR h7 200 _ := va.f f7 (by rw [na]; decide)
  have W7 : VR h7 262 _ := v262.f f7 (by rw [na]; decide)
  have L7 : hK h7 262 = (26, 4) := (f7.K (by rw [na]; decide) id).trans k262
  have m7 : hN (wR h7 262 0 263) = 65 := by rw [hN_wR, n7]
  have q7 : hK (wR h7 262 0 263) 200 = (11, 0) := by rw [hK_wR, K7]
  have v7 := V7.o (b := 262) (by decide) 0 263
  have w7 := W7.w 0 263
  have l7 : hK (wR h7 262 0 263) 262 = (26, 4) := by rw [hK_wR, L7]
  simp only [psh_none, rX11_init_84, rX11_init_85, rX11_init_86, rX11_init_87, rX11_init_90, rX11_init_91, q7, m7, K7, n7, l7, o7.1, L7, hN_wR, hK_wR, elC, Int.toNat_natCast, Int.natCast_nonneg, true_and, and_true, and_self, if_true, if_false, or_true, true_or, or_false, false_or, ne_eq, not_true_eq_false, not_false_eq_true, Nat.reduceLeDiff, Nat.reduceEqDiff, Nat.reduceLT, Nat.reduceAdd, Nat.reduceMul, Nat.reduceSub, Int.reduceLT, Int.reduceLE, Int.reduceEq, Int.reduceToNat, Int.reduceAdd, Int.reduceSub, Int.reduceMul, Int.reduceNeg, Int.cast_ofNat_Int, false_and, and_false]
  refine I_tray (M := 65) m7 ?_
  intro h8 f8 n8 s8 o8
  have o8 : Tr0 h8 265 := o8
  have n8 : hN h8 = 67 := n8
  have K8 : hK h8 200 = (11, 0) := (f8.K (by rw [m7]; decide) id).trans q7
  have V8 : VR h8 200 _ := v7.f f8 (by rw [m7]; decide)
  have W8 : VR h8 262 _ := w7.f f8 (by rw [m7]; decide)
  have L8 : hK h8 262 = (26, 4) := (f8.K (by rw [m7]; decide) id).trans l7
  have m8 : hN (wR h8 262 1 265) = 67 := by rw [hN_wR, n8]
  have q8 : hK (wR h8 262 1 265) 200 = (11, 0) := by rw [hK_wR, K8]
  have v8 := V8.o (b := 262) (by decide) 1 265
  have w8 := W8.w 1 265
  have l8 : hK (wR h8 262 1 265) 262 = (26, 4) := by rw [hK_wR, L8]
  simp only [psh_none, rX11_init_94, rX11_init_95, rX11_init_96, rX11_init_97, rX11_init_100, rX11_init_101, q8, m8, K8, n8, l8, o8.1, L8, hN_wR, hK_wR, elC, Int.toNat_natCast, Int.natCast_nonneg, true_and, and_true, and_self, if_true, if_false, or_true, true_or, or_false, false_or, ne_eq, not_true_eq_false, not_false_eq_true, Nat.reduceLeDiff, Nat.reduceEqDiff, Nat.reduceLT, Nat.reduceAdd, Nat.reduceMul, Nat.reduceSub, Int.reduceLT, Int.reduceLE, Int.reduceEq, Int.reduceToNat, Int.reduceAdd, Int.reduceSub, Int.reduceMul, Int.reduceNeg, Int.cast_ofNat_Int, false_and, and_false]
  refine I_tray (M := 67) m8 ?_
  intro h9 f9 n9 s9 o9
  have o9 : Tr0 h9 267 := o9
  have n9 : hN h9 = 69 := n9
  have K9 : hK h9 200 = (11, 0) := (f9.K (by rw [m8]; decide) id).trans q8
  have V9 : VR h9 200 _ := v8.f f9 (by rw [m8]; decide)
  have W9 : VR h9 262 _ := w8.f f9 (by rw [m8]; decide)
  have L9 : hK h9 262 = (26, 4) := (f9.K (by rw [m8]; decide) id).trans l8
  have m9 : hN (wR h9 262 2 267) = 69 := by rw [hN_wR, n9]
  have q9 : hK (wR h9 262 2 267) 200 = (11, 0) := by rw [hK_wR, K9]
  have v9 := V9.o (b := 262) (by decide) 2 267
  have w9 := W9.w 2 267
  have l9 : hK (wR h9 262 2 267) 262 = (26, 4) := by rw [hK_wR, L9]
  simp only [psh_none, rX11_init_104, rX11_init_105, rX11_init_106, rX11_init_107, rX11_init_110, rX11_init_111, q9, m9, K9, n9, l9, o9.1, L9, hN_wR, hK_wR, elC, Int.toNat_natCast, Int.natCast_nonneg, true_and, and_true, and_self, if_true, if_false, or_true, true_or, or_false, false_or, ne_eq, not_true_eq_false, not_false_eq_true, Nat.reduceLeDiff, Nat.reduceEqDiff, Nat.reduceLT, Nat.reduceAdd, Nat.reduceMul, Nat.reduceSub, Int.reduceLT, Int.reduceLE, Int.reduceEq, Int.reduceToNat, Int.reduceAdd, Int.reduceSub, Int.reduceMul, Int.reduceNeg, Int.cast_ofNat_Int, false_and, and_false]
  refine I_tray (M := 69) m9 ?_
  intro h10 f10 n10 s10 o10
  have o10 : Tr0 h10 269 := o10
  have n10 : hN h10 = 71 := n10
  have K10 : hK h10 200 = (11, 0) := (f10.K (by rw [m9]; decide) id).trans q9
  have V10 : VR h10 200 _ := v9.f f10 (by rw [m9]; decide)
  have W10 : VR h10 262 _ := w9.f f10 (by rw [m9]; decide)
  have L10 : hK h10 262 = (26, 4) := (f10.K (by rw [m9]; decide) id).trans l9
  have m10 : hN (wR h10 262 3 269) = 71 := by rw [hN_wR, n10]
  have q10 : hK (wR h10 262 3 269) 200 = (11, 0) := by rw [hK_wR, K10]
  have v10 := V10.o (b := 262) (by decide) 3 269
  have w10 := W10.w 3 269
  have l10 : hK (wR h10 262 3 269) 262 = (26, 4) := by rw [hK_wR, L10]
  have mm : hN (wR (wR h10 262 3 269) 200 5 262) = 71 := by rw [hN_wR, m10]
  have qq : hK (wR (wR h10 262 3 269) 200 5 262) 200 = (11, 0) := by rw [hK_wR, q10]
  have vv := v10.w 5 262
  have ww := w10.o (b := 200) (by decide) 5 262
  have ll : hK (wR (wR h10 262 3 269) 200 5 262) 262 = (26, 4) := by rw [hK_wR, l10]
  have nb : hN (nw (wR (wR h10 262 3 269) 200 5 262) 24 2 2) = 72 := by rw [hN_nw, mm]
  have kb : hK (nw (wR (wR h10 262 3 269) 200 5 262) 24 2 2) 200 = (11, 0) := (((Fa.refl (fun _ => False) _).nw 24 2 2).K (by rw [mm]; decide) id).trans qq
  have vb := (vv).n (by rw [mm]; decide) 24 2 2
  have k271 : hK (nw (wR (wR h10 262 3 269) 200 5 262) 24 2 2) 271 = (24, 2) := by rw [hK_nw, mm]; rfl
  have v271 : VR (nw (wR (wR h10 262 3 269) 200 5 262) 24 2 2) 271 (fun _ => 0) := by intro q; rw [hR_nw, mm]; rfl
  have k262b : hK (nw (wR (wR h10 262 3 269) 200 5 262) 24 2 2) 262 = (26, 4) := (((Fa.refl (fun _ => False) _).nw 24 2 2).K (by rw [mm]; decide) id).trans ll
  have v262b := (ww).n (by rw [mm]; decide) 24 2 2
  simp only [psh_none, rX11_init_114, rX11_init_115, rX11_init_118, rX11_init_119, rX11_init_120, rX11_init_123, rX11_init_124, rX11_init_125, rX11_init_128, rX11_init_129, mm, hR_nw, hR_wR, hN_nw, hK_nw, kb, nb, K10, n10, k262b, k271, o10.1, L10, hN_wR, hK_wR, elC, Int.toNat_natCast, Int.natCast_nonneg, true_and, and_true, and_self, if_true, if_false, or_true, true_or, or_false, false_or, ne_eq, not_true_eq_false, not_false_eq_true, Nat.reduceLeDiff, Nat.reduceEqDiff, Nat.reduceLT, Nat.reduceAdd, Nat.reduceMul, Nat.reduceSub, Int.reduceLT, Int.reduceLE, Int.reduceEq, Int.reduceToNat, Int.reduceAdd, Int.reduceSub, Int.reduceMul, Int.reduceNeg, Int.cast_ofNat_Int, false_and, and_false]
  refine I_image (M := 72) nb ?_
  intro h11 f11 n11 s11 o11
  have o11 : Im0 h11 272 := o11
  have n11 : hN h11 = 83 := n11
  have K11 : hK h11 200 = (11, 0) := (f11.K (by rw [nb]; decide) id).trans kb
  have V11 : VR h11 200 _ := vb.f f11 (by rw [nb]; decide)
  have W11 : VR h11 262 _ := v262b.f f11 (by rw [nb]; decide)
  have L11 : hK h11 262 = (26, 4) := (f11.K (by rw [nb]; decide) id).trans k262b
  have X11 : VR h11 271 _ := v271.f f11 (by rw [nb]; decide)
  have J11 : hK h11 271 = (24, 2) := (f11.K (by rw [nb]; decide) id).trans k271
  have m11 : hN (wR h11 271 0 272) = 83 := by rw [hN_wR, n11]
  have q11 : hK (wR h11 271 0 272) 200 = (11, 0) := by rw [hK_wR, K11]
  have v11 := V11.o (b := 271) (by decide) 0 272
  have w11 := W11.o (b := 271) (by decide) 0 272
  have l11 : hK (wR h11 271 0 272) 262 = (26, 4) := by rw [hK_wR, L11]
  have x11 := X11.w 0 272
  have j11 : hK (wR h11 271 0 272) 271 = (24, 2) := by rw [hK_wR, J11]
  simp only [psh_none, rX11_init_132, rX11_init_133, rX11_init_134, rX11_init_135, rX11_init_138, rX11_init_139, hR_nw, hR_wR, hN_nw, hK_nw, q11, m11, K11, n11, l11, j11, o11.1, L11, J11, hN_wR, hK_wR, elC, Int.toNat_natCast, Int.natCast_nonneg, true_and, and_true, and_self, if_true, if_false, or_true, true_or, or_false, false_or, ne_eq, not_true_eq_false, not_false_eq_true, Nat.reduceLeDiff, Nat.reduceEqDiff, Nat.reduceLT, Nat.reduceAdd, Nat.reduceMul, Nat.reduceSub, Int.reduceLT, Int.reduceLE, Int.reduceEq, Int.reduceToNat, Int.reduceAdd, Int.reduceSub, Int.reduceMul, Int.reduceNeg, Int.cast_ofNat_Int, false_and, and_false]
  refine I_image (M := 83) m11 ?_
  intro h12 f12 n12 s12 o12
  have o12 : Im0 h12 283 := o12
  have n12 : hN h12 = 94 := n12
  have K12 : hK h12 200 = (11, 0) := (f12.K (by rw [m11]; decide) id).trans q11
  have V12 : VR h12 200 _ := v11.f f12 (by rw [m11]; decide)
  have W12 : VR h12 262 _ := w11.f f12 (by rw [m11]; decide)
  have L12 : hK h12 262 = (26, 4) := (f12.K (by rw [m11]; decide) id).trans l11
  have X12 : VR h12 271 _ := x11.f f12 (by rw [m11]; decide)
  have J12 : hK h12 271 = (24, 2) := (f12.K (by rw [m11]; decide) id).trans j11
  have m12 : hN (wR h12 271 1 283) = 94 := by rw [hN_wR, n12]
  have q12 : hK (wR h12 271 1 283) 200 = (11, 0) := by rw [hK_wR, K12]
  have v12 := V12.o (b := 271) (by decide) 1 283
  have w12 := W12.o (b := 271) (by decide) 1 283
  have l12 : hK (wR h12 271 1 283) 262 = (26, 4) := by rw [hK_wR, L12]
  have x12 := X12.w 1 283
  have j12 : hK (wR h12 271 1 283) 271 = (24, 2) := by rw [hK_wR, J12]
  simp only [psh_none, rX11_init_142, rX11_init_143, rX11_init_146, K12, L12, J12, o12.1, hK_wR, elC, Int.toNat_natCast, Int.natCast_nonneg, true_and, and_true, and_self, if_true, if_false, or_true, true_or, or_false, false_or, ne_eq, not_true_eq_false, not_false_eq_true, Nat.reduceLeDiff, Nat.reduceEqDiff, Nat.reduceLT, Nat.reduceAdd, Nat.reduceMul, Nat.reduceSub, Int.reduceLT, Int.reduceLE, Int.reduceEq, Int.reduceToNat, Int.reduceAdd, Int.reduceSub, Int.reduceMul, Int.reduceNeg, Int.cast_ofNat_Int, false_and, and_false]
  have e28 := Fa.refl cS (wR (wR h12 271 1 283) 200 6 271)
  have e27 := Fa.trans (f200 (wR h12 271 1 283) 6 271) e28
  have e26 := Fa.trans (f271 h12 1 283) e27
  have e25 := Fa.trans (fN f12) e26
  have e24 := Fa.trans (f271 h11 0 272) e25
  have e23 := Fa.trans (fN f11) e24
  have e22 := Fa.trans ((Fa.refl cS (wR (wR h10 262 3 269) 200 5 262)).nw 24 2 2) e23
  have e21 := Fa.trans (f200 (wR h10 262 3 269) 5 262) e22
  have e20 := Fa.trans (f262 h10 3 269) e21
  have e19 := Fa.trans (fN f10) e20
  have e18 := Fa.trans (f262 h9 2 267) e19
  have e17 := Fa.trans (fN f9) e18
  have e16 := Fa.trans (f262 h8 1 265) e17
  have e15 := Fa.trans (fN f8) e16
  have e14 := Fa.trans (f262 h7 0 263) e15
  have e13 := Fa.trans (fN f7) e14
  have e12 := Fa.trans ((Fa.refl cS (wR h6 200 7 255)).nw 26 4 4) e13
  have e11 := Fa.trans (f200 h6 7 255) e12
  have e10 := Fa.trans (fN f6) e11
  have e9 := Fa.trans (f200 h5 4 220) e10
  have e8 := Fa.trans (fN f5) e9
  have e7 := Fa.trans (f200 h4 3 217) e8
  have e6 := Fa.trans (fN f4) e7
  have e5 := Fa.trans (f200 h3 2 214) e6
  have e4 := Fa.trans (fN f3) e5
  have e3 := Fa.trans (f200 h2 1 211) e4
  have e2 := Fa.trans (fN f2) e3
  have e1 := Fa.trans (f200 h1 0 201) e2
  have e0 := Fa.trans (fN f1) e1
  refine k _ ⟨?_, ?_, e0, ?_, ?_, ?_, v12.w 6 271, w12.o (b := 200) (by decide) 6 271, x12.o (b := 200) (by decide) 6 271, o1.fa e1 (by rw [n1]; decide) (cS_n (m := 2) (by decide)), o2.fa e3 (by rw [n2]; decide) (cS_n (m := 2) (by decide)), o3.fa e5 (by rw [n3]; decide) (cS_n (m := 2) (by decide) 0 (by decide)) (cS_n (m := 2) (by decide) 1 (by decide)) (cS_n (m := 2) (by decide) 2 (by decide)), o4.fa e7 (by rw [n4]; decide) (cS_n (m := 2) (by decide) 0 (by decide)) (cS_n (m := 2) (by decide) 1 (by decide)) (cS_n (m := 2) (by decide) 2 (by decide)), o5.fa e9 (by rw [n5]; decide) (fun a h1 h2 q => by unfold cS at q; omega), o6.fa e11 (by rw [n6]; decide) (cS_n (m := 6) (by decide)), o7.fa e14 (by rw [n7]; decide) (cS_n (m := 1) (by decide)), o8.fa e16 (by rw [n8]; decide) (cS_n (m := 1) (by decide)), o9.fa e18 (by rw [n9]; decide) (cS_n (m := 1) (by decide)), o10.fa e20 (by rw [n10]; decide) (cS_n (m := 1) (by decide)), o11.fa e24 (by rw [n11]; decide) (cS_n (m := 3) (by decide)), o12.fa e26 (by rw [n12]; decide) (cS_n (m := 3) (by decide))⟩
  · rw [hN_wR, m12]
  · simp only [hS_wR, hS_nw] at *; omega
  · rw [hK_wR, q12]
  · rw [hK_wR, l12]
  · rw [hK_wR, j12]
