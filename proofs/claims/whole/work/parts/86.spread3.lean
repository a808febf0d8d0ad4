/-! all dives are spread -/
theorem lcm_nz (a : Int) : (lcm a 0 = 0) = (a = 0) := lcm_zero a 0
/-- the same row of seen numbers and weights -/
def TK (h h' : Hp) (ta : Nat) : Prop := ∀ k, hI h' (ta + 1) k = hI h (ta + 1) k ∧ hI h' (ta + 2) k = hI h (ta + 2) k
theorem TK.of {h h' : Hp} {ta a : Nat} (r : rwA ta a) (f : Fp (fun b _ => b = a) h h') : TK h h' ta := by
  obtain ⟨n0, n1, n2⟩ := rw_ne r
  exact fun k => ⟨f.I (fun c => n1 c.symm), f.I (fun c => n2 c.symm)⟩
theorem TK.trans {h h1 h2 : Hp} {ta : Nat} (a : TK h h1 ta) (b : TK h1 h2 ta) : TK h h2 ta := fun k => ⟨(b k).1.trans (a k).1, (b k).2.trans (a k).2⟩
set_option maxHeartbeats 1000000 in
theorem sp_inner {d : Nat} {Q : Option PV → Hp → Prop} {h0 h : Hp} {A : Nat → Int} {f : Nat → Nat → Nat} {L : List Nat} {ta se G : Nat} (x : TW h0 h A f (2 ^ G - 1) L ta se) (hG : A 2 = (G : Int)) {i : Nat} {z : Int} {W : Nat → Nat} {D0 : Nat → Nat} {x1 : Option PV} (hi : i < 12) (ez : hI h (ta + 2) i = z) (ew : ∀ g, g < G → hI h (ta + 1) g = (W g : Int)) (et : TV h (hR h ta 5) L D0) (bd : ∀ p, p < L.length → D0 (L.getD p 0) < 9223372036854775808)
    (k : ∀ h', Fp (fun b _ => b = hR h ta 6) h h' → TV h' (hR h ta 6) L (spL f W (okZ z) L G D0 L.length) → WP (d + 4) mX9_spread 82 [some (.inr (.inr ta)), x1, some (.inl (i : Int)), some (.inl (L.length : Int))] [] h' Q) :
    ∀ n p (e : Hp), p + n = L.length → Fp (fun b _ => b = hR h ta 6) h e → TV e (hR h ta 6) L (spL f W (okZ z) L G D0 p) → WP (d + 4) mX9_spread 48 [some (.inr (.inr ta)), x1, some (.inl (i : Int)), some (.inl (p : Int))] [] e Q := by
  have ok := x.2.2.2.2.1.2.2.2.1
  have lk := x.2.2.2.2.1.le
  obtain ⟨r5, r6, r56, rk⟩ := x.2.2.2.1.rw
  obtain ⟨n0, n1, n2⟩ := rw_ne r6
  intro n
  induction n with
  | zero =>
    intro p e hp fe te
    have xe := x.fp fe (fun b _ q => q ▸ rw_ta r6)
    obtain ⟨K0, R0, _⟩ := xe.2.2.2.1.ks
    have KS := xe.2.2.2.2.1.2.1.1
    have len := xe.2.2.2.2.1.2.2.1
    have ep : p = L.length := by omega
    subst ep
    rw [rX9_spread_48]
    simp only [rX9_spread_49, rX9_spread_50, rX9_spread_53, rX9_spread_56, K0, R0, KS, len, Int.lt_irrefl, Int.toNat_natCast, Int.natCast_nonneg, true_and, and_true, and_self, if_true, if_false, or_true, true_or, or_false, false_or, ne_eq, not_true_eq_false, not_false_eq_true, Nat.reduceLeDiff, Nat.reduceEqDiff, Nat.reduceLT, Nat.reduceAdd, Nat.reduceMul, Nat.reduceSub, Int.reduceLT, Int.reduceLE, Int.reduceEq, Int.reduceToNat, Int.reduceAdd, Int.reduceSub, Int.reduceMul, Int.reduceNeg, Int.cast_ofNat_Int, false_and, and_false]
    exact k e fe te
  | succ n ih =>
    intro p e hp fe te
    have pl : p < L.length := by omega
    have hn : p + 1 + n = L.length := by omega
    have xe := x.fp fe (fun b _ q => q ▸ rw_ta r6)
    obtain ⟨K0, R0, R1, R2, R3, R4, K1, K2, _⟩ := xe.2.2.2.1.ks
    have KS := xe.2.2.2.2.1.2.1.1
    have len := xe.2.2.2.2.1.2.2.1
    obtain ⟨p1, p2, p3, p4⟩ := i_16 lk pl
    have R5 : hR e ta 5 = hR h ta 5 := fe.R ta 5
    have R6 : hR e ta 6 = hR h ta 6 := fe.R ta 6
    have K5 : hK e (hR h ta 5) = (22, 1600) := by rw [fe.K]; exact rk _ r5
    have et' : hJ e (hR h ta 5) p = w64 (D0 (L.getD p 0) : Int) := by rw [fe.J (fun c => r56 c)]; exact et p pl
    have wn := w64_nat (bd p pl)
    have et2 : hJ e (hR h ta 5) p = (D0 (L.getD p 0) : Int) := by rw [et', wn]
    rw [rX9_spread_48]
    simp only [rX9_spread_49, rX9_spread_50, rX9_spread_53, rX9_spread_56, rX9_spread_59, rX9_spread_60, rX9_spread_63, rX9_spread_64, rX9_spread_65, rX9_spread_66, rX9_spread_67, K0, R0, R5, K5, KS, len, p1, p2, et2, lcm_nz, Int.toNat_natCast, Int.natCast_nonneg, true_and, and_true, and_self, if_true, if_false, or_true, true_or, or_false, false_or, ne_eq, not_true_eq_false, not_false_eq_true, Nat.reduceLeDiff, Nat.reduceEqDiff, Nat.reduceLT, Nat.reduceAdd, Nat.reduceMul, Nat.reduceSub, Int.reduceLT, Int.reduceLE, Int.reduceEq, Int.reduceToNat, Int.reduceAdd, Int.reduceSub, Int.reduceMul, Int.reduceNeg, Int.cast_ofNat_Int, false_and, and_false]
    by_cases hz : (D0 (L.getD p 0) : Int) = 0
    · rw [if_pos hz]
      have hz' : D0 (L.getD p 0) = 0 := Int.ofNat_eq_zero.1 hz
      simp only [rX9_spread_76, rX9_spread_79, p3]
      refine ih (p + 1) e hn fe ?_
      show TV e (hR h ta 6) L (spG f W (okZ z) (L.getD p 0) (D0 (L.getD p 0)) G (spL f W (okZ z) L G D0 p))
      rw [hz', spG_0]
      exact te
    · rw [if_neg hz]
      simp only [rX9_spread_70, rX9_spread_71, rX9_spread_72, rX9_spread_73, K0, Int.toNat_natCast, Int.natCast_nonneg, true_and, and_true, and_self, if_true, if_false, or_true, true_or, or_false, false_or, ne_eq, not_true_eq_false, not_false_eq_true, Nat.reduceLeDiff, Nat.reduceEqDiff, Nat.reduceLT, Nat.reduceAdd, Nat.reduceMul, Nat.reduceSub, Int.reduceLT, Int.reduceLE, Int.reduceEq, Int.reduceToNat, Int.reduceAdd, Int.reduceSub, Int.reduceMul, Int.reduceNeg, Int.cast_ofNat_Int, false_and, and_false]
      refine S_spreadFrom (z := z) (W := W) xe hG pl hi (by rw [fe.I (fun c => n2 c.symm)]; exact ez) (fun g hg => by rw [fe.I (fun c => n1 c.symm)]; exact ew g hg) (by rw [R5]; exact et') (by rw [R6]; exact te) ?_
      intro e2 f2 t2
      rw [R6] at f2 t2
      simp only [psh_none, rX9_spread_76, rX9_spread_79, p3]
      exact ih (p + 1) e2 hn (fe.trans f2) t2
theorem TlOk.swap {h : Hp} {ta se : Nat} (x : TlOk h ta se) (h3 : 314 ≤ ta) : TlOk (wR (wR h ta 5 (hR h ta 6)) ta 6 (hR h ta 5)) ta se ∧ hR (wR (wR h ta 5 (hR h ta 6)) ta 6 (hR h ta 5)) ta 5 = hR h ta 6 ∧ hR (wR (wR h ta 5 (hR h ta 6)) ta 6 (hR h ta 5)) ta 6 = hR h ta 5 := by
  have e : ∀ k, k ≠ 5 → k ≠ 6 → hR (wR (wR h ta 5 (hR h ta 6)) ta 6 (hR h ta 5)) ta k = hR h ta k := fun k h5 h6 => by rw [hR_wR, if_neg (fun q => h6 q.2), hR_wR, if_neg (fun q => h5 q.2)]
  have e5 : hR (wR (wR h ta 5 (hR h ta 6)) ta 6 (hR h ta 5)) ta 5 = hR h ta 6 := by rw [hR_wR, if_neg (by omega), hR_wR, if_pos ⟨rfl, rfl⟩]
  have e6 : hR (wR (wR h ta 5 (hR h ta 6)) ta 6 (hR h ta 5)) ta 6 = hR h ta 5 := by rw [hR_wR, if_pos ⟨rfl, rfl⟩]
  refine ⟨?_, e5, e6⟩
  obtain ⟨y0, y1, y2, y3, y4, y5, y6, y7, y8, y9, y10, y11, y12⟩ := x
  refine ⟨y0, by rw [e 0 (by decide) (by decide)]; exact y1, by rw [e 1 (by decide) (by decide)]; exact y2, by rw [e 2 (by decide) (by decide)]; exact y3, by rw [e 3 (by decide) (by decide)]; exact y4, by rw [e 4 (by decide) (by decide)]; exact y5, y6, y7, y8, y9, y10, y11, ?_⟩
  rw [e5, e6]
  exact y12.elim (fun q => Or.inr ⟨q.2, q.1⟩) (fun q => Or.inl ⟨q.2, q.1⟩)
/-- what the tally counted -/
def TC (h : Hp) (ta : Nat) (L : List Nat) (D : Nat → Nat) : Prop := TV h (hR h ta 5) L D
set_option maxHeartbeats 1000000 in
theorem S_spread {d : Nat} {Q : Option PV → Hp → Prop} {h0 h : Hp} {A : Nat → Int} {f : Nat → Nat → Nat} {L : List Nat} {ta se G N : Nat} (x : TW h0 h A f (2 ^ G - 1) L ta se) (hG : A 2 = (G : Int)) (hN12 : N ≤ 12) {z : Nat → Int} {W : Nat → Nat} (ez : ∀ i, i < 12 → hI h (ta + 2) i = z i) (ew : ∀ g, g < G → hI h (ta + 1) g = (W g : Int)) (hf : ∀ g p, g < G → p < L.length → f g (L.getD p 0) ∈ L) (bd : ∀ n, n ≤ N → smW W G ^ n < 9223372036854775808)
    (k : ∀ h', TW h0 h' A f (2 ^ G - 1) L ta se → TC h' ta L (spN f W (fun i => okZ (z i)) L G N) → Q none h') :
    WP (d + 5) mX9_spread 0 [some (.inr (.inr ta)), some (.inl (N : Int)), none, none] [] h Q := by
  have ok := x.2.2.2.2.1.2.2.2.1
  have lk := x.2.2.2.2.1.le
  obtain ⟨K0, R0, R1, R2, R3, R4, K1, K2, _⟩ := x.2.2.2.1.ks
  obtain ⟨r5, r6, r56, rk⟩ := x.2.2.2.1.rw
  have l0 : (0 : Int) < (L.length : Int) := Int.ofNat_lt.2 ok.2.2
  have s5 := ge_ta x.2.2.2.2.2.2.2.1 r5
  simp only [rX9_spread_0, rX9_spread_1, rX9_spread_2, rX9_spread_5, K0, Int.toNat_natCast, Int.natCast_nonneg, true_and, and_true, and_self, if_true, if_false, or_true, true_or, or_false, false_or, ne_eq, not_true_eq_false, not_false_eq_true, Nat.reduceLeDiff, Nat.reduceEqDiff, Nat.reduceLT, Nat.reduceAdd, Nat.reduceMul, Nat.reduceSub, Int.reduceLT, Int.reduceLE, Int.reduceEq, Int.reduceToNat, Int.reduceAdd, Int.reduceSub, Int.reduceMul, Int.reduceNeg, Int.cast_ofNat_Int, false_and, and_false]
  refine S_clear (d := d + 4) x r5 ?_
  intro h1 f1 z1
  have x1 := x.fp f1 (fun b _ q => q ▸ rw_ta r5)
  obtain ⟨K01, R01, _⟩ := x1.2.2.2.1.ks
  have KS1 := x1.2.2.2.2.1.2.1.1
  have len1 := x1.2.2.2.2.1.2.2.1
  have R51 : hR h1 ta 5 = hR h ta 5 := f1.R ta 5
  have K51 : hK h1 (hR h ta 5) = (22, 1600) := by rw [f1.K]; exact rk _ r5
  simp only [psh_none, rX9_spread_8, rX9_spread_9, rX9_spread_12, rX9_spread_15, rX9_spread_18, rX9_spread_19, rX9_spread_22, rX9_spread_23, rX9_spread_24, rX9_spread_25, rX9_spread_26, K01, R01, KS1, len1, l0, R51, K51, s5, Int.toNat_natCast, Int.natCast_nonneg, true_and, and_true, and_self, if_true, if_false, or_true, true_or, or_false, false_or, ne_eq, not_true_eq_false, not_false_eq_true, Nat.reduceLeDiff, Nat.reduceEqDiff, Nat.reduceLT, Nat.reduceAdd, Nat.reduceMul, Nat.reduceSub, Int.reduceLT, Int.reduceLE, Int.reduceEq, Int.reduceToNat, Int.reduceAdd, Int.reduceSub, Int.reduceMul, Int.reduceNeg, Int.cast_ofNat_Int, false_and, and_false]
  have main : ∀ m i (e : Hp) (y3 : Option PV), i + m = N → TW h0 e A f (2 ^ G - 1) L ta se → TK h e ta → TC e ta L (spN f W (fun i => okZ (z i)) L G i) → WP (d + 5) mX9_spread 27 [some (.inr (.inr ta)), some (.inl (N : Int)), some (.inl (i : Int)), y3] [] e Q := by
    intro m
    induction m with
    | zero =>
      intro i e y3 hi xe tk te
      have ei : i = N := by omega
      subst ei
      rw [rX9_spread_27]
      simp only [rX9_spread_28, rX9_spread_29, rX9_spread_106, Int.lt_irrefl, if_false]
      exact k e xe te
    | succ m ih =>
      intro i e y3 hi xe tk te
      have iN : (i : Int) < (N : Int) := by omega
      have i12 : (i : Int) < 12 := by omega
      have i12' : i < 12 := by omega
      have i1 : w32 ((i : Int) + 1) = ((i + 1 : Nat) : Int) := w32_s (by omega)
      have hn : i + 1 + m = N := by omega
      have bi := bd i (by omega)
      obtain ⟨K0e, R0e, _⟩ := xe.2.2.2.1.ks
      obtain ⟨q5, q6, q56, qk⟩ := xe.2.2.2.1.rw
      rw [rX9_spread_27]
      simp only [rX9_spread_28, rX9_spread_29, rX9_spread_32, rX9_spread_33, rX9_spread_35, rX9_spread_38, rX9_spread_39, rX9_spread_40, rX9_spread_43, K0e, iN, i12, Int.toNat_natCast, Int.natCast_nonneg, true_and, and_true, and_self, if_true, if_false, or_true, true_or, or_false, false_or, ne_eq, not_true_eq_false, not_false_eq_true, Nat.reduceLeDiff, Nat.reduceEqDiff, Nat.reduceLT, Nat.reduceAdd, Nat.reduceMul, Nat.reduceSub, Int.reduceLT, Int.reduceLE, Int.reduceEq, Int.reduceToNat, Int.reduceAdd, Int.reduceSub, Int.reduceMul, Int.reduceNeg, Int.cast_ofNat_Int, false_and, and_false]
      refine S_clear (d := d + 4) xe q6 ?_
      intro e1 g1 c1
      have y1 := xe.fp g1 (fun b _ q => q ▸ rw_ta q6)
      have tk1 := tk.trans (TK.of q6 g1)
      have R5e : hR e1 ta 5 = hR e ta 5 := g1.R ta 5
      have R6e : hR e1 ta 6 = hR e ta 6 := g1.R ta 6
      simp only [psh_none, rX9_spread_46, rX9_spread_47]
      refine sp_inner (z := z i) (W := W) (D0 := spN f W (fun i => okZ (z i)) L G i) y1 hG i12' (by rw [(tk1 i).2]; exact ez i i12') (fun g hg => by rw [(tk1 g).1]; exact ew g hg) (fun p hp => by rw [R5e, g1.J (fun c => q56 c)]; exact te p hp) (fun p hp => Nat.lt_of_le_of_lt (spN_le ok hf hp) bi) ?_ L.length 0 e1 (Nat.zero_add _) (Fp.refl _ e1) (fun p hp => by rw [R6e, c1 p hp]; exact w64_0.symm)
      intro e2 g2 t2
      rw [R6e] at g2 t2
      have y2 := y1.fp g2 (fun b _ q => q ▸ rw_ta q6)
      have tk2 := tk1.trans (TK.of q6 g2)
      have t3 := y2.2.2.2.2.2.2.2.1
      obtain ⟨K02, R02, _⟩ := y2.2.2.2.1.ks
      obtain ⟨sw, w5, w6⟩ := y2.2.2.2.1.swap t3
      have ta2 : 200 ≤ ta := Nat.le_trans (by decide) t3
      have fr : Fa (taS ta) e2 (wR (wR e2 ta 5 (hR e2 ta 6)) ta 6 (hR e2 ta 5)) := ((Fa.refl _ e2).wR ⟨Nat.le_refl _, Nat.le_add_right _ _⟩ _ _).wR ⟨Nat.le_refl _, Nat.le_add_right _ _⟩ _ _
      have y3 := y2.fa fr (by rw [hN_wR, hN_wR]) (by rw [hS_wR, hS_wR]) sw
      have n65 : ¬ (6 = 5) := by decide
      simp only [rX9_spread_82, rX9_spread_83, rX9_spread_86, rX9_spread_87, rX9_spread_88, rX9_spread_89, rX9_spread_92, rX9_spread_95, rX9_spread_96, rX9_spread_97, rX9_spread_100, rX9_spread_103, hN_wI, hN_wJ, hN_wR, hS_wI, hS_wJ, hS_wR, hK_wI, hK_wJ, hK_wR, hI_wI, hI_wJ, hI_wR, hJ_wI, hJ_wJ, hJ_wR, hR_wI, hR_wJ, hR_wR, hN_nw, hS_nw, hK_nw, hI_nw, hJ_nw, hR_nw, psh_some, psh_none, K02, i1, ta2, n65, Int.toNat_natCast, Int.natCast_nonneg, true_and, and_true, and_self, if_true, if_false, or_true, true_or, or_false, false_or, ne_eq, not_true_eq_false, not_false_eq_true, Nat.reduceLeDiff, Nat.reduceEqDiff, Nat.reduceLT, Nat.reduceAdd, Nat.reduceMul, Nat.reduceSub, Int.reduceLT, Int.reduceLE, Int.reduceEq, Int.reduceToNat, Int.reduceAdd, Int.reduceSub, Int.reduceMul, Int.reduceNeg, Int.cast_ofNat_Int, false_and, and_false]
      refine ih (i + 1) _ _ hn y3 (fun k => by rw [hI_wR, hI_wR, hI_wR, hI_wR]; exact tk2 k) ?_
      intro p hp
      rw [w5, hJ_wR, hJ_wR, show hR e2 ta 6 = hR e ta 6 from (g2.R ta 6).trans R6e]
      exact t2 p hp
  have f2 : Fp (fun b _ => b = hR h ta 5) h (wJ h1 (hR h ta 5) 0 1) := f1.wJ (by exact rfl) _
  refine main N 0 _ _ (Nat.zero_add _) (x.fp f2 (fun b _ q => q ▸ rw_ta r5)) (TK.of r5 f2) ?_
  intro p hp
  rw [show hR (wJ h1 (hR h ta 5) 0 1) ta 5 = hR h ta 5 from f2.R ta 5, hJ_wJ]
  show _ = w64 ((if L.getD p 0 = L.getD 0 0 then 1 else 0 : Nat) : Int)
  by_cases p0 : p = 0
  · subst p0
    rw [if_pos ⟨rfl, rfl⟩, if_pos rfl]; exact w64_1.symm
  · rw [if_neg (fun c => p0 c.2), if_neg (fun c => p0 (getD_inj ok hp ok.2.2 c)), z1 p hp]; exact w64_0.symm
