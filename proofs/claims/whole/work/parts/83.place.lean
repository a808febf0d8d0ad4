/-! what the tally and the game read of the search; how they are made -/
theorem SrOk.gen {S : Nat → Prop} {h h' : Hp} (f : Fa S h h') {se : Nat} (hse : se + 11 < 200 + hN h) (ns : ∀ a, se ≤ a → a ≤ se + 11 → ¬ S a) (pin : ∀ p, PoolIn h p → (∀ a, PlCell h p a → ¬ S a) ∧ PoolIn h' p) (x : SrOk h se) : SrOk h' se := by
  have cI : ∀ a, se ≤ a → a ≤ se + 11 → ∀ k, hI h' a k = hI h a k := fun a h1 h2 => f.I (by omega) (ns a h1 h2)
  have cK : ∀ a, se ≤ a → a ≤ se + 11 → hK h' a = hK h a := fun a h1 h2 => f.K (by omega) (ns a h1 h2)
  have cR : ∀ a, se ≤ a → a ≤ se + 11 → ∀ k, hR h' a k = hR h a k := fun a h1 h2 => f.R (by omega) (ns a h1 h2)
  have i0 := cI se (by omega) (by omega)
  have i4 := cI (se + 4) (by omega) (by omega)
  have i5 := cI (se + 5) (by omega) (by omega)
  have i6 := cI (se + 6) (by omega) (by omega)
  have i7 := cI (se + 7) (by omega) (by omega)
  have i8 := cI (se + 8) (by omega) (by omega)
  have i9 := cI (se + 9) (by omega) (by omega)
  have i10 := cI (se + 10) (by omega) (by omega)
  have i11 := cI (se + 11) (by omega) (by omega)
  have r0 := cR se (by omega) (by omega)
  have r1 := cR (se + 1) (by omega) (by omega)
  obtain ⟨x1, B, F, ⟨c1, c2, ⟨c3, c4⟩, c5, c6, c7, c8⟩, x3⟩ := x
  refine ⟨?_, B, F, ⟨c1, c2, ?_, ?_, ?_, ?_, ?_⟩, ?_⟩
  · unfold Shp
    rw [cK se (by omega) (by omega), cK (se + 1) (by omega) (by omega), cK (se + 2) (by omega) (by omega), cK (se + 3) (by omega) (by omega), cK (se + 4) (by omega) (by omega), cK (se + 5) (by omega) (by omega), cK (se + 6) (by omega) (by omega), cK (se + 7) (by omega) (by omega), cK (se + 8) (by omega) (by omega), cK (se + 9) (by omega) (by omega), cK (se + 10) (by omega) (by omega), cK (se + 11) (by omega) (by omega)]
    simp only [r0, r1]
    exact x1
  · rw [r0]
    obtain ⟨p1, p2⟩ := pin _ c4
    exact ⟨(c3.fa f (fun a ha => ⟨(c4.2 a ha).1, p1 a ha⟩)).1, p2⟩
  · exact c5.fa f (by omega) (ns _ (by omega) (by omega)) (ns _ (by omega) (by omega)) (ns _ (by omega) (by omega))
  · simp only [i5]; exact c6
  · simp only [i4, i5]; exact c7
  · simp only [i7]; exact c8
  · unfold SrX SrM
    simp only [i0, i4, i5, i6, i7, i8, i9, i10, i11]
    exact x3
theorem Dy.same {h h' : Hp} (r : ∀ k, hR h' 200 k = hR h 200 k) {a : Nat} : Dy h' a ↔ Dy h a := by
  unfold Dy
  rw [r 8, r 9, r 10]
theorem PoolIn.dy {S : Nat → Prop} {h h' : Hp} (f : Fa S h h') (dy : ∀ a, Dy h' a → 200 + hN h ≤ a ∨ Dy h a) {p : Nat} (x : PoolIn h p) (hc : ¬ S p) : PoolIn h' p := by
  refine ⟨x.1, fun a ha => ?_⟩
  have c0 := (x.2 p (Or.inl ⟨Nat.le_refl _, by omega⟩)).1
  have ha' : PlCell h p a := by
    unfold PlCell at ha ⊢
    rw [f.R c0 hc, f.R c0 hc] at ha
    exact ha
  obtain ⟨y1, y2, y3⟩ := x.2 a ha'
  refine ⟨by have := f.1; omega, y2, fun hd => ?_⟩
  rcases dy a hd with q | q
  · omega
  · exact y3 q
/-- cells of the tally or the game were written to -/
theorem CRep.ty {S : Nat → Prop} {h h' : Hp} {σ : AS} (f : Fa S h h') (x : CRep h σ) (h8 : hR h 200 8 ≠ 0) (hs : ∀ a, S a → Dy h a ∧ (a < hR h 200 8 ∨ hR h 200 8 + 11 < a)) (tl : hR h 200 9 ≠ 0 → TlOk h' (hR h 200 9) (hR h 200 8)) (gm : hR h 200 10 ≠ 0 → GmOk h' (hR h 200 10) (hR h 200 8)) : CRep h' σ := by
  have b := x.2.1
  have n := x.1.2.1
  have nS : ∀ a, a < 314 → ¬ S a := fun a h1 q => by have := (b.ge (hs a q).1).1; omega
  have r := f.R (a := 200) (by omega) (nS _ (by omega))
  have m' : CsOk h' := x.1.1.of (fun a ha => f.K (by omega) (nS a (by omega))) (fun a k ha _ _ _ => f.R (by omega) (nS a (by omega)) k)
  have dy : ∀ a, Dy h' a → 200 + hN h ≤ a ∨ Dy h a := fun a q => Or.inr ((Dy.same r).1 q)
  refine ⟨x.1.fa f b (fun a q => Or.inr (hs a q).1) m', ?_, ?_, ?_, ?_⟩
  · have := f.1
    unfold Blk at b ⊢
    simp only [r]
    omega
  · rw [r]
    intro _
    have b1 := b.1.resolve_left h8
    refine (x.2.2.1 h8).gen f b1.2 (fun a h1 h2 q => by have := (hs a q).2; omega) (fun p hp => ?_)
    have ns : ∀ a, PlCell h p a → ¬ S a := fun a ha q => (hp.2 a ha).2.2 (hs a q).1
    exact ⟨ns, hp.dy f dy (ns p (Or.inl ⟨Nat.le_refl _, by omega⟩))⟩
  · simp only [r]; exact tl
  · simp only [r]; exact gm
def PR (h : Hp) (se : Nat) (A : Nat → Int) (f : Nat → Nat → Nat) (set : Nat) (L : List Nat) : Prop := (314 ≤ se ∧ se + 11 < 200 + hN h) ∧ Shp h se ∧ hI h se 12 = (L.length : Int) ∧ lsOk L ∧ (∀ p, p < L.length → hI h (se + 6) p = (L.getD p 0 : Int)) ∧ (∀ p g : Nat, p < L.length → (g : Int) < A 2 → set.testBit g = true → ∃ b q : Nat, hI h (se + 4) (6400 * g + L.getD p 0) = (b : Int) ∧ b < 2147483648 ∧ b % 8192 = f g (L.getD p 0) ∧ q < L.length ∧ L.getD q 0 = f g (L.getD p 0) ∧ hI h (se + 7) (f g (L.getD p 0)) = (q : Int)) ∧ (∃ pp, hR h se 10 = pp ∧ pp + 6 < 200 + hN h ∧ ¬ Dy h pp ∧ ¬ Dy h (pp + 6) ∧ 200 ≤ pp ∧ hK h pp = (5, 0) ∧ hI h pp 11 = A 2 ∧ hR h pp 5 = pp + 6 ∧ hK h (pp + 6) = (21, 6) ∧ ∀ g, g < 6 → hI h (pp + 6) g = A (27 + g)) ∧ poolOk A ∧ L.length ≤ 1600
theorem PR.le {h : Hp} {se : Nat} {A : Nat → Int} {f : Nat → Nat → Nat} {set : Nat} {L : List Nat} (x : PR h se A f set L) : L.length ≤ 1600 := x.2.2.2.2.2.2.2.2
theorem PR.fa {S : Nat → Prop} {h h' : Hp} {se : Nat} {A : Nat → Int} {f : Nat → Nat → Nat} {set : Nat} {L : List Nat} (fr : Fa S h h') (n : 114 ≤ hN h) (hs : ∀ a, S a → Dy h a ∧ (a < se ∨ se + 11 < a)) (h2 : ¬ S 200) (x : PR h se A f set L) : PR h' se A f set L := by
  obtain ⟨⟨x0, x0'⟩, x1, x2, x3, x4, x5, ⟨pp, p0, p1, p2, p3, p4, p5, p6, p7, p8, p9⟩, x7⟩ := x
  have ns : ∀ a, se ≤ a → a ≤ se + 11 → ¬ S a := fun a h1 h3 q => by have := (hs a q).2; omega
  have np : ¬ S pp := fun q => p2 (hs _ q).1
  have np6 : ¬ S (pp + 6) := fun q => p3 (hs _ q).1
  have r := fr.R (a := 200) (by omega) h2
  have cI : ∀ a, se ≤ a → a ≤ se + 11 → ∀ k, hI h' a k = hI h a k := fun a h1 h3 => fr.I (by omega) (ns a h1 h3)
  have cK : ∀ a, se ≤ a → a ≤ se + 11 → hK h' a = hK h a := fun a h1 h3 => fr.K (by omega) (ns a h1 h3)
  have cR : ∀ a, se ≤ a → a ≤ se + 11 → ∀ k, hR h' a k = hR h a k := fun a h1 h3 => fr.R (by omega) (ns a h1 h3)
  have i0 := cI se (by omega) (by omega)
  have i4 := cI (se + 4) (by omega) (by omega)
  have i6 := cI (se + 6) (by omega) (by omega)
  have i7 := cI (se + 7) (by omega) (by omega)
  have r0 := cR se (by omega) (by omega)
  have r1 := cR (se + 1) (by omega) (by omega)
  refine ⟨⟨x0, by have := fr.1; omega⟩, ?_, by rw [i0]; exact x2, x3, fun p hp => by rw [i6]; exact x4 p hp, fun p g h1 h3 h4 => ?_, ⟨pp, by rw [r0]; exact p0, by have := fr.1; omega, fun q => p2 ((Dy.same r).1 q), fun q => p3 ((Dy.same r).1 q), p4, by rw [fr.K (by omega) np]; exact p5, by rw [fr.I (by omega) np]; exact p6, by rw [fr.R (by omega) np]; exact p7, by rw [fr.K (by omega) np6]; exact p8, fun g hg => by rw [fr.I (by omega) np6]; exact p9 g hg⟩, x7⟩
  · unfold Shp
    rw [cK se (by omega) (by omega), cK (se + 1) (by omega) (by omega), cK (se + 2) (by omega) (by omega), cK (se + 3) (by omega) (by omega), cK (se + 4) (by omega) (by omega), cK (se + 5) (by omega) (by omega), cK (se + 6) (by omega) (by omega), cK (se + 7) (by omega) (by omega), cK (se + 8) (by omega) (by omega), cK (se + 9) (by omega) (by omega), cK (se + 10) (by omega) (by omega), cK (se + 11) (by omega) (by omega)]
    simp only [r0, r1]
    exact x1
  · rw [i4, i7]
    exact x5 p g h1 h3 h4
theorem bh_n {x y : Int} (h0 : 0 ≤ x) (h1 : x / 8192 ≤ y) (h2 : y ≤ 100000) {n : Nat} (h3 : x % 8192 = (n : Int)) : ∃ b : Nat, x = (b : Int) ∧ b < 2147483648 ∧ b % 8192 = n := ⟨x.toNat, by omega, by omega, by omega⟩
theorem PR.of {h : Hp} {σ : AS} {se set : Nat} (x : CRep h σ) (w : WF σ) (sx : Sx h se (sA σ) (stA (sA σ))) (srx : SrX h se (sA σ) (stA (sA σ)) set) : PR h se (sA σ) (nxt (sA σ) (stA (sA σ))) set (Lst (sA σ) (stA (sA σ)) set) := by
  obtain ⟨y1, ⟨y2, y3, y4⟩, y5, ⟨y6, y7, ⟨y8, y9⟩, y10⟩, ⟨a1, a2, a3⟩, _, _⟩ := sx
  obtain ⟨z1, z2, z3, z4, ⟨ah, by', dv, t, _⟩, z6⟩ := srx
  have ok := Lst_ok w.1 w.2.1 set
  have G6 := w.1.2.2.2.1
  refine ⟨⟨y3, y4⟩, y5, z3, ok, fun p hp => (z4 p hp).1, fun p g h1 h2 h3 => ?_, ⟨_, rfl, ?_⟩, w.1, Lst_le w.1 w.2.1 set⟩
  · have g6 := q_6 h2 G6
    have sl := getD_lt ok h1
    obtain ⟨b1, b2, b3⟩ := a2 g _ g6 sl
    obtain ⟨b, e1, e2, e3⟩ := bh_n b1 b2 (a1 g g6).2 (b3 h2 (z6 p g h1 h2 h3))
    obtain ⟨q, hq, eq, _⟩ := t.2.2.2 p g h1 (by omega) h3 (Or.inl h1)
    refine ⟨b, q, e1, e2, e3, hq, eq, ?_⟩
    rw [← eq]
    exact (z4 q hq).2
  · obtain ⟨u1, u2⟩ := y9
    have c0 := u2 (hR h se 10) (Or.inl ⟨Nat.le_refl _, by omega⟩)
    have c6 := u2 (hR h se 10 + 6) (Or.inl ⟨by omega, by omega⟩)
    exact ⟨c6.1, c0.2.2, c6.2.2, by omega, y8.1.2.1, y8.2.1, y8.2.2.2.1, y8.2.2.2.2.1, y8.2.2.2.2.2⟩
theorem Shp.pa {h : Hp} {se : Nat} (x : Shp h se) : hK h se = (7, 0) ∧ hR h se 2 = se + 4 ∧ hR h se 4 = se + 6 ∧ hR h se 5 = se + 7 ∧ hK h (se + 4) = (21, 38400) ∧ hK h (se + 6) = (21, 1600) ∧ hK h (se + 7) = (21, 6400) := by
  obtain ⟨K0, R0, R1, R2, R3, R4, R5, R6, R7, R8, R9, K1, r0, r1, K2, K3, K4, K5, K6, K7, _⟩ := x
  exact ⟨K0, R2, R4, R5, K4, K6, K7⟩
theorem S_placeAfter {h : Hp} {se : Nat} {A : Nat → Int} {f : Nat → Nat → Nat} {set : Nat} {L : List Nat} (x : PR h se A f set L) {p g : Nat} (hp : p < L.length) (hg : (g : Int) < A 2) (hs : set.testBit g = true) : ∃ q, q < L.length ∧ L.getD q 0 = f g (L.getD p 0) ∧ ∀ (d : Nat) (Q : Option PV → Hp → Prop), WP d mX7_placeAfter 0 [some (.inr (.inr se)), some (.inl (g : Int)), some (.inl (p : Int))] [] h Q = Q (some (.inl (q : Int))) h := by
  obtain ⟨x0, x1, x2, x3, x4, x5, x6, x7⟩ := x
  obtain ⟨b, q, e1, e2, e3, hq, eq, e7⟩ := x5 p g hp hg hs
  refine ⟨q, hq, eq, fun d Q => ?_⟩
  obtain ⟨K0, R2, R4, R5, K4, K6, K7⟩ := x1.pa
  have g6 := q_6 hg x7.1.2.2.2.1
  obtain ⟨i1, i2, i3, i4, i5, i6⟩ := ix_n g6 (getD_lt x3 hp)
  have p6 : (p : Int) < 1600 := Int.ofNat_lt.2 (Nat.lt_of_lt_of_le hp x7.2)
  have f6 : (f g (L.getD p 0) : Int) < 6400 := by rw [← eq]; exact Int.ofNat_lt.2 (getD_lt x3 hq)
  simp only [rX7_placeAfter_0, rX7_placeAfter_1, rX7_placeAfter_4, rX7_placeAfter_5, rX7_placeAfter_8, rX7_placeAfter_9, rX7_placeAfter_12, rX7_placeAfter_13, rX7_placeAfter_14, rX7_placeAfter_17, rX7_placeAfter_18, rX7_placeAfter_19, rX7_placeAfter_20, rX7_placeAfter_21, rX7_placeAfter_24, rX7_placeAfter_25, rX7_placeAfter_26, K0, R2, R4, R5, K4, K6, K7, i1, i2, i3, p6, x4 p hp, e1, and8191 e2, e3, f6, e7, Int.toNat_natCast, Int.natCast_nonneg, true_and, and_true, and_self, if_true, if_false, or_true, true_or, or_false, false_or, ne_eq, not_true_eq_false, not_false_eq_true, Nat.reduceLeDiff, Nat.reduceEqDiff, Nat.reduceLT, Nat.reduceAdd, Nat.reduceMul, Nat.reduceSub, Int.reduceLT, Int.reduceLE, Int.reduceEq, Int.reduceToNat, Int.reduceAdd, Int.reduceSub, Int.reduceMul, Int.reduceNeg, Int.cast_ofNat_Int, false_and, and_false]
set_option maxRecDepth 20000 in
set_option maxHeartbeats 4000000 in
theorem S_newTally {d : Nat} {Q : Option PV → Hp → Prop} {h : Hp} {p M : Nat} (hM : hN h = M)
    (k : ∀ h', Fa (fun _ => False) h h' → hN h' = M + 7 → hS h' ≤ hS h + 26000 → TlOk h' (200 + M) p → Q none h') :
    WP (d + 2) mX9_init 0 [some (.inr (.inr (200 + M))), some (.inr (.inr p))] [] (nw h 9 0 7) Q := by
  simp only [rX9_init_0, rX9_init_1, rX9_init_4, rX9_init_5, rX9_init_7, rX9_init_9, rX9_init_12, rX9_init_13, rX9_init_15, rX9_init_17, rX9_init_20, rX9_init_21, rX9_init_24, rX9_init_26, rX9_init_29, rX9_init_30, rX9_init_33, rX9_init_35, rX9_init_38, rX9_init_39, rX9_init_42, rX9_init_44, rX9_init_47, rX9_init_48, rX9_init_51, rX9_init_53, rX9_init_56, rX9_init_57, rX9_init_58, rX9_init_61, hN_wI, hN_wJ, hN_wR, hS_wI, hS_wJ, hS_wR, hK_wI, hK_wJ, hK_wR, hI_wI, hI_wJ, hI_wR, hJ_wI, hJ_wJ, hJ_wR, hR_wI, hR_wJ, hR_wR, hN_nw, hS_nw, hK_nw, hI_nw, hJ_nw, hR_nw, psh_some, psh_none, Int.toNat_natCast, Int.natCast_nonneg, true_and, and_true, and_self, if_true, if_false, or_true, true_or, or_false, false_or, ne_eq, not_true_eq_false, not_false_eq_true, Nat.reduceLeDiff, Nat.reduceEqDiff, Nat.reduceLT, Nat.reduceAdd, Nat.reduceMul, Nat.reduceSub, Int.reduceLT, Int.reduceLE, Int.reduceEq, Int.reduceToNat, Int.reduceAdd, Int.reduceSub, Int.reduceMul, Int.reduceNeg, Int.cast_ofNat_Int, false_and, and_false, hM, Nat.add_assoc, nwj, nw0, nw0', ge2, ge2']
  have w0 : ∀ {h1 : Hp} (_ : Fa (fun a => 200 + hN h ≤ a) h h1) (k v : Nat), Fa (fun a => 200 + hN h ≤ a) h (wR h1 (200 + M) k v) := fun f k v => f.wR (by rw [hM]; omega) k v
  have nn : ∀ {h1 : Hp} (_ : Fa (fun a => 200 + hN h ≤ a) h h1) (c l q : Nat), Fa (fun a => 200 + hN h ≤ a) h (nw h1 c l q) := fun f c l q => f.nw c l q
  refine k _ ?_ ?_ ?_ ?_
  · have fa := w0 (w0 (nn (w0 (nn (w0 (nn (w0 (nn (w0 (nn (w0 (nn (nn (Fa.refl _ h) 9 0 7) 21 6 6) 1 (200 + (M + 1))) 21 12 12) 2 (200 + (M + 2))) 21 1600 1600) 3 (200 + (M + 3))) 21 1600 1600) 4 (200 + (M + 4))) 22 1600 1600) 5 (200 + (M + 5))) 22 1600 1600) 6 (200 + (M + 6))) 0 p
    exact ⟨fa.1, fun q hq _ => fa.2 q hq (by omega)⟩
  · simp only [hN_wI, hN_wJ, hN_wR, hS_wI, hS_wJ, hS_wR, hK_wI, hK_wJ, hK_wR, hI_wI, hI_wJ, hI_wR, hJ_wI, hJ_wJ, hJ_wR, hR_wI, hR_wJ, hR_wR, hN_nw, hS_nw, hK_nw, hI_nw, hJ_nw, hR_nw, psh_some, psh_none, hM, Nat.add_assoc, Nat.reduceAdd]
  · simp only [hN_wI, hN_wJ, hN_wR, hS_wI, hS_wJ, hS_wR, hK_wI, hK_wJ, hK_wR, hI_wI, hI_wJ, hI_wR, hJ_wI, hJ_wJ, hJ_wR, hR_wI, hR_wJ, hR_wR, hN_nw, hS_nw, hK_nw, hI_nw, hJ_nw, hR_nw, psh_some, psh_none, Int.toNat_natCast, Int.natCast_nonneg, true_and, and_true, and_self, if_true, if_false, or_true, true_or, or_false, false_or, ne_eq, not_true_eq_false, not_false_eq_true, Nat.reduceLeDiff, Nat.reduceEqDiff, Nat.reduceLT, Nat.reduceAdd, Nat.reduceMul, Nat.reduceSub, Int.reduceLT, Int.reduceLE, Int.reduceEq, Int.reduceToNat, Int.reduceAdd, Int.reduceSub, Int.reduceMul, Int.reduceNeg, Int.cast_ofNat_Int, false_and, and_false]; omega
  · unfold TlOk
    simp only [hN_wI, hN_wJ, hN_wR, hS_wI, hS_wJ, hS_wR, hK_wI, hK_wJ, hK_wR, hI_wI, hI_wJ, hI_wR, hJ_wI, hJ_wJ, hJ_wR, hR_wI, hR_wJ, hR_wR, hN_nw, hS_nw, hK_nw, hI_nw, hJ_nw, hR_nw, psh_some, psh_none, Int.toNat_natCast, Int.natCast_nonneg, true_and, and_true, and_self, if_true, if_false, or_true, true_or, or_false, false_or, ne_eq, not_true_eq_false, not_false_eq_true, Nat.reduceLeDiff, Nat.reduceEqDiff, Nat.reduceLT, Nat.reduceAdd, Nat.reduceMul, Nat.reduceSub, Int.reduceLT, Int.reduceLE, Int.reduceEq, Int.reduceToNat, Int.reduceAdd, Int.reduceSub, Int.reduceMul, Int.reduceNeg, Int.cast_ofNat_Int, false_and, and_false, hM, Nat.add_assoc, nwj, nw0, nw0', true_or]
set_option maxRecDepth 20000 in
set_option maxHeartbeats 4000000 in
theorem S_newGame {d : Nat} {Q : Option PV → Hp → Prop} {h : Hp} {p M : Nat} (hM : hN h = M)
    (k : ∀ h', Fa (fun _ => False) h h' → hN h' = M + 6 → hS h' ≤ hS h + 84000 → GmOk h' (200 + M) p → Q none h') :
    WP (d + 2) mX1_init 0 [some (.inr (.inr (200 + M))), some (.inr (.inr p))] [] (nw h 1 0 9) Q := by
  simp only [rX1_init_0, rX1_init_1, rX1_init_4, rX1_init_5, rX1_init_8, rX1_init_10, rX1_init_13, rX1_init_14, rX1_init_17, rX1_init_19, rX1_init_22, rX1_init_23, rX1_init_26, rX1_init_28, rX1_init_31, rX1_init_32, rX1_init_35, rX1_init_37, rX1_init_40, rX1_init_41, rX1_init_44, rX1_init_46, rX1_init_49, rX1_init_50, rX1_init_51, rX1_init_54, hN_wI, hN_wJ, hN_wR, hS_wI, hS_wJ, hS_wR, hK_wI, hK_wJ, hK_wR, hI_wI, hI_wJ, hI_wR, hJ_wI, hJ_wJ, hJ_wR, hR_wI, hR_wJ, hR_wR, hN_nw, hS_nw, hK_nw, hI_nw, hJ_nw, hR_nw, psh_some, psh_none, Int.toNat_natCast, Int.natCast_nonneg, true_and, and_true, and_self, if_true, if_false, or_true, true_or, or_false, false_or, ne_eq, not_true_eq_false, not_false_eq_true, Nat.reduceLeDiff, Nat.reduceEqDiff, Nat.reduceLT, Nat.reduceAdd, Nat.reduceMul, Nat.reduceSub, Int.reduceLT, Int.reduceLE, Int.reduceEq, Int.reduceToNat, Int.reduceAdd, Int.reduceSub, Int.reduceMul, Int.reduceNeg, Int.cast_ofNat_Int, false_and, and_false, hM, Nat.add_assoc, nwj, nw0, nw0', ge2, ge2']
  have w0 : ∀ {h1 : Hp} (_ : Fa (fun a => 200 + hN h ≤ a) h h1) (k v : Nat), Fa (fun a => 200 + hN h ≤ a) h (wR h1 (200 + M) k v) := fun f k v => f.wR (by rw [hM]; omega) k v
  have nn : ∀ {h1 : Hp} (_ : Fa (fun a => 200 + hN h ≤ a) h h1) (c l q : Nat), Fa (fun a => 200 + hN h ≤ a) h (nw h1 c l q) := fun f c l q => f.nw c l q
  refine k _ ?_ ?_ ?_ ?_
  · have fa := w0 (w0 (nn (w0 (nn (w0 (nn (w0 (nn (w0 (nn (nn (Fa.refl _ h) 1 0 9) 21 1600 1600) 1 (200 + (M + 1))) 21 9600 9600) 2 (200 + (M + 2))) 21 3200 3200) 3 (200 + (M + 3))) 21 3200 3200) 4 (200 + (M + 4))) 21 3200 3200) 5 (200 + (M + 5))) 0 p
    exact ⟨fa.1, fun q hq _ => fa.2 q hq (by omega)⟩
  · simp only [hN_wI, hN_wJ, hN_wR, hS_wI, hS_wJ, hS_wR, hK_wI, hK_wJ, hK_wR, hI_wI, hI_wJ, hI_wR, hJ_wI, hJ_wJ, hJ_wR, hR_wI, hR_wJ, hR_wR, hN_nw, hS_nw, hK_nw, hI_nw, hJ_nw, hR_nw, psh_some, psh_none, hM, Nat.add_assoc, Nat.reduceAdd]
  · simp only [hN_wI, hN_wJ, hN_wR, hS_wI, hS_wJ, hS_wR, hK_wI, hK_wJ, hK_wR, hI_wI, hI_wJ, hI_wR, hJ_wI, hJ_wJ, hJ_wR, hR_wI, hR_wJ, hR_wR, hN_nw, hS_nw, hK_nw, hI_nw, hJ_nw, hR_nw, psh_some, psh_none, Int.toNat_natCast, Int.natCast_nonneg, true_and, and_true, and_self, if_true, if_false, or_true, true_or, or_false, false_or, ne_eq, not_true_eq_false, not_false_eq_true, Nat.reduceLeDiff, Nat.reduceEqDiff, Nat.reduceLT, Nat.reduceAdd, Nat.reduceMul, Nat.reduceSub, Int.reduceLT, Int.reduceLE, Int.reduceEq, Int.reduceToNat, Int.reduceAdd, Int.reduceSub, Int.reduceMul, Int.reduceNeg, Int.cast_ofNat_Int, false_and, and_false]; omega
  · unfold GmOk
    simp only [hN_wI, hN_wJ, hN_wR, hS_wI, hS_wJ, hS_wR, hK_wI, hK_wJ, hK_wR, hI_wI, hI_wJ, hI_wR, hJ_wI, hJ_wJ, hJ_wR, hR_wI, hR_wJ, hR_wR, hN_nw, hS_nw, hK_nw, hI_nw, hJ_nw, hR_nw, psh_some, psh_none, Int.toNat_natCast, Int.natCast_nonneg, true_and, and_true, and_self, if_true, if_false, or_true, true_or, or_false, false_or, ne_eq, not_true_eq_false, not_false_eq_true, Nat.reduceLeDiff, Nat.reduceEqDiff, Nat.reduceLT, Nat.reduceAdd, Nat.reduceMul, Nat.reduceSub, Int.reduceLT, Int.reduceLE, Int.reduceEq, Int.reduceToNat, Int.reduceAdd, Int.reduceSub, Int.reduceMul, Int.reduceNeg, Int.cast_ofNat_Int, false_and, and_false, hM, Nat.add_assoc, nwj, nw0, nw0']
