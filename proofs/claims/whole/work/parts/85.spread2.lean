/-! the tally at work -/
def taS (ta a : Nat) : Prop := ta ≤ a ∧ a ≤ ta + 6
def TZ (h : Hp) (ta se : Nat) : Prop := hR h 200 9 = ta ∧ ta ≠ 0 ∧ 314 ≤ ta ∧ ta + 6 < 200 + hN h ∧ (ta + 6 < se ∨ se + 11 < ta) ∧ 114 ≤ hN h
def TW (h0 h : Hp) (A : Nat → Int) (f : Nat → Nat → Nat) (set : Nat) (L : List Nat) (ta se : Nat) : Prop := Fa (taS ta) h0 h ∧ hN h = hN h0 ∧ hS h = hS h0 ∧ TlOk h ta se ∧ PR h se A f set L ∧ TZ h ta se
theorem TH.tw {h : Hp} {σ : AS} {ta se set : Nat} {L : List Nat} (x : TH h σ ta se set L) : TW h h (sA σ) (nxt (sA σ) (stA (sA σ))) set L ta se := by
  obtain ⟨x1, x2, x3, x4, x5, x6, x7⟩ := x
  have b := x1.2.1.2.1.resolve_left (by rw [x3]; exact x4)
  rw [x2, x3] at b
  exact ⟨Fa.refl _ h, rfl, rfl, x6, x7, x3, x4, b.1, b.2.1, b.2.2.2, x1.1.2.1⟩
theorem TZ.fa {h h' : Hp} {ta se : Nat} (z : TZ h ta se) (f : Fa (taS ta) h h') : TZ h' ta se := by
  obtain ⟨z1, z2, z3, z4, z5, z6⟩ := z
  have := f.1
  exact ⟨by rw [f.R (by omega) (by unfold taS; omega)]; exact z1, z2, z3, by omega, z5, by omega⟩
theorem TZ.dy {h : Hp} {ta se : Nat} (z : TZ h ta se) : ∀ a, taS ta a → Dy h a ∧ (a < se ∨ se + 11 < a) := fun a q => by
  obtain ⟨z1, z2, z3, z4, z5, z6⟩ := z
  unfold taS at q
  refine ⟨Or.inr (Or.inl ?_), by omega⟩
  rw [z1]
  exact ⟨z2, q.1, q.2⟩
theorem TW.fa {h0 h h' : Hp} {A : Nat → Int} {f : Nat → Nat → Nat} {set : Nat} {L : List Nat} {ta se : Nat} (x : TW h0 h A f set L ta se) (fr : Fa (taS ta) h h') (eN : hN h' = hN h) (eS : hS h' = hS h) (tl : TlOk h' ta se) : TW h0 h' A f set L ta se := by
  obtain ⟨x1, x2, x3, x4, x5, x6⟩ := x
  exact ⟨x1.trans fr, eN.trans x2, eS.trans x3, tl, x5.fa fr x6.2.2.2.2.2 x6.dy (by have := x6.2.2.1; unfold taS; omega), x6.fa fr⟩
theorem TW.fp {h0 h h' : Hp} {A : Nat → Int} {f : Nat → Nat → Nat} {set : Nat} {L : List Nat} {ta se : Nat} (x : TW h0 h A f set L ta se) {P : Nat → Nat → Prop} (g : Fp P h h') (hp : ∀ a k, P a k → taS ta a) : TW h0 h' A f set L ta se :=
  x.fa (g.fa hp) g.N g.S (x.2.2.2.1.cg (fun a _ _ => g.K a) (fun k => g.R ta k))
theorem TH.done {h0 h : Hp} {σ : AS} {ta se set : Nat} {L : List Nat} (x : TH h0 σ ta se set L) {f : Nat → Nat → Nat} (y : TW h0 h (sA σ) f set L ta se) : CRep h σ ∧ Cf0 h0 h := by
  obtain ⟨x1, x2, x3, x4, x5, x6, x7⟩ := id x
  obtain ⟨y1, y2, y3, y4, y5, y6⟩ := y
  have z := x.tw.2.2.2.2.2
  have n := x1.1.2.1
  have t3 := z.2.2.1
  have t5 := z.2.2.2.2.1
  have b := x1.2.1
  have r := y1.R (a := 200) (by omega) (by unfold taS; omega)
  refine ⟨x1.ty y1 (by rw [x2]; exact x5) (fun a q => by rw [x2]; exact z.dy a q) (fun _ => by rw [x2, x3]; exact y4) (fun h10 => ?_), ⟨Cfr.sr y1 n (fun a q => Or.inr (by unfold taS at q; omega)) y2 y3, ?_, ?_⟩⟩
  · have b3 := b.2.2.resolve_left h10
    rw [x3] at b3
    have g := x1.2.2.2.2 h10
    exact g.cg (fun a h1 h2 => y1.K (by omega) (by unfold taS; omega)) (fun k => y1.R (by omega) (by unfold taS; omega) k)
  · unfold Phn; rw [r, r, r, y2]; exact Nat.le_refl _
  · unfold Phs; rw [r, r, r, y3]; exact Nat.le_refl _
/-- the two rows of long numbers -/
def rwA (ta a : Nat) : Prop := a = ta + 5 ∨ a = ta + 6
theorem TlOk.ks {h : Hp} {ta se : Nat} (x : TlOk h ta se) : hK h ta = (9, 0) ∧ hR h ta 0 = se ∧ hR h ta 1 = ta + 1 ∧ hR h ta 2 = ta + 2 ∧ hR h ta 3 = ta + 3 ∧ hR h ta 4 = ta + 4 ∧ hK h (ta + 1) = (21, 6) ∧ hK h (ta + 2) = (21, 12) ∧ hK h (ta + 3) = (21, 1600) ∧ hK h (ta + 4) = (21, 1600) := ⟨x.1, x.2.1, x.2.2.1, x.2.2.2.1, x.2.2.2.2.1, x.2.2.2.2.2.1, x.2.2.2.2.2.2.1, x.2.2.2.2.2.2.2.1, x.2.2.2.2.2.2.2.2.1, x.2.2.2.2.2.2.2.2.2.1⟩
theorem TlOk.rw {h : Hp} {ta se : Nat} (x : TlOk h ta se) : rwA ta (hR h ta 5) ∧ rwA ta (hR h ta 6) ∧ hR h ta 5 ≠ hR h ta 6 ∧ ∀ a, rwA ta a → hK h a = (22, 1600) := by
  obtain ⟨_, _, _, _, _, _, _, _, _, _, k5, k6, e⟩ := x
  refine ⟨?_, ?_, ?_, fun a ha => ?_⟩
  · unfold rwA; omega
  · unfold rwA; omega
  · omega
  · rcases ha with rfl | rfl
    · exact k5
    · exact k6
def TV (h : Hp) (a : Nat) (L : List Nat) (D : Nat → Nat) : Prop := ∀ p, p < L.length → hJ h a p = w64 (D (L.getD p 0) : Int)
theorem ge_ta {ta a : Nat} (h : 314 ≤ ta) (r : rwA ta a) : 200 ≤ a := by unfold rwA at r; omega
theorem rw_ta {ta a : Nat} (r : rwA ta a) : taS ta a := by unfold rwA at r; unfold taS; omega
theorem rw_ne {ta a : Nat} (r : rwA ta a) : ¬ (a = ta) ∧ ¬ (a = ta + 1) ∧ ¬ (a = ta + 2) := by unfold rwA at r; omega
theorem i_64 {L : List Nat} (o : lsOk L) {i : Nat} (hi : i < L.length) : (i : Int) < (L.length : Int) ∧ (i : Int) < 6400 ∧ w32 ((i : Int) + 1) = ((i + 1 : Nat) : Int) ∧ i < 6400 := by
  have := o.len
  exact ⟨by omega, by omega, w32_s (by omega), by omega⟩
theorem i_16 {L : List Nat} (o : L.length ≤ 1600) {i : Nat} (hi : i < L.length) : (i : Int) < (L.length : Int) ∧ (i : Int) < 1600 ∧ w32 ((i : Int) + 1) = ((i + 1 : Nat) : Int) ∧ i < 1600 :=
  ⟨by omega, by omega, w32_s (by omega), by omega⟩
theorem S_clear {d : Nat} {Q : Option PV → Hp → Prop} {h0 h : Hp} {A : Nat → Int} {f : Nat → Nat → Nat} {set : Nat} {L : List Nat} {ta se : Nat} (x : TW h0 h A f set L ta se) {a : Nat} (ha : rwA ta a)
    (k : ∀ h', Fp (fun b _ => b = a) h h' → (∀ p, p < L.length → hJ h' a p = 0) → Q none h') : WP d mX9_clear 0 [some (.inr (.inr ta)), some (.inr (.inr a)), none] [] h Q := by
  have ok := x.2.2.2.2.1.2.2.2.1
  have lk := x.2.2.2.2.1.le
  have a2 := ge_ta x.2.2.2.2.2.2.2.1 ha
  simp only [rX9_clear_0, rX9_clear_1]
  refine wp_for (fun i e => WP d mX9_clear 2 [some (.inr (.inr ta)), some (.inr (.inr a)), some (.inl (i : Int))] [] e Q) (fun i e => Fp (fun b _ => b = a) h e ∧ ∀ p, p < i → hJ e a p = 0) L.length ?_ ?_ 0 h (Nat.zero_le _) ⟨Fp.refl _ h, fun p hp => absurd hp (Nat.not_lt_zero _)⟩
  · rintro i e hi ⟨fe, z⟩ kk
    have xe := x.fp fe (fun b _ q => q ▸ rw_ta ha)
    obtain ⟨K0, R0, _⟩ := xe.2.2.2.1.ks
    have KA := xe.2.2.2.1.rw.2.2.2 a ha
    have KS := xe.2.2.2.2.1.2.1.1
    have len := xe.2.2.2.2.1.2.2.1
    obtain ⟨c1, c2, c3, c4⟩ := i_16 lk hi
    rw [rX9_clear_2]
    simp only [rX9_clear_3, rX9_clear_4, rX9_clear_7, rX9_clear_10, rX9_clear_13, rX9_clear_14, rX9_clear_15, rX9_clear_16, rX9_clear_17, rX9_clear_20, K0, R0, KS, len, c1, c2, c3, KA, a2, Int.toNat_natCast, Int.natCast_nonneg, true_and, and_true, and_self, if_true, if_false, or_true, true_or, or_false, false_or, ne_eq, not_true_eq_false, not_false_eq_true, Nat.reduceLeDiff, Nat.reduceEqDiff, Nat.reduceLT, Nat.reduceAdd, Nat.reduceMul, Nat.reduceSub, Int.reduceLT, Int.reduceLE, Int.reduceEq, Int.reduceToNat, Int.reduceAdd, Int.reduceSub, Int.reduceMul, Int.reduceNeg, Int.cast_ofNat_Int, false_and, and_false]
    refine kk _ ⟨fe.wJ (by exact rfl) _, fun p hp => ?_⟩
    rw [hJ_wJ]
    by_cases hpi : p = i
    · rw [if_pos ⟨rfl, hpi⟩]
    · rw [if_neg (fun q => hpi q.2)]; exact z p (lt_one hp hpi)
  · rintro e ⟨fe, z⟩
    have xe := x.fp fe (fun b _ q => q ▸ rw_ta ha)
    obtain ⟨K0, R0, _⟩ := xe.2.2.2.1.ks
    have KS := xe.2.2.2.2.1.2.1.1
    have len := xe.2.2.2.2.1.2.2.1
    rw [rX9_clear_2]
    simp only [rX9_clear_3, rX9_clear_4, rX9_clear_7, rX9_clear_10, rX9_clear_23, K0, R0, KS, len, Int.lt_irrefl, Int.toNat_natCast, Int.natCast_nonneg, true_and, and_true, and_self, if_true, if_false, or_true, true_or, or_false, false_or, ne_eq, not_true_eq_false, not_false_eq_true, Nat.reduceLeDiff, Nat.reduceEqDiff, Nat.reduceLT, Nat.reduceAdd, Nat.reduceMul, Nat.reduceSub, Int.reduceLT, Int.reduceLE, Int.reduceEq, Int.reduceToNat, Int.reduceAdd, Int.reduceSub, Int.reduceMul, Int.reduceNeg, Int.cast_ofNat_Int, false_and, and_false]
    exact k e fe z
theorem S_fits {d : Nat} {h0 h : Hp} {Q : Option PV → Hp → Prop} {A : Nat → Int} {f : Nat → Nat → Nat} {set : Nat} {L : List Nat} {ta se : Nat} (x : TW h0 h A f set L ta se) {i q : Nat} {z : Int} (hi : i < 12) (ez : hI h (ta + 2) i = z) (hq : q < L.length) : WP (d + 2) mX9_fits 0 [some (.inr (.inr ta)), some (.inl (i : Int)), some (.inl (q : Int))] [] h Q = Q (some (.inl (if sees z ((L.getD q 0 % 100 : Nat) : Int) = true then 1 else 0))) h := by
  obtain ⟨K0, R0, R1, R2, R3, R4, K1, K2, _⟩ := x.2.2.2.1.ks
  have pr := x.2.2.2.2.1
  have i12 : (i : Int) < 12 := Int.ofNat_lt.2 hi
  obtain ⟨c1, c2, c3, c4⟩ := i_16 pr.le hq
  unfold sees
  simp only [rX9_fits_0, rX9_fits_1, rX9_fits_4, rX9_fits_5, rX9_fits_6, rX9_fits_7, rX9_fits_10, rX9_fits_11, rX9_fits_14, rX9_fits_15, rX9_fits_16, rX9_fits_17, rX9_fits_20, rX9_fits_21, rX9_fits_24, rX9_fits_27, rX9_fits_28, rX9_fits_31, rX9_fits_32, K0, R0, R2, K2, i12, ez, pr.2.1.1, S_boardAt pr.2.1 c4 (pr.2.2.2.2.1 q hq), psh_some, Int.toNat_natCast, Int.natCast_nonneg, true_and, and_true, and_self, if_true, if_false, or_true, true_or, or_false, false_or, ne_eq, not_true_eq_false, not_false_eq_true, Nat.reduceLeDiff, Nat.reduceEqDiff, Nat.reduceLT, Nat.reduceAdd, Nat.reduceMul, Nat.reduceSub, Int.reduceLT, Int.reduceLE, Int.reduceEq, Int.reduceToNat, Int.reduceAdd, Int.reduceSub, Int.reduceMul, Int.reduceNeg, Int.cast_ofNat_Int, false_and, and_false]
  by_cases h1 : z = -1
  · simp only [h1, Int.toNat_natCast, Int.natCast_nonneg, true_and, and_true, and_self, if_true, if_false, or_true, true_or, or_false, false_or, ne_eq, not_true_eq_false, not_false_eq_true, Nat.reduceLeDiff, Nat.reduceEqDiff, Nat.reduceLT, Nat.reduceAdd, Nat.reduceMul, Nat.reduceSub, Int.reduceLT, Int.reduceLE, Int.reduceEq, Int.reduceToNat, Int.reduceAdd, Int.reduceSub, Int.reduceMul, Int.reduceNeg, Int.cast_ofNat_Int, false_and, and_false, decide_true]
  · by_cases h2 : z = ((L.getD q 0 % 100 : Nat) : Int)
    · simp only [h1, h2, Int.toNat_natCast, Int.natCast_nonneg, true_and, and_true, and_self, if_true, if_false, or_true, true_or, or_false, false_or, ne_eq, not_true_eq_false, not_false_eq_true, Nat.reduceLeDiff, Nat.reduceEqDiff, Nat.reduceLT, Nat.reduceAdd, Nat.reduceMul, Nat.reduceSub, Int.reduceLT, Int.reduceLE, Int.reduceEq, Int.reduceToNat, Int.reduceAdd, Int.reduceSub, Int.reduceMul, Int.reduceNeg, Int.cast_ofNat_Int, false_and, and_false, decide_true, ite_self]
    · simp only [h1, h2, Int.toNat_natCast, Int.natCast_nonneg, true_and, and_true, and_self, if_true, if_false, or_true, true_or, or_false, false_or, ne_eq, not_true_eq_false, not_false_eq_true, Nat.reduceLeDiff, Nat.reduceEqDiff, Nat.reduceLT, Nat.reduceAdd, Nat.reduceMul, Nat.reduceSub, Int.reduceLT, Int.reduceLE, Int.reduceEq, Int.reduceToNat, Int.reduceAdd, Int.reduceSub, Int.reduceMul, Int.reduceNeg, Int.cast_ofNat_Int, false_and, and_false, decide_false, Bool.false_eq_true]
def okZ (z : Int) : Nat → Bool := fun t => sees z ((t % 100 : Nat) : Int)
theorem all_bt {G g : Nat} (h : g < G) : (2 ^ G - 1).testBit g = true := by rw [Nat.testBit_two_pow_sub_one]; exact decide_eq_true h
theorem PR.pl {h : Hp} {se : Nat} {A : Nat → Int} {f : Nat → Nat → Nat} {set : Nat} {L : List Nat} (x : PR h se A f set L) : ∃ pp, hR h se 10 = pp ∧ hK h pp = (5, 0) ∧ hI h pp 11 = A 2 := by
  obtain ⟨_, _, _, _, _, _, ⟨pp, p0, p1, p2, p3, p4, p5, p6, _⟩, _⟩ := x
  exact ⟨pp, p0, p5, p6⟩
theorem w64_ad (a b c : Int) : w64 (w64 a + w64 (w64 b * c)) = w64 (a + b * c) := by rw [w64_mull, w64_add2]
theorem TV.ad {h : Hp} {a : Nat} {L : List Nat} {D : Nat → Nat} (o : lsOk L) (x : TV h a L D) {q v : Nat} (hq : q < L.length) : TV (wJ h a q (w64 (((D (L.getD q 0) : Nat) : Int) + (v : Int)))) a L (adN D (L.getD q 0) v) := by
  intro p hp
  rw [hJ_wJ]
  unfold adN
  by_cases hpq : p = q
  · rw [if_pos ⟨rfl, hpq⟩, hpq, if_pos rfl, Int.natCast_add]
  · rw [if_neg (fun z => hpq z.2), if_neg (fun e => hpq (getD_inj o hp hq e))]; exact x p hp
set_option maxHeartbeats 1000000 in
theorem S_spreadFrom {d : Nat} {Q : Option PV → Hp → Prop} {h0 h : Hp} {A : Nat → Int} {f : Nat → Nat → Nat} {L : List Nat} {ta se G : Nat} (x : TW h0 h A f (2 ^ G - 1) L ta se) (hG : A 2 = (G : Int)) {p i v : Nat} {z : Int} {W : Nat → Nat} {D : Nat → Nat} (hp : p < L.length) (hi : i < 12) (ez : hI h (ta + 2) i = z) (ew : ∀ g, g < G → hI h (ta + 1) g = (W g : Int)) (et : hJ h (hR h ta 5) p = w64 (v : Int)) (ev : TV h (hR h ta 6) L D)
    (k : ∀ h', Fp (fun b _ => b = hR h ta 6) h h' → TV h' (hR h ta 6) L (spG f W (okZ z) (L.getD p 0) v G D) → Q none h') :
    WP (d + 3) mX9_spreadFrom 0 [some (.inr (.inr ta)), some (.inl (p : Int)), some (.inl (i : Int)), none, none] [] h Q := by
  have pr := x.2.2.2.2.1
  have ok := pr.2.2.2.1
  have lk := pr.le
  have G6 : G ≤ 6 := by have := pr.2.2.2.2.2.2.2.1.2.2.2.1; omega
  obtain ⟨r5, r6, r56, rk⟩ := x.2.2.2.1.rw
  have s2 := ge_ta x.2.2.2.2.2.2.2.1 r6
  obtain ⟨p1, p2, p3, p4⟩ := i_16 lk hp
  obtain ⟨n0, n1, n2⟩ := rw_ne r6
  simp only [rX9_spreadFrom_0, rX9_spreadFrom_1]
  have main : ∀ n g (e : Hp) (x4 : Option PV), g + n = G → Fp (fun b _ => b = hR h ta 6) h e → TV e (hR h ta 6) L (spG f W (okZ z) (L.getD p 0) v g D) → WP (d + 3) mX9_spreadFrom 2 [some (.inr (.inr ta)), some (.inl (p : Int)), some (.inl (i : Int)), some (.inl (g : Int)), x4] [] e Q := by
    intro n
    induction n with
    | zero =>
      intro g e x4 hg fe te
      have xe := x.fp fe (fun b _ q => q ▸ rw_ta r6)
      obtain ⟨K0, R0, _⟩ := xe.2.2.2.1.ks
      obtain ⟨pp, P0, PK, PG⟩ := xe.2.2.2.2.1.pl
      have KS := xe.2.2.2.2.1.2.1.1
      have eg : g = G := by omega
      subst eg
      rw [rX9_spreadFrom_2]
      simp only [rX9_spreadFrom_3, rX9_spreadFrom_4, rX9_spreadFrom_7, rX9_spreadFrom_10, rX9_spreadFrom_13, rX9_spreadFrom_67, K0, R0, KS, P0, PK, PG, hG, Int.lt_irrefl, Int.toNat_natCast, Int.natCast_nonneg, true_and, and_true, and_self, if_true, if_false, or_true, true_or, or_false, false_or, ne_eq, not_true_eq_false, not_false_eq_true, Nat.reduceLeDiff, Nat.reduceEqDiff, Nat.reduceLT, Nat.reduceAdd, Nat.reduceMul, Nat.reduceSub, Int.reduceLT, Int.reduceLE, Int.reduceEq, Int.reduceToNat, Int.reduceAdd, Int.reduceSub, Int.reduceMul, Int.reduceNeg, Int.cast_ofNat_Int, false_and, and_false]
      exact k e fe te
    | succ n ih =>
      intro g e x4 hg fe te
      have gG : g < G := by omega
      have gG' : (g : Int) < (G : Int) := by omega
      have g6 : (g : Int) < 6 := by omega
      have g1 : w32 ((g : Int) + 1) = ((g + 1 : Nat) : Int) := w32_s (by omega)
      have hn : g + 1 + n = G := by omega
      have xe := x.fp fe (fun b _ q => q ▸ rw_ta r6)
      obtain ⟨K0, R0, R1, R2, R3, R4, K1, K2, _⟩ := xe.2.2.2.1.ks
      obtain ⟨pp, P0, PK, PG⟩ := xe.2.2.2.2.1.pl
      have KS := xe.2.2.2.2.1.2.1.1
      obtain ⟨q, hq, eq, pa⟩ := S_placeAfter xe.2.2.2.2.1 hp (by rw [hG]; exact gG') (all_bt gG)
      obtain ⟨q1, q2, q3, q4⟩ := i_16 lk hq
      have ez' : hI e (ta + 2) i = z := by rw [fe.I (fun c => n2 c.symm)]; exact ez
      have ew' : hI e (ta + 1) g = (W g : Int) := by rw [fe.I (fun c => n1 c.symm)]; exact ew g gG
      have et' : hJ e (hR h ta 5) p = w64 (v : Int) := by rw [fe.J (fun c => r56 c)]; exact et
      have R5 : hR e ta 5 = hR h ta 5 := fe.R ta 5
      have R6 : hR e ta 6 = hR h ta 6 := fe.R ta 6
      have K5 : hK e (hR h ta 5) = (22, 1600) := by rw [fe.K]; exact rk _ r5
      have K6 : hK e (hR h ta 6) = (22, 1600) := by rw [fe.K]; exact rk _ r6
      have dq := te q hq
      rw [rX9_spreadFrom_2]
      simp only [rX9_spreadFrom_3, rX9_spreadFrom_4, rX9_spreadFrom_7, rX9_spreadFrom_10, rX9_spreadFrom_13, rX9_spreadFrom_16, rX9_spreadFrom_17, rX9_spreadFrom_20, rX9_spreadFrom_21, rX9_spreadFrom_22, rX9_spreadFrom_25, rX9_spreadFrom_27, rX9_spreadFrom_28, rX9_spreadFrom_29, rX9_spreadFrom_31, rX9_spreadFrom_34, K0, R0, KS, P0, PK, PG, hG, gG', pa, S_fits xe hi ez' hq, psh_some, Int.toNat_natCast, Int.natCast_nonneg, true_and, and_true, and_self, if_true, if_false, or_true, true_or, or_false, false_or, ne_eq, not_true_eq_false, not_false_eq_true, Nat.reduceLeDiff, Nat.reduceEqDiff, Nat.reduceLT, Nat.reduceAdd, Nat.reduceMul, Nat.reduceSub, Int.reduceLT, Int.reduceLE, Int.reduceEq, Int.reduceToNat, Int.reduceAdd, Int.reduceSub, Int.reduceMul, Int.reduceNeg, Int.cast_ofNat_Int, false_and, and_false]
      have hs : spG f W (okZ z) (L.getD p 0) v (g + 1) D = if okZ z (f g (L.getD p 0)) = true then adN (spG f W (okZ z) (L.getD p 0) v g D) (f g (L.getD p 0)) (v * W g) else spG f W (okZ z) (L.getD p 0) v g D := rfl
      by_cases hc : sees z ((L.getD q 0 % 100 : Nat) : Int) = true
      · rw [if_pos hc, if_neg (by decide)]
        have hc' : okZ z (f g (L.getD p 0)) = true := by rw [← eq]; exact hc
        rw [if_pos hc'] at hs
        simp only [rX9_spreadFrom_37, rX9_spreadFrom_38, rX9_spreadFrom_41, rX9_spreadFrom_43, rX9_spreadFrom_44, rX9_spreadFrom_45, rX9_spreadFrom_46, rX9_spreadFrom_49, rX9_spreadFrom_50, rX9_spreadFrom_51, rX9_spreadFrom_52, rX9_spreadFrom_55, rX9_spreadFrom_56, rX9_spreadFrom_57, rX9_spreadFrom_58, rX9_spreadFrom_59, rX9_spreadFrom_60, rX9_spreadFrom_61, rX9_spreadFrom_64, K0, R1, R5, R6, K1, K5, K6, g6, p2, q2, s2, ew', et', dq, g1, w64_ad, Int.toNat_natCast, Int.natCast_nonneg, true_and, and_true, and_self, if_true, if_false, or_true, true_or, or_false, false_or, ne_eq, not_true_eq_false, not_false_eq_true, Nat.reduceLeDiff, Nat.reduceEqDiff, Nat.reduceLT, Nat.reduceAdd, Nat.reduceMul, Nat.reduceSub, Int.reduceLT, Int.reduceLE, Int.reduceEq, Int.reduceToNat, Int.reduceAdd, Int.reduceSub, Int.reduceMul, Int.reduceNeg, Int.cast_ofNat_Int, false_and, and_false]
        refine ih (g + 1) _ _ hn (fe.wJ (by exact rfl) _) ?_
        rw [hs, ← eq, ← Int.natCast_mul]
        exact te.ad ok hq
      · rw [if_neg hc, if_pos (by trivial)]
        have hc' : ¬ okZ z (f g (L.getD p 0)) = true := by rw [← eq]; exact hc
        rw [if_neg hc'] at hs
        simp only [rX9_spreadFrom_61, rX9_spreadFrom_64, g1]
        refine ih (g + 1) _ _ hn fe ?_
        rw [hs]; exact te
  exact main G 0 h _ (Nat.zero_add _) (Fp.refl _ h) ev
