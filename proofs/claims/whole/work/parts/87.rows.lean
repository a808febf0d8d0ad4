/-! rows, posted -/
theorem t2_ta {ta : Nat} : taS ta (ta + 2) ∧ taS ta (ta + 1) ∧ taS ta (ta + 3) ∧ taS ta (ta + 4) := by unfold taS; omega
theorem S_seeNothing {d : Nat} {Q : Option PV → Hp → Prop} {h0 h : Hp} {A : Nat → Int} {f : Nat → Nat → Nat} {set : Nat} {L : List Nat} {ta se : Nat} (x : TW h0 h A f set L ta se)
    (k : ∀ h', TW h0 h' A f set L ta se → Fp (fun b _ => b = ta + 2) h h' → (∀ i, i < 12 → hI h' (ta + 2) i = -1) → Q none h') : WP (d + 1) mX9_seeNothing 0 [some (.inr (.inr ta))] [] h Q := by
  obtain ⟨K0, R0, R1, R2, R3, R4, K1, K2, _⟩ := x.2.2.2.1.ks
  have g2 : 200 ≤ ta + 2 := by have := x.2.2.2.2.2.2.2.1; omega
  simp only [rX9_seeNothing_0, rX9_seeNothing_1, rX9_seeNothing_4, rX9_seeNothing_5, K0, R2, Int.toNat_natCast, Int.natCast_nonneg, true_and, and_true, and_self, if_true, if_false, or_true, true_or, or_false, false_or, ne_eq, not_true_eq_false, not_false_eq_true, Nat.reduceLeDiff, Nat.reduceEqDiff, Nat.reduceLT, Nat.reduceAdd, Nat.reduceMul, Nat.reduceSub, Int.reduceLT, Int.reduceLE, Int.reduceEq, Int.reduceToNat, Int.reduceAdd, Int.reduceSub, Int.reduceMul, Int.reduceNeg, Int.cast_ofNat_Int, false_and, and_false]
  refine S_fillI (n := 12) g2 K2 (by decide) ?_
  intro h1 f1 z1
  simp only [psh_none, rX9_seeNothing_8]
  exact k h1 (x.fp f1 (fun b _ q => q ▸ t2_ta.1)) f1 z1
theorem w32_99 {z : Int} (h : -1 ≤ z ∧ z ≤ 99) : w32 z = z := w32_i (by omega) (by omega)
theorem i12_n {i l : Nat} (h : i < l) (hl : l ≤ 12) : (i : Int) < (l : Int) ∧ (i : Int) < 12 ∧ (i : Int) < 40 ∧ i < 12 ∧ w32 ((i : Int) + 1) = ((i + 1 : Nat) : Int) := ⟨by omega, by omega, by omega, by omega, w32_s (by omega)⟩
def szZ (z : Nat → Int) (l : Nat) : Nat → Int := fun i => if i < l then z i else -1
theorem S_see {d : Nat} {Q : Option PV → Hp → Prop} {h0 h : Hp} {A : Nat → Int} {f : Nat → Nat → Nat} {set : Nat} {L : List Nat} {ta se : Nat} (x : TW h0 h A f set L ta se) {b l : Nat} {z : Nat → Int} (kb : hK h b = (10, 0)) (rb : hR h b 0 = b + 1) (kb1 : hK h (b + 1) = (22, 40)) (b3 : b + 1 < 314) (sb : hI h b 3 = (l : Int)) (hl : l ≤ 12) (zb : ∀ i, i < l → hJ h (b + 1) i = z i) (zi : ∀ i, i < l → -1 ≤ z i ∧ z i ≤ 99)
    (k : ∀ h', TW h0 h' A f set L ta se → Fp (fun b _ => b = ta + 2) h h' → (∀ i, i < 12 → hI h' (ta + 2) i = szZ z l i) → Q none h') : WP (d + 2) mX9_see 0 [some (.inr (.inr ta)), some (.inr (.inr b)), none] [] h Q := by
  have t3 := x.2.2.2.2.2.2.2.1
  have g2 : 200 ≤ ta + 2 := by omega
  have nb : ¬ (b = ta + 2) := by omega
  have nb1 : ¬ (b + 1 = ta + 2) := by omega
  obtain ⟨K0, _⟩ := x.2.2.2.1.ks
  simp only [rX9_see_0, rX9_see_1, K0, Int.toNat_natCast, Int.natCast_nonneg, true_and, and_true, and_self, if_true, if_false, or_true, true_or, or_false, false_or, ne_eq, not_true_eq_false, not_false_eq_true, Nat.reduceLeDiff, Nat.reduceEqDiff, Nat.reduceLT, Nat.reduceAdd, Nat.reduceMul, Nat.reduceSub, Int.reduceLT, Int.reduceLE, Int.reduceEq, Int.reduceToNat, Int.reduceAdd, Int.reduceSub, Int.reduceMul, Int.reduceNeg, Int.cast_ofNat_Int, false_and, and_false]
  refine S_seeNothing x ?_
  intro h1 x1 f1 z1
  simp only [psh_none, rX9_see_4, rX9_see_5]
  refine wp_for (fun i e => WP (d + 2) mX9_see 6 [some (.inr (.inr ta)), some (.inr (.inr b)), some (.inl (i : Int))] [] e Q) (fun i e => Fp (fun b _ => b = ta + 2) h e ∧ ∀ q, q < 12 → hI e (ta + 2) q = if q < i then z q else -1) l ?_ ?_ 0 h1 (Nat.zero_le _) ⟨f1, fun q hq => z1 q hq⟩
  · rintro i e hi ⟨fe, ze⟩ kk
    have xe := x.fp fe (fun b _ q => q ▸ t2_ta.1)
    obtain ⟨K0e, R0, R1, R2, R3, R4, K1, K2, _⟩ := xe.2.2.2.1.ks
    obtain ⟨c1, c2, c3, c4, c5⟩ := i12_n hi hl
    have kb' : hK e b = (10, 0) := by rw [fe.K]; exact kb
    have rb' : hR e b 0 = b + 1 := by rw [fe.R]; exact rb
    have kb1' : hK e (b + 1) = (22, 40) := by rw [fe.K]; exact kb1
    have sb' : hI e b 3 = (l : Int) := by rw [fe.I nb]; exact sb
    have zb' : hJ e (b + 1) i = z i := by rw [fe.J nb1]; exact zb i hi
    have wz := w32_99 (zi i hi)
    rw [rX9_see_6]
    simp only [rX9_see_7, rX9_see_8, rX9_see_11, rX9_see_14, rX9_see_15, rX9_see_17, rX9_see_20, rX9_see_21, rX9_see_24, rX9_see_25, rX9_see_26, rX9_see_29, rX9_see_30, rX9_see_31, rX9_see_32, rX9_see_33, rX9_see_36, K0e, R2, K2, kb', rb', kb1', sb', zb', wz, c1, c2, c3, c5, g2, Int.toNat_natCast, Int.natCast_nonneg, true_and, and_true, and_self, if_true, if_false, or_true, true_or, or_false, false_or, ne_eq, not_true_eq_false, not_false_eq_true, Nat.reduceLeDiff, Nat.reduceEqDiff, Nat.reduceLT, Nat.reduceAdd, Nat.reduceMul, Nat.reduceSub, Int.reduceLT, Int.reduceLE, Int.reduceEq, Int.reduceToNat, Int.reduceAdd, Int.reduceSub, Int.reduceMul, Int.reduceNeg, Int.cast_ofNat_Int, false_and, and_false]
    refine kk _ ⟨fe.wI (by exact rfl) _, fun q hq => ?_⟩
    rw [hI_wI]
    by_cases hqi : q = i
    · rw [if_pos ⟨rfl, hqi⟩, if_pos (by rw [hqi]; exact Nat.lt_succ_self i), hqi]
    · rw [if_neg (fun c => hqi c.2), ze q hq]
      by_cases h5 : q < i
      · rw [if_pos h5, if_pos (Nat.lt_succ_of_lt h5)]
      · rw [if_neg h5, if_neg (fun c => h5 (lt_one c hqi))]
  · rintro e ⟨fe, ze⟩
    have kb' : hK e b = (10, 0) := by rw [fe.K]; exact kb
    have sb' : hI e b 3 = (l : Int) := by rw [fe.I nb]; exact sb
    rw [rX9_see_6]
    simp only [rX9_see_7, rX9_see_8, rX9_see_11, rX9_see_39, kb', sb', Int.lt_irrefl, Int.toNat_natCast, Int.natCast_nonneg, true_and, and_true, and_self, if_true, if_false, or_true, true_or, or_false, false_or, ne_eq, not_true_eq_false, not_false_eq_true, Nat.reduceLeDiff, Nat.reduceEqDiff, Nat.reduceLT, Nat.reduceAdd, Nat.reduceMul, Nat.reduceSub, Int.reduceLT, Int.reduceLE, Int.reduceEq, Int.reduceToNat, Int.reduceAdd, Int.reduceSub, Int.reduceMul, Int.reduceNeg, Int.cast_ofNat_Int, false_and, and_false]
    exact k e (x.fp fe (fun b _ q => q ▸ t2_ta.1)) fe ze
theorem PR.mem {h : Hp} {se : Nat} {A : Nat → Int} {f : Nat → Nat → Nat} {G : Nat} {L : List Nat} (x : PR h se A f (2 ^ G - 1) L) (hG : A 2 = (G : Int)) : ∀ g p, g < G → p < L.length → f g (L.getD p 0) ∈ L := by
  intro g p hg hp
  obtain ⟨q, hq, e, _⟩ := S_placeAfter x hp (by rw [hG]; exact Int.ofNat_lt.2 hg) (all_bt hg)
  rw [← e]
  exact getD_mem hq
theorem pow12 {G n : Nat} (hG : G ≤ 6) (hn : n ≤ 12) : smW (fun _ => 1) G ^ n < 9223372036854775808 := by
  rw [smW_1]
  exact Nat.lt_of_le_of_lt (pow_b hG (by decide) hn) (by decide)
theorem t12_ne {ta : Nat} : ¬ (ta + 2 = ta + 1) := by omega
theorem S_spreadAlike {d : Nat} {Q : Option PV → Hp → Prop} {h0 h : Hp} {A : Nat → Int} {f : Nat → Nat → Nat} {L : List Nat} {ta se G N : Nat} (x : TW h0 h A f (2 ^ G - 1) L ta se) (hG : A 2 = (G : Int)) (hN12 : N ≤ 12) {z : Nat → Int} (ez : ∀ i, i < 12 → hI h (ta + 2) i = z i)
    (k : ∀ h', TW h0 h' A f (2 ^ G - 1) L ta se → TC h' ta L (spN f (fun _ => 1) (fun i => okZ (z i)) L G N) → Q none h') :
    WP (d + 6) mX9_spreadAlike 0 [some (.inr (.inr ta)), some (.inl (N : Int))] [] h Q := by
  obtain ⟨K0, R0, R1, R2, R3, R4, K1, K2, _⟩ := x.2.2.2.1.ks
  have g1 : 200 ≤ ta + 1 := by have := x.2.2.2.2.2.2.2.1; omega
  have G6 : G ≤ 6 := by have := x.2.2.2.2.1.2.2.2.2.2.2.2.1.2.2.2.1; omega
  simp only [rX9_spreadAlike_0, rX9_spreadAlike_1, rX9_spreadAlike_4, rX9_spreadAlike_5, K0, R1, Int.toNat_natCast, Int.natCast_nonneg, true_and, and_true, and_self, if_true, if_false, or_true, true_or, or_false, false_or, ne_eq, not_true_eq_false, not_false_eq_true, Nat.reduceLeDiff, Nat.reduceEqDiff, Nat.reduceLT, Nat.reduceAdd, Nat.reduceMul, Nat.reduceSub, Int.reduceLT, Int.reduceLE, Int.reduceEq, Int.reduceToNat, Int.reduceAdd, Int.reduceSub, Int.reduceMul, Int.reduceNeg, Int.cast_ofNat_Int, false_and, and_false]
  refine S_fillI (n := 6) g1 K1 (by decide) ?_
  intro h1 f1 z1
  have x1 := x.fp f1 (fun b _ q => q ▸ t2_ta.2.1)
  obtain ⟨K01, _⟩ := x1.2.2.2.1.ks
  simp only [psh_none, rX9_spreadAlike_8, rX9_spreadAlike_9, rX9_spreadAlike_10, K01, Int.toNat_natCast, Int.natCast_nonneg, true_and, and_true, and_self, if_true, if_false, or_true, true_or, or_false, false_or, ne_eq, not_true_eq_false, not_false_eq_true, Nat.reduceLeDiff, Nat.reduceEqDiff, Nat.reduceLT, Nat.reduceAdd, Nat.reduceMul, Nat.reduceSub, Int.reduceLT, Int.reduceLE, Int.reduceEq, Int.reduceToNat, Int.reduceAdd, Int.reduceSub, Int.reduceMul, Int.reduceNeg, Int.cast_ofNat_Int, false_and, and_false]
  refine S_spread (z := z) (W := fun _ => 1) x1 hG hN12 (fun i hi => by rw [f1.I t12_ne]; exact ez i hi) (fun g hg => z1 g (Nat.lt_of_lt_of_le hg G6)) (x1.2.2.2.2.1.mem hG) (fun n hn => pow12 G6 (Nat.le_trans hn hN12)) ?_
  intro h2 x2 t2
  simp only [psh_none, rX9_spreadAlike_13]
  exact k h2 x2 t2
theorem S_totalOfAll {d : Nat} {Q : Option PV → Hp → Prop} {h0 h : Hp} {A : Nat → Int} {f : Nat → Nat → Nat} {set : Nat} {L : List Nat} {ta se : Nat} (x : TW h0 h A f set L ta se) {D : Nat → Nat} (tc : TC h ta L D)
    (k : Q (some (.inr (.inl (w64 (smL L D L.length : Int))))) h) : WP d mX9_totalOfAll 0 [some (.inr (.inr ta)), none, none, none] [] h Q := by
  obtain ⟨K0, R0, _⟩ := x.2.2.2.1.ks
  obtain ⟨r5, r6, r56, rk⟩ := x.2.2.2.1.rw
  have K5 := rk _ r5
  have KS := x.2.2.2.2.1.2.1.1
  have len := x.2.2.2.2.1.2.2.1
  have ok := x.2.2.2.2.1.2.2.2.1
  have lk := x.2.2.2.2.1.le
  simp only [rX9_totalOfAll_0, rX9_totalOfAll_1, rX9_totalOfAll_2, rX9_totalOfAll_3]
  have main : ∀ n i, i + n = L.length → WP d mX9_totalOfAll 4 [some (.inr (.inr ta)), some (.inr (.inl (w64 (smL L D i : Int)))), none, some (.inl (i : Int))] [] h Q := by
    intro n
    induction n with
    | zero =>
      intro i hi
      have e : i = L.length := by omega
      subst e
      rw [rX9_totalOfAll_4]
      simp only [rX9_totalOfAll_5, rX9_totalOfAll_6, rX9_totalOfAll_9, rX9_totalOfAll_12, rX9_totalOfAll_30, rX9_totalOfAll_31, K0, R0, KS, len, Int.lt_irrefl, Int.toNat_natCast, Int.natCast_nonneg, true_and, and_true, and_self, if_true, if_false, or_true, true_or, or_false, false_or, ne_eq, not_true_eq_false, not_false_eq_true, Nat.reduceLeDiff, Nat.reduceEqDiff, Nat.reduceLT, Nat.reduceAdd, Nat.reduceMul, Nat.reduceSub, Int.reduceLT, Int.reduceLE, Int.reduceEq, Int.reduceToNat, Int.reduceAdd, Int.reduceSub, Int.reduceMul, Int.reduceNeg, Int.cast_ofNat_Int, false_and, and_false]
      exact k
    | succ n ih =>
      intro i hi
      have il : i < L.length := by omega
      obtain ⟨c1, c2, c3, c4⟩ := i_16 lk il
      have t := tc i il
      have go := ih (i + 1) (by omega)
      have e : w64 (w64 (smL L D i : Int) + w64 (D (L.getD i 0) : Int)) = w64 (smL L D (i + 1) : Int) := by
        rw [w64_add2, ← Int.natCast_add]; rfl
      rw [rX9_totalOfAll_4]
      simp only [rX9_totalOfAll_5, rX9_totalOfAll_6, rX9_totalOfAll_9, rX9_totalOfAll_12, rX9_totalOfAll_15, rX9_totalOfAll_16, rX9_totalOfAll_17, rX9_totalOfAll_20, rX9_totalOfAll_21, rX9_totalOfAll_22, rX9_totalOfAll_23, rX9_totalOfAll_24, rX9_totalOfAll_27, K0, R0, KS, K5, len, c1, c2, c3, t, e, Int.toNat_natCast, Int.natCast_nonneg, true_and, and_true, and_self, if_true, if_false, or_true, true_or, or_false, false_or, ne_eq, not_true_eq_false, not_false_eq_true, Nat.reduceLeDiff, Nat.reduceEqDiff, Nat.reduceLT, Nat.reduceAdd, Nat.reduceMul, Nat.reduceSub, Int.reduceLT, Int.reduceLE, Int.reduceEq, Int.reduceToNat, Int.reduceAdd, Int.reduceSub, Int.reduceMul, Int.reduceNeg, Int.cast_ofNat_Int, false_and, and_false]
      exact go
  have go := main L.length 0 (Nat.zero_add _)
  have e0 : w64 ((smL L D 0 : Nat) : Int) = 0 := w64_0
  rw [e0] at go
  exact go
theorem S_totalWith {d : Nat} {Q : Option PV → Hp → Prop} {h0 h : Hp} {A : Nat → Int} {f : Nat → Nat → Nat} {set : Nat} {L : List Nat} {ta se t : Nat} (x : TW h0 h A f set L ta se) {D : Nat → Nat} (tc : TC h ta L D) (t6 : t < 6)
    (k : Q (some (.inr (.inl (w64 (smT L D t L.length : Int))))) h) : WP (d + 2) mX9_totalWith 0 [some (.inr (.inr ta)), some (.inl (t : Int)), none, none, none] [] h Q := by
  obtain ⟨K0, R0, _⟩ := x.2.2.2.1.ks
  obtain ⟨r5, r6, r56, rk⟩ := x.2.2.2.1.rw
  have K5 := rk _ r5
  have sh := x.2.2.2.2.1.2.1
  have KS := sh.1
  have len := x.2.2.2.2.1.2.2.1
  have ok := x.2.2.2.2.1.2.2.2.1
  have lk := x.2.2.2.2.1.le
  have ord := x.2.2.2.2.1.2.2.2.2.1
  simp only [rX9_totalWith_0, rX9_totalWith_1, rX9_totalWith_2, rX9_totalWith_3]
  have main : ∀ n i, i + n = L.length → WP (d + 2) mX9_totalWith 5 [some (.inr (.inr ta)), some (.inl (t : Int)), some (.inr (.inl (w64 (smT L D t i : Int)))), none, some (.inl (i : Int))] [] h Q := by
    intro n
    induction n with
    | zero =>
      intro i hi
      have e : i = L.length := by omega
      subst e
      rw [rX9_totalWith_5]
      simp only [rX9_totalWith_7, rX9_totalWith_8, rX9_totalWith_11, rX9_totalWith_14, rX9_totalWith_49, rX9_totalWith_50, K0, R0, KS, len, Int.lt_irrefl, Int.toNat_natCast, Int.natCast_nonneg, true_and, and_true, and_self, if_true, if_false, or_true, true_or, or_false, false_or, ne_eq, not_true_eq_false, not_false_eq_true, Nat.reduceLeDiff, Nat.reduceEqDiff, Nat.reduceLT, Nat.reduceAdd, Nat.reduceMul, Nat.reduceSub, Int.reduceLT, Int.reduceLE, Int.reduceEq, Int.reduceToNat, Int.reduceAdd, Int.reduceSub, Int.reduceMul, Int.reduceNeg, Int.cast_ofNat_Int, false_and, and_false]
      exact k
    | succ n ih =>
      intro i hi
      have il : i < L.length := by omega
      obtain ⟨c1, c2, c3, c4⟩ := i_16 lk il
      have gl := getD_lt ok il
      have th : L.getD i 0 / 100 < 2147483648 := by omega
      have tt := tc i il
      have go := ih (i + 1) (by omega)
      have hs : smT L D t (i + 1) = smT L D t i + (if (L.getD i 0 / 100).testBit t = true then D (L.getD i 0) else 0) := rfl
      rw [rX9_totalWith_5]
      simp only [rX9_totalWith_7, rX9_totalWith_8, rX9_totalWith_11, rX9_totalWith_14, rX9_totalWith_17, rX9_totalWith_18, rX9_totalWith_21, rX9_totalWith_23, rX9_totalWith_26, rX9_totalWith_27, rX9_totalWith_30, K0, R0, KS, len, c1, S_thingsAt sh c4 (ord i il) gl, S_has (b := L.getD i 0 / 100) (i := t) th (Nat.lt_trans t6 (by decide)), psh_some, Int.toNat_natCast, Int.natCast_nonneg, true_and, and_true, and_self, if_true, if_false, or_true, true_or, or_false, false_or, ne_eq, not_true_eq_false, not_false_eq_true, Nat.reduceLeDiff, Nat.reduceEqDiff, Nat.reduceLT, Nat.reduceAdd, Nat.reduceMul, Nat.reduceSub, Int.reduceLT, Int.reduceLE, Int.reduceEq, Int.reduceToNat, Int.reduceAdd, Int.reduceSub, Int.reduceMul, Int.reduceNeg, Int.cast_ofNat_Int, false_and, and_false]
      by_cases hb : (L.getD i 0 / 100).testBit t = true
      · have e : w64 (w64 (smT L D t i : Int) + w64 (D (L.getD i 0) : Int)) = w64 (smT L D t (i + 1) : Int) := by
          rw [w64_add2, ← Int.natCast_add, hs, if_pos hb]
        simp only [if_pos hb]
        rw [if_neg (by decide)]
        simp only [rX9_totalWith_33, rX9_totalWith_34, rX9_totalWith_35, rX9_totalWith_38, rX9_totalWith_40, rX9_totalWith_41, rX9_totalWith_42, rX9_totalWith_43, rX9_totalWith_46, K0, K5, c2, c3, tt, e, Int.toNat_natCast, Int.natCast_nonneg, true_and, and_true, and_self, if_true, if_false, or_true, true_or, or_false, false_or, ne_eq, not_true_eq_false, not_false_eq_true, Nat.reduceLeDiff, Nat.reduceEqDiff, Nat.reduceLT, Nat.reduceAdd, Nat.reduceMul, Nat.reduceSub, Int.reduceLT, Int.reduceLE, Int.reduceEq, Int.reduceToNat, Int.reduceAdd, Int.reduceSub, Int.reduceMul, Int.reduceNeg, Int.cast_ofNat_Int, false_and, and_false]
        exact go
      · rw [if_neg hb, Nat.add_zero] at hs
        rw [hs] at go
        simp only [if_neg hb]
        rw [if_pos (by trivial)]
        simp only [rX9_totalWith_43, rX9_totalWith_46, c3]
        exact go
  have go := main L.length 0 (Nat.zero_add _)
  have e0 : w64 ((smT L D t 0 : Nat) : Int) = 0 := w64_0
  rw [e0] at go
  exact go
/-- all states of all goers -/
def fA (σ : AS) : Nat → Nat → Nat := nxt (sA σ) (stA (sA σ))
def GA (σ : AS) : Nat := (sA σ 2).toNat
def LA (σ : AS) : List Nat := Lst (sA σ) (stA (sA σ)) (2 ^ GA σ - 1)
def rwD (σ : AS) (z : Nat → Int) (n : Nat) : Nat → Nat := spN (fA σ) (fun _ => 1) (fun i => okZ (z i)) (LA σ) (GA σ) n
theorem GA_e {σ : AS} (w : WF σ) : sA σ 2 = (GA σ : Int) := (toN w.1.2.2.1).symm
noncomputable def roV (σ : AS) (t n : Int) : Int := if 0 ≤ t ∧ t < sA σ 1 then (if 0 ≤ n ∧ n ≤ 12 then w64 (smT (LA σ) (rwD σ (fun _ => -1) n.toNat) t.toNat (LA σ).length : Int) else -3) else -2
theorem t_6 {t : Nat} {z : Int} (h : (t : Int) < z) (h6 : z ≤ 6) : t < 6 := by omega
theorem C_rows {d : Nat} {σ : AS} {t n : Int} : CSpec (d + 7) mX11_rows [some (.inr (.inr 200)), some (.inl t), some (.inl n), none] σ (.inr (.inl (roV σ t n))) σ := by
  intro h Q x w k
  have m := x.1.1
  unfold roV at k
  simp only [rX11_rows_0, rX11_rows_1, rX11_rows_2, rX11_rows_5, rX11_rows_8, rX11_rows_11, Cs_K200 m, Cs_R200_0 m, Cs_R200_1 m, Cs_R200_2 m, Cs_R200_3 m, Cs_R200_4 m, Cs_R200_5 m, Cs_R200_6 m, Cs_K201 m, Cs_R201_0 m, Cs_R201_1 m, Cs_K202 m, Cs_K203 m, Cs_K211 m, Cs_R211_0 m, Cs_R211_1 m, Cs_K212 m, Cs_K213 m, Cs_K214 m, Cs_R214_0 m, Cs_R214_1 m, Cs_K215 m, Cs_K216 m, Cs_K217 m, Cs_R217_0 m, Cs_R217_1 m, Cs_K218 m, Cs_K219 m, Cs_K220 m, Cs_R220_0 m, Cs_K221 m, Cs_K262 m, Cs_K271 m, Cs_R271_0 m, Cs_R271_1 m, Cs_K272 m, Cs_K276 m, Cs_R272_0 m, Cs_R276_0 m, Cs_K273 m, Cs_R273_0 m, Cs_R273_1 m, Cs_K274 m, Cs_K275 m, Cs_K277 m, Cs_R277_0 m, Cs_R277_1 m, Cs_K278 m, Cs_K279 m, Cs_R262_0 m, Cs_K263 m, Cs_R263_0 m, Cs_K264 m, Cs_R262_1 m, Cs_K265 m, Cs_R265_0 m, Cs_K266 m, Cs_R262_2 m, Cs_K267 m, Cs_R267_0 m, Cs_K268 m, Cs_R262_3 m, Cs_K269 m, Cs_R269_0 m, Cs_K270 m, Int.toNat_natCast, Int.natCast_nonneg, true_and, and_true, and_self, if_true, if_false, or_true, true_or, or_false, false_or, ne_eq, not_true_eq_false, not_false_eq_true, Nat.reduceLeDiff, Nat.reduceEqDiff, Nat.reduceLT, Nat.reduceAdd, Nat.reduceMul, Nat.reduceSub, Int.reduceLT, Int.reduceLE, Int.reduceEq, Int.reduceToNat, Int.reduceAdd, Int.reduceSub, Int.reduceMul, Int.reduceNeg, Int.cast_ofNat_Int, false_and, and_false, S_cThing (x.cp w), psh_some]
  by_cases h1 : 0 ≤ t ∧ t < sA σ 1
  · simp only [if_pos h1] at k
    rw [if_pos h1, if_neg (by decide), rX11_rows_12, rX11_rows_13]
    obtain ⟨tt, rfl⟩ := Int.eq_ofNat_of_zero_le h1.1
    have t6 := t_6 h1.2 w.1.2.1
    simp only [Int.toNat_natCast] at k
    have bad : ¬ (0 ≤ n ∧ n ≤ 12) → WP (d + 7) mX11_rows 22 [some (.inr (.inr 200)), some (.inl (tt : Int)), some (.inl n), none] [] h Q := by
      intro hn
      simp only [if_neg hn] at k
      simp only [rX11_rows_22, rX11_rows_25]
      exact k h x (Cfr.refl h)
    by_cases h2 : n < 0
    · rw [if_pos h2]; exact bad (fun c => absurd c.1 (Int.not_le.2 h2))
    · rw [if_neg h2]
      simp only [rX11_rows_16, rX11_rows_17, rX11_rows_19]
      by_cases h3 : 12 < n
      · rw [if_pos h3]; exact bad (fun c => absurd c.2 (Int.not_le.2 h3))
      · rw [if_neg h3]
        simp only [if_pos (show 0 ≤ n ∧ n ≤ 12 from ⟨Int.not_lt.1 h2, Int.not_lt.1 h3⟩)] at k
        obtain ⟨N, rfl⟩ := Int.eq_ofNat_of_zero_le (Int.not_lt.1 h2)
        have N12 : N ≤ 12 := Int.ofNat_le.1 (Int.not_lt.1 h3)
        simp only [Int.toNat_natCast] at k
        simp only [rX11_rows_26, rX11_rows_27, Cs_K200 m, Cs_R200_0 m, Cs_R200_1 m, Cs_R200_2 m, Cs_R200_3 m, Cs_R200_4 m, Cs_R200_5 m, Cs_R200_6 m, Cs_K201 m, Cs_R201_0 m, Cs_R201_1 m, Cs_K202 m, Cs_K203 m, Cs_K211 m, Cs_R211_0 m, Cs_R211_1 m, Cs_K212 m, Cs_K213 m, Cs_K214 m, Cs_R214_0 m, Cs_R214_1 m, Cs_K215 m, Cs_K216 m, Cs_K217 m, Cs_R217_0 m, Cs_R217_1 m, Cs_K218 m, Cs_K219 m, Cs_K220 m, Cs_R220_0 m, Cs_K221 m, Cs_K262 m, Cs_K271 m, Cs_R271_0 m, Cs_R271_1 m, Cs_K272 m, Cs_K276 m, Cs_R272_0 m, Cs_R276_0 m, Cs_K273 m, Cs_R273_0 m, Cs_R273_1 m, Cs_K274 m, Cs_K275 m, Cs_K277 m, Cs_R277_0 m, Cs_R277_1 m, Cs_K278 m, Cs_K279 m, Cs_R262_0 m, Cs_K263 m, Cs_R263_0 m, Cs_K264 m, Cs_R262_1 m, Cs_K265 m, Cs_R265_0 m, Cs_K266 m, Cs_R262_2 m, Cs_K267 m, Cs_R267_0 m, Cs_K268 m, Cs_R262_3 m, Cs_K269 m, Cs_R269_0 m, Cs_K270 m, Int.toNat_natCast, Int.natCast_nonneg, true_and, and_true, and_self, if_true, if_false, or_true, true_or, or_false, false_or, ne_eq, not_true_eq_false, not_false_eq_true, Nat.reduceLeDiff, Nat.reduceEqDiff, Nat.reduceLT, Nat.reduceAdd, Nat.reduceMul, Nat.reduceSub, Int.reduceLT, Int.reduceLE, Int.reduceEq, Int.reduceToNat, Int.reduceAdd, Int.reduceSub, Int.reduceMul, Int.reduceNeg, Int.cast_ofNat_Int, false_and, and_false]
        refine S_tally x w ?_
        intro h1' ta se th c1
        have tw := th.tw
        obtain ⟨K0, _⟩ := tw.2.2.2.1.ks
        simp only [psh_some, rX11_rows_30, rX11_rows_31, rX11_rows_32, K0, Int.toNat_natCast, Int.natCast_nonneg, true_and, and_true, and_self, if_true, if_false, or_true, true_or, or_false, false_or, ne_eq, not_true_eq_false, not_false_eq_true, Nat.reduceLeDiff, Nat.reduceEqDiff, Nat.reduceLT, Nat.reduceAdd, Nat.reduceMul, Nat.reduceSub, Int.reduceLT, Int.reduceLE, Int.reduceEq, Int.reduceToNat, Int.reduceAdd, Int.reduceSub, Int.reduceMul, Int.reduceNeg, Int.cast_ofNat_Int, false_and, and_false]
        refine S_seeNothing (d := d + 5) tw ?_
        intro h2' tw2 _ z2
        obtain ⟨K02, _⟩ := tw2.2.2.2.1.ks
        simp only [psh_none, rX11_rows_35, rX11_rows_36, rX11_rows_37, K02, Int.toNat_natCast, Int.natCast_nonneg, true_and, and_true, and_self, if_true, if_false, or_true, true_or, or_false, false_or, ne_eq, not_true_eq_false, not_false_eq_true, Nat.reduceLeDiff, Nat.reduceEqDiff, Nat.reduceLT, Nat.reduceAdd, Nat.reduceMul, Nat.reduceSub, Int.reduceLT, Int.reduceLE, Int.reduceEq, Int.reduceToNat, Int.reduceAdd, Int.reduceSub, Int.reduceMul, Int.reduceNeg, Int.cast_ofNat_Int, false_and, and_false]
        refine S_spreadAlike (d := d) (G := GA σ) (z := fun _ => -1) tw2 (GA_e w) N12 z2 ?_
        intro h3' tw3 tc3
        obtain ⟨K03, _⟩ := tw3.2.2.2.1.ks
        simp only [psh_none, rX11_rows_40, rX11_rows_41, rX11_rows_42, K03, Int.toNat_natCast, Int.natCast_nonneg, true_and, and_true, and_self, if_true, if_false, or_true, true_or, or_false, false_or, ne_eq, not_true_eq_false, not_false_eq_true, Nat.reduceLeDiff, Nat.reduceEqDiff, Nat.reduceLT, Nat.reduceAdd, Nat.reduceMul, Nat.reduceSub, Int.reduceLT, Int.reduceLE, Int.reduceEq, Int.reduceToNat, Int.reduceAdd, Int.reduceSub, Int.reduceMul, Int.reduceNeg, Int.cast_ofNat_Int, false_and, and_false]
        refine S_totalWith (d := d + 4) tw3 tc3 t6 ?_
        simp only [psh_some, rX11_rows_45]
        obtain ⟨x3, c3⟩ := th.done tw3
        exact k h3' x3 (c1.trans c3).1
  · simp only [if_neg h1] at k
    rw [if_neg h1, if_pos (by trivial)]
    exact k h x (Cfr.refl h)
theorem poV_0 {σ : AS} {t : Int} (h : poV σ t = 0) : ∃ j l : Nat, t = (j : Int) ∧ j < 4 ∧ sSo σ j ≠ -1 ∧ sM σ j = (l : Int) ∧ 1 ≤ l ∧ l ≤ 12 ∧ ∀ i, i < l → -1 ≤ sB σ (40 * j + i) ∧ sB σ (40 * j + i) ≤ 99 := by
  unfold poV at h
  by_cases h2 : 0 ≤ t ∧ t < 4
  · rw [if_pos h2] at h
    by_cases h3 : sSo σ t.toNat = -1
    · rw [if_pos h3] at h; exact absurd h (by decide)
    · rw [if_neg h3] at h
      by_cases h4 : 1 ≤ sM σ t.toNat ∧ sM σ t.toNat ≤ 12
      · rw [if_pos h4] at h
        by_cases h5 : poB (sB σ) t.toNat (sM σ t.toNat).toNat = true
        · refine ⟨t.toNat, (sM σ t.toNat).toNat, by omega, by omega, h3, by omega, by omega, by omega, fun i hi => ?_⟩
          unfold poB at h5
          rw [List.all_eq_true] at h5
          exact of_decide_eq_true (h5 i (List.mem_range.2 hi))
        · rw [if_neg h5] at h; exact absurd h (by decide)
      · rw [if_neg h4] at h; exact absurd h (by decide)
  · rw [if_neg h2] at h; exact absurd h (by decide)
/-- the seen numbers of a tray -/
def tzZ (σ : AS) (t : Nat) : Nat → Int := szZ (trZ σ t) (sM σ t).toNat
noncomputable def ptV (σ : AS) (t : Int) : Int := if poV σ t = 0 then w64 (smL (LA σ) (rwD σ (tzZ σ t.toNat) (sM σ t.toNat).toNat) (LA σ).length : Int) else poV σ t
theorem j_n {j : Nat} (h : j < 4) : (j : Int) < 4 ∧ 264 + 2 * j = 263 + 2 * j + 1 ∧ 263 + 2 * j + 1 < 314 := by omega
/-- the tray that a tally reads -/
theorem tray_at {h : Hp} {σ : AS} (x : CRep h σ) {j l : Nat} (j4 : j < 4) (ns : sSo σ j ≠ -1) (el : sM σ j = (l : Int)) : hR h 262 j = 263 + 2 * j ∧ hK h (263 + 2 * j) = (10, 0) ∧ hR h (263 + 2 * j) 0 = 263 + 2 * j + 1 ∧ hK h (263 + 2 * j + 1) = (22, 40) ∧ hI h (263 + 2 * j) 3 = (l : Int) ∧ ∀ i, i < l → hJ h (263 + 2 * j + 1) i = trZ σ j i := by
  obtain ⟨r1, r2, r3, r4⟩ := Cs_tray x.1.1 j4
  obtain ⟨y1, y2⟩ := x.1.2.2.2.2.2.1 j j4
  obtain ⟨z1, z2, z3⟩ := y2 ns
  rw [(j_n j4).2.1] at r3 r4 z3
  rw [el] at z2 z3
  exact ⟨r1, r2, r3, r4, z2, z3⟩
theorem C_posted {d : Nat} {σ : AS} {t : Int} : CSpec (d + 7) mX11_posted [some (.inr (.inr 200)), some (.inl t), none, none] σ (.inr (.inl (ptV σ t))) σ := by
  intro h Q x w k
  have m := x.1.1
  unfold ptV at k
  simp only [rX11_posted_0, rX11_posted_1, rX11_posted_2, Cs_K200 m, Cs_R200_0 m, Cs_R200_1 m, Cs_R200_2 m, Cs_R200_3 m, Cs_R200_4 m, Cs_R200_5 m, Cs_R200_6 m, Cs_K201 m, Cs_R201_0 m, Cs_R201_1 m, Cs_K202 m, Cs_K203 m, Cs_K211 m, Cs_R211_0 m, Cs_R211_1 m, Cs_K212 m, Cs_K213 m, Cs_K214 m, Cs_R214_0 m, Cs_R214_1 m, Cs_K215 m, Cs_K216 m, Cs_K217 m, Cs_R217_0 m, Cs_R217_1 m, Cs_K218 m, Cs_K219 m, Cs_K220 m, Cs_R220_0 m, Cs_K221 m, Cs_K262 m, Cs_K271 m, Cs_R271_0 m, Cs_R271_1 m, Cs_K272 m, Cs_K276 m, Cs_R272_0 m, Cs_R276_0 m, Cs_K273 m, Cs_R273_0 m, Cs_R273_1 m, Cs_K274 m, Cs_K275 m, Cs_K277 m, Cs_R277_0 m, Cs_R277_1 m, Cs_K278 m, Cs_K279 m, Cs_R262_0 m, Cs_K263 m, Cs_R263_0 m, Cs_K264 m, Cs_R262_1 m, Cs_K265 m, Cs_R265_0 m, Cs_K266 m, Cs_R262_2 m, Cs_K267 m, Cs_R267_0 m, Cs_K268 m, Cs_R262_3 m, Cs_K269 m, Cs_R269_0 m, Cs_K270 m, Int.toNat_natCast, Int.natCast_nonneg, true_and, and_true, and_self, if_true, if_false, or_true, true_or, or_false, false_or, ne_eq, not_true_eq_false, not_false_eq_true, Nat.reduceLeDiff, Nat.reduceEqDiff, Nat.reduceLT, Nat.reduceAdd, Nat.reduceMul, Nat.reduceSub, Int.reduceLT, Int.reduceLE, Int.reduceEq, Int.reduceToNat, Int.reduceAdd, Int.reduceSub, Int.reduceMul, Int.reduceNeg, Int.cast_ofNat_Int, false_and, and_false]
  refine S_cPosted (d := d + 5) m x.1.2.2.2.2.2.1 ?_
  simp only [psh_some, rX11_posted_5, rX11_posted_6, rX11_posted_7]
  by_cases h0 : poV σ t = 0
  · rw [if_pos h0] at k ⊢
    obtain ⟨j, l, rfl, j4, ns, el, l1, l12, zz⟩ := poV_0 h0
    have j4' := (j_n j4).1
    simp only [Int.toNat_natCast, el] at k
    simp only [h0, rX11_posted_13, rX11_posted_14, Cs_K200 m, Cs_R200_0 m, Cs_R200_1 m, Cs_R200_2 m, Cs_R200_3 m, Cs_R200_4 m, Cs_R200_5 m, Cs_R200_6 m, Cs_K201 m, Cs_R201_0 m, Cs_R201_1 m, Cs_K202 m, Cs_K203 m, Cs_K211 m, Cs_R211_0 m, Cs_R211_1 m, Cs_K212 m, Cs_K213 m, Cs_K214 m, Cs_R214_0 m, Cs_R214_1 m, Cs_K215 m, Cs_K216 m, Cs_K217 m, Cs_R217_0 m, Cs_R217_1 m, Cs_K218 m, Cs_K219 m, Cs_K220 m, Cs_R220_0 m, Cs_K221 m, Cs_K262 m, Cs_K271 m, Cs_R271_0 m, Cs_R271_1 m, Cs_K272 m, Cs_K276 m, Cs_R272_0 m, Cs_R276_0 m, Cs_K273 m, Cs_R273_0 m, Cs_R273_1 m, Cs_K274 m, Cs_K275 m, Cs_K277 m, Cs_R277_0 m, Cs_R277_1 m, Cs_K278 m, Cs_K279 m, Cs_R262_0 m, Cs_K263 m, Cs_R263_0 m, Cs_K264 m, Cs_R262_1 m, Cs_K265 m, Cs_R265_0 m, Cs_K266 m, Cs_R262_2 m, Cs_K267 m, Cs_R267_0 m, Cs_K268 m, Cs_R262_3 m, Cs_K269 m, Cs_R269_0 m, Cs_K270 m, Int.toNat_natCast, Int.natCast_nonneg, true_and, and_true, and_self, if_true, if_false, or_true, true_or, or_false, false_or, ne_eq, not_true_eq_false, not_false_eq_true, Nat.reduceLeDiff, Nat.reduceEqDiff, Nat.reduceLT, Nat.reduceAdd, Nat.reduceMul, Nat.reduceSub, Int.reduceLT, Int.reduceLE, Int.reduceEq, Int.reduceToNat, Int.reduceAdd, Int.reduceSub, Int.reduceMul, Int.reduceNeg, Int.cast_ofNat_Int, false_and, and_false]
    refine S_tally x w ?_
    intro h1' ta se th c1
    have tw := th.tw
    have m1 := th.1.1.1
    obtain ⟨K0, _⟩ := tw.2.2.2.1.ks
    obtain ⟨r1, r2, r3, r4, r5, r6⟩ := tray_at th.1 j4 ns el
    simp only [psh_some, rX11_posted_17, rX11_posted_18, rX11_posted_19, rX11_posted_20, rX11_posted_23, rX11_posted_24, rX11_posted_25, Cs_K200 m1, Cs_R200_0 m1, Cs_R200_1 m1, Cs_R200_2 m1, Cs_R200_3 m1, Cs_R200_4 m1, Cs_R200_5 m1, Cs_R200_6 m1, Cs_K201 m1, Cs_R201_0 m1, Cs_R201_1 m1, Cs_K202 m1, Cs_K203 m1, Cs_K211 m1, Cs_R211_0 m1, Cs_R211_1 m1, Cs_K212 m1, Cs_K213 m1, Cs_K214 m1, Cs_R214_0 m1, Cs_R214_1 m1, Cs_K215 m1, Cs_K216 m1, Cs_K217 m1, Cs_R217_0 m1, Cs_R217_1 m1, Cs_K218 m1, Cs_K219 m1, Cs_K220 m1, Cs_R220_0 m1, Cs_K221 m1, Cs_K262 m1, Cs_K271 m1, Cs_R271_0 m1, Cs_R271_1 m1, Cs_K272 m1, Cs_K276 m1, Cs_R272_0 m1, Cs_R276_0 m1, Cs_K273 m1, Cs_R273_0 m1, Cs_R273_1 m1, Cs_K274 m1, Cs_K275 m1, Cs_K277 m1, Cs_R277_0 m1, Cs_R277_1 m1, Cs_K278 m1, Cs_K279 m1, Cs_R262_0 m1, Cs_K263 m1, Cs_R263_0 m1, Cs_K264 m1, Cs_R262_1 m1, Cs_K265 m1, Cs_R265_0 m1, Cs_K266 m1, Cs_R262_2 m1, Cs_K267 m1, Cs_R267_0 m1, Cs_K268 m1, Cs_R262_3 m1, Cs_K269 m1, Cs_R269_0 m1, Cs_K270 m1, K0, j4', r1, Int.toNat_natCast, Int.natCast_nonneg, true_and, and_true, and_self, if_true, if_false, or_true, true_or, or_false, false_or, ne_eq, not_true_eq_false, not_false_eq_true, Nat.reduceLeDiff, Nat.reduceEqDiff, Nat.reduceLT, Nat.reduceAdd, Nat.reduceMul, Nat.reduceSub, Int.reduceLT, Int.reduceLE, Int.reduceEq, Int.reduceToNat, Int.reduceAdd, Int.reduceSub, Int.reduceMul, Int.reduceNeg, Int.cast_ofNat_Int, false_and, and_false]
    refine S_see (d := d + 4) (z := trZ σ j) tw r2 r3 r4 (j_n j4).2.2 r5 l12 r6 zz ?_
    intro h2' tw2 f2 z2
    obtain ⟨x2, c2⟩ := th.done tw2
    have m2 := x2.1.1
    obtain ⟨q1, q2, q3, q4, q5, q6⟩ := tray_at x2 j4 ns el
    obtain ⟨K02, _⟩ := tw2.2.2.2.1.ks
    simp only [psh_none, rX11_posted_28, rX11_posted_29, rX11_posted_30, rX11_posted_33, rX11_posted_34, rX11_posted_35, rX11_posted_38, Cs_K200 m2, Cs_R200_0 m2, Cs_R200_1 m2, Cs_R200_2 m2, Cs_R200_3 m2, Cs_R200_4 m2, Cs_R200_5 m2, Cs_R200_6 m2, Cs_K201 m2, Cs_R201_0 m2, Cs_R201_1 m2, Cs_K202 m2, Cs_K203 m2, Cs_K211 m2, Cs_R211_0 m2, Cs_R211_1 m2, Cs_K212 m2, Cs_K213 m2, Cs_K214 m2, Cs_R214_0 m2, Cs_R214_1 m2, Cs_K215 m2, Cs_K216 m2, Cs_K217 m2, Cs_R217_0 m2, Cs_R217_1 m2, Cs_K218 m2, Cs_K219 m2, Cs_K220 m2, Cs_R220_0 m2, Cs_K221 m2, Cs_K262 m2, Cs_K271 m2, Cs_R271_0 m2, Cs_R271_1 m2, Cs_K272 m2, Cs_K276 m2, Cs_R272_0 m2, Cs_R276_0 m2, Cs_K273 m2, Cs_R273_0 m2, Cs_R273_1 m2, Cs_K274 m2, Cs_K275 m2, Cs_K277 m2, Cs_R277_0 m2, Cs_R277_1 m2, Cs_K278 m2, Cs_K279 m2, Cs_R262_0 m2, Cs_K263 m2, Cs_R263_0 m2, Cs_K264 m2, Cs_R262_1 m2, Cs_K265 m2, Cs_R265_0 m2, Cs_K266 m2, Cs_R262_2 m2, Cs_K267 m2, Cs_R267_0 m2, Cs_K268 m2, Cs_R262_3 m2, Cs_K269 m2, Cs_R269_0 m2, Cs_K270 m2, K02, j4', q1, q2, q5, Int.toNat_natCast, Int.natCast_nonneg, true_and, and_true, and_self, if_true, if_false, or_true, true_or, or_false, false_or, ne_eq, not_true_eq_false, not_false_eq_true, Nat.reduceLeDiff, Nat.reduceEqDiff, Nat.reduceLT, Nat.reduceAdd, Nat.reduceMul, Nat.reduceSub, Int.reduceLT, Int.reduceLE, Int.reduceEq, Int.reduceToNat, Int.reduceAdd, Int.reduceSub, Int.reduceMul, Int.reduceNeg, Int.cast_ofNat_Int, false_and, and_false]
    refine S_spreadAlike (d := d) (G := GA σ) (z := szZ (trZ σ j) l) tw2 (GA_e w) l12 z2 ?_
    intro h3' tw3 tc3
    obtain ⟨K03, _⟩ := tw3.2.2.2.1.ks
    simp only [psh_none, rX11_posted_41, rX11_posted_42, K03, Int.toNat_natCast, Int.natCast_nonneg, true_and, and_true, and_self, if_true, if_false, or_true, true_or, or_false, false_or, ne_eq, not_true_eq_false, not_false_eq_true, Nat.reduceLeDiff, Nat.reduceEqDiff, Nat.reduceLT, Nat.reduceAdd, Nat.reduceMul, Nat.reduceSub, Int.reduceLT, Int.reduceLE, Int.reduceEq, Int.reduceToNat, Int.reduceAdd, Int.reduceSub, Int.reduceMul, Int.reduceNeg, Int.cast_ofNat_Int, false_and, and_false]
    refine S_totalOfAll (d := d + 6) tw3 tc3 ?_
    simp only [psh_some, rX11_posted_45]
    obtain ⟨x3, c3⟩ := th.done tw3
    have e : tzZ σ j = szZ (trZ σ j) l := by unfold tzZ; rw [el]; rfl
    rw [e] at k
    exact k h3' x3 (c1.trans c3).1
  · rw [if_neg h0] at k ⊢
    simp only [rX11_posted_10, rX11_posted_11, rX11_posted_12]
    exact k h x (Cfr.refl h)
