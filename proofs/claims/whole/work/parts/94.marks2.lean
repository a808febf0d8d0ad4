/-! marks are laid; the first goer -/
def mkP (ta b _k : Nat) : Prop := b = ta + 3 ∨ b = ta + 4
theorem mk_3 {ta k : Nat} : mkP ta (ta + 3) k ∧ mkP ta (ta + 4) k := ⟨Or.inl rfl, Or.inr rfl⟩
theorem mk_i {l j : Nat} (h : j + 1 < l) (hl : l ≤ 12) : (0 : Int) < ((j + 1 : Nat) : Int) ∧ j + 1 ≤ 12 ∧ w32 (((j + 1 : Nat) : Int) + -1) = (j : Int) := ⟨by omega, by omega, by rw [w32_i (by omega) (by omega)]; omega⟩
theorem mk_l {l : Nat} (h1 : 1 ≤ l) (h : l ≤ 12) : w32 ((l : Int) - 1) = ((l - 1 : Nat) : Int) := by rw [w32_i (by omega) (by omega)]; omega
/-- one level of marks -/
def mL (i p : Nat) : Nat → Nat := fun q => if q < p then i else i + 1
set_option maxHeartbeats 1000000 in
theorem mb_inner {d : Nat} {Q : Option PV → Hp → Prop} {h0 h : Hp} {A : Nat → Int} {f : Nat → Nat → Nat} {L : List Nat} {ta se G l i : Nat} {x1 : Option PV} (x : TW h0 h A f (2 ^ G - 1) L ta se) (hG : A 2 = (G : Int)) {z : Nat → Int} (ez : ∀ i, i < 12 → hI h (ta + 2) i = z i) (l12 : l ≤ 12) (hi : i < l)
    (k : ∀ h', Fp (fun b _ => b = ta + 3) h h' → GO h' ta f (okT2 z) G l L (fun _ => i) → WP (d + 5) mX9_markBack 84 [some (.inr (.inr ta)), x1, some (.inl (i : Int)), some (.inl (L.length : Int))] [] h' Q) :
    ∀ n p (e : Hp), p + n = L.length → Fp (fun b _ => b = ta + 3) h e → GO e ta f (okT2 z) G l L (mL i p) → WP (d + 5) mX9_markBack 45 [some (.inr (.inr ta)), x1, some (.inl (i : Int)), some (.inl (p : Int))] [] e Q := by
  have ok := x.2.2.2.2.1.2.2.2.1
  have lk := x.2.2.2.2.1.le
  have g3 : 200 ≤ ta + 3 := by have := x.2.2.2.2.2.2.2.1; omega
  have i31 : i < 31 := by omega
  have n23 : ¬ (ta + 2 = ta + 3) := by omega
  intro n
  induction n with
  | zero =>
    intro p e hp fe ge
    have ep : p = L.length := hp
    subst ep
    have xe := x.fp fe (fun b _ q => q ▸ t2_ta.2.2.1)
    obtain ⟨K0, R0, _⟩ := xe.2.2.2.1.ks
    have KS := xe.2.2.2.2.1.2.1.1
    have len := xe.2.2.2.2.1.2.2.1
    rw [rX9_markBack_45]
    simp only [rX9_markBack_46, rX9_markBack_47, rX9_markBack_50, rX9_markBack_53, K0, R0, KS, len, Int.lt_irrefl, Int.toNat_natCast, Int.natCast_nonneg, true_and, and_true, and_self, if_true, if_false, or_true, true_or, or_false, false_or, ne_eq, not_true_eq_false, not_false_eq_true, Nat.reduceLeDiff, Nat.reduceEqDiff, Nat.reduceLT, Nat.reduceAdd, Nat.reduceMul, Nat.reduceSub, Int.reduceLT, Int.reduceLE, Int.reduceEq, Int.reduceToNat, Int.reduceAdd, Int.reduceSub, Int.reduceMul, Int.reduceNeg, Int.cast_ofNat_Int, false_and, and_false]
    refine k e fe (fun q hq => ?_)
    obtain ⟨b, e1, e2⟩ := ge q hq
    unfold mL at e2
    rw [if_pos hq] at e2
    exact ⟨b, e1, e2⟩
  | succ n ih =>
    intro p e hp fe ge
    have pl : p < L.length := by omega
    have hn : p + 1 + n = L.length := by omega
    have xe := x.fp fe (fun b _ q => q ▸ t2_ta.2.2.1)
    obtain ⟨K0, R0, R1, R2, R3, R4, K1, K2, K3, K4⟩ := xe.2.2.2.1.ks
    have KS := xe.2.2.2.2.1.2.1.1
    have len := xe.2.2.2.2.1.2.2.1
    obtain ⟨p1, p2, p3, p4⟩ := i_16 lk pl
    have ez' : ∀ i, i < 12 → hI e (ta + 2) i = z i := fun i hi => by rw [fe.I n23]; exact ez i hi
    have hm : ∀ q, q < L.length → mL i p q ≤ i + 1 := fun q _ => by unfold mL; split <;> omega
    obtain ⟨b, eb, gb⟩ := ge p pl
    unfold mL at gb
    rw [if_neg (Nat.lt_irrefl p)] at gb
    have as := asR_s (f := f) (ok := okT2 z) (G := G) hi (L.getD p 0)
    have other : ∀ q, q < L.length → q ≠ p → ∃ b : Nat, hI e (ta + 3) q = (b : Int) ∧ GB f (okT2 z) G l (mL i (p + 1) q) (L.getD q 0) b := fun q hq hne => by
      obtain ⟨b, e1, e2⟩ := ge q hq
      refine ⟨b, e1, ?_⟩
      unfold mL at e2 ⊢
      by_cases h5 : q < p
      · rw [if_pos h5] at e2; rw [if_pos (Nat.lt_succ_of_lt h5)]; exact e2
      · rw [if_neg h5] at e2; rw [if_neg (fun c => h5 (lt_one c hne))]; exact e2
    have mp : mL i (p + 1) p = i := if_pos (Nat.lt_succ_self p)
    rw [rX9_markBack_45]
    simp only [rX9_markBack_46, rX9_markBack_47, rX9_markBack_50, rX9_markBack_53, rX9_markBack_56, rX9_markBack_57, rX9_markBack_58, rX9_markBack_59, rX9_markBack_62, rX9_markBack_63, K0, R0, KS, len, p1, S_firstOf xe hG ez' l12 hi ge hm pl, psh_some, Int.toNat_natCast, Int.natCast_nonneg, true_and, and_true, and_self, if_true, if_false, or_true, true_or, or_false, false_or, ne_eq, not_true_eq_false, not_false_eq_true, Nat.reduceLeDiff, Nat.reduceEqDiff, Nat.reduceLT, Nat.reduceAdd, Nat.reduceMul, Nat.reduceSub, Int.reduceLT, Int.reduceLE, Int.reduceEq, Int.reduceToNat, Int.reduceAdd, Int.reduceSub, Int.reduceMul, Int.reduceNeg, Int.cast_ofNat_Int, false_and, and_false]
    by_cases hc : ffR (lead f (okT2 z) G l i (L.getD p 0)) G 0 = -1
    · rw [if_pos hc]
      simp only [rX9_markBack_78, rX9_markBack_81, p3]
      refine ih (p + 1) e hn fe (fun q hq => ?_)
      by_cases hqp : q = p
      · rw [hqp, mp]
        exact ⟨b, eb, GB_not gb (by rw [as]; exact ffR_no.1 hc)⟩
      · exact other q hq hqp
    · rw [if_neg hc]
      have an : anyB (lead f (okT2 z) G l i (L.getD p 0)) G = true := by
        cases e5 : anyB (lead f (okT2 z) G l i (L.getD p 0)) G with
        | true => rfl
        | false => exact absurd (ffR_no.2 e5) hc
      have gs := GB_set l12 hi gb (by rw [as]; exact an)
      simp only [rX9_markBack_66, rX9_markBack_67, rX9_markBack_70, rX9_markBack_71, rX9_markBack_72, rX9_markBack_73, rX9_markBack_74, rX9_markBack_75, rX9_markBack_76, rX9_markBack_77, rX9_markBack_78, rX9_markBack_81, K0, R3, K3, p2, p3, eb, g3, orb_n (a := b) (i := i) (b31 gb.1) i31, Int.toNat_natCast, Int.natCast_nonneg, true_and, and_true, and_self, if_true, if_false, or_true, true_or, or_false, false_or, ne_eq, not_true_eq_false, not_false_eq_true, Nat.reduceLeDiff, Nat.reduceEqDiff, Nat.reduceLT, Nat.reduceAdd, Nat.reduceMul, Nat.reduceSub, Int.reduceLT, Int.reduceLE, Int.reduceEq, Int.reduceToNat, Int.reduceAdd, Int.reduceSub, Int.reduceMul, Int.reduceNeg, Int.cast_ofNat_Int, false_and, and_false]
      refine ih (p + 1) _ hn (fe.wI (by exact rfl) _) (fun q hq => ?_)
      by_cases hqp : q = p
      · rw [hqp, mp]
        exact ⟨b ||| 2 ^ i, by rw [hI_wI, if_pos ⟨rfl, rfl⟩], gs⟩
      · rw [hI_wI, if_neg (fun c => hqp c.2)]
        exact other q hq hqp
theorem mk_ta {ta b k : Nat} (q : mkP ta b k) : taS ta b := by unfold mkP at q; unfold taS; omega
theorem mk_no {ta k : Nat} : ¬ mkP ta (ta + 2) k := by unfold mkP; omega
set_option maxHeartbeats 1000000 in
theorem S_markBack {d : Nat} {Q : Option PV → Hp → Prop} {h0 h : Hp} {A : Nat → Int} {f : Nat → Nat → Nat} {L : List Nat} {ta se G l : Nat} (x : TW h0 h A f (2 ^ G - 1) L ta se) (hG : A 2 = (G : Int)) {z : Nat → Int} (ez : ∀ i, i < 12 → hI h (ta + 2) i = z i) (l12 : l ≤ 12) (l1 : 1 ≤ l)
    (k : ∀ h', Fp (mkP ta) h h' → GO h' ta f (okT2 z) G l L (fun _ => 1) → (∀ p, p < L.length → hI h' (ta + 4) p = 0) → Q none h') :
    WP (d + 5) mX9_markBack 0 [some (.inr (.inr ta)), some (.inl (l : Int)), none, none] [] h Q := by
  have ok := x.2.2.2.2.1.2.2.2.1
  have lk := x.2.2.2.2.1.le
  have g3 : 200 ≤ ta + 3 := by have := x.2.2.2.2.2.2.2.1; omega
  have g4 : 200 ≤ ta + 4 := by omega
  have n34 : ¬ (ta + 3 = ta + 4) := by omega
  have n43 : ¬ (ta + 4 = ta + 3) := by omega
  have s13 := sh13 l12
  simp only [rX9_markBack_0, rX9_markBack_1]
  refine wp_for (fun i e => WP (d + 5) mX9_markBack 2 [some (.inr (.inr ta)), some (.inl (l : Int)), some (.inl (i : Int)), none] [] e Q) (fun i e => Fp (mkP ta) h e ∧ ∀ p, p < i → hI e (ta + 3) p = ((2 ^ l : Nat) : Int) ∧ hI e (ta + 4) p = 0) L.length ?_ ?_ 0 h (Nat.zero_le _) ⟨Fp.refl _ h, fun p hp => absurd hp (Nat.not_lt_zero _)⟩
  · rintro i e hi ⟨fe, ze⟩ kk
    have xe := x.fp fe (fun b k q => mk_ta q)
    obtain ⟨K0, R0, R1, R2, R3, R4, K1, K2, K3, K4⟩ := xe.2.2.2.1.ks
    have KS := xe.2.2.2.2.1.2.1.1
    have len := xe.2.2.2.2.1.2.2.1
    obtain ⟨c1, c2, c3, c4⟩ := i_16 lk hi
    rw [rX9_markBack_2]
    simp only [rX9_markBack_3, rX9_markBack_4, rX9_markBack_7, rX9_markBack_10, rX9_markBack_13, rX9_markBack_14, rX9_markBack_17, rX9_markBack_18, rX9_markBack_19, rX9_markBack_20, rX9_markBack_21, rX9_markBack_22, rX9_markBack_23, rX9_markBack_26, rX9_markBack_27, rX9_markBack_28, rX9_markBack_29, rX9_markBack_32, hN_wI, hN_wJ, hN_wR, hS_wI, hS_wJ, hS_wR, hK_wI, hK_wJ, hK_wR, hI_wI, hI_wJ, hI_wR, hJ_wI, hJ_wJ, hJ_wR, hR_wI, hR_wJ, hR_wR, hN_nw, hS_nw, hK_nw, hI_nw, hJ_nw, hR_nw, psh_some, psh_none, K0, R0, R3, R4, K3, K4, KS, len, c1, c2, c3, g3, g4, s13.1, Int.toNat_natCast, Int.natCast_nonneg, true_and, and_true, and_self, if_true, if_false, or_true, true_or, or_false, false_or, ne_eq, not_true_eq_false, not_false_eq_true, Nat.reduceLeDiff, Nat.reduceEqDiff, Nat.reduceLT, Nat.reduceAdd, Nat.reduceMul, Nat.reduceSub, Int.reduceLT, Int.reduceLE, Int.reduceEq, Int.reduceToNat, Int.reduceAdd, Int.reduceSub, Int.reduceMul, Int.reduceNeg, Int.cast_ofNat_Int, false_and, and_false]
    refine kk _ ⟨(fe.wI mk_3.1 _).wI mk_3.2 _, fun p hp => ?_⟩
    by_cases hpi : p = i
    · subst hpi
      exact ⟨by rw [hI_wI, if_neg (fun c => n34 c.1), hI_wI, if_pos ⟨rfl, rfl⟩], by rw [hI_wI, if_pos ⟨rfl, rfl⟩]⟩
    · obtain ⟨u1, u2⟩ := ze p (lt_one hp hpi)
      exact ⟨by rw [hI_wI, if_neg (fun c => hpi c.2), hI_wI, if_neg (fun c => hpi c.2)]; exact u1, by rw [hI_wI, if_neg (fun c => hpi c.2), hI_wI, if_neg (fun c => hpi c.2)]; exact u2⟩
  · rintro h1 ⟨f1, z1⟩
    have x1 := x.fp f1 (fun b k q => mk_ta q)
    obtain ⟨K0, R0, _⟩ := x1.2.2.2.1.ks
    have KS := x1.2.2.2.2.1.2.1.1
    have len := x1.2.2.2.2.1.2.2.1
    have go1 : GO h1 ta f (okT2 z) G l L (fun _ => l) := fun p hp => ⟨2 ^ l, (z1 p hp).1, GB_top l12⟩
    have c1 : ∀ p, p < L.length → hI h1 (ta + 4) p = 0 := fun p hp => (z1 p hp).2
    rw [rX9_markBack_2]
    simp only [rX9_markBack_3, rX9_markBack_4, rX9_markBack_7, rX9_markBack_10, rX9_markBack_35, rX9_markBack_36, rX9_markBack_37, rX9_markBack_38, K0, R0, KS, len, Int.lt_irrefl, mk_l l1 l12, Int.toNat_natCast, Int.natCast_nonneg, true_and, and_true, and_self, if_true, if_false, or_true, true_or, or_false, false_or, ne_eq, not_true_eq_false, not_false_eq_true, Nat.reduceLeDiff, Nat.reduceEqDiff, Nat.reduceLT, Nat.reduceAdd, Nat.reduceMul, Nat.reduceSub, Int.reduceLT, Int.reduceLE, Int.reduceEq, Int.reduceToNat, Int.reduceAdd, Int.reduceSub, Int.reduceMul, Int.reduceNeg, Int.cast_ofNat_Int, false_and, and_false]
    have main : ∀ j (e : Hp) (y3 : Option PV), j < l → Fp (mkP ta) h e → GO e ta f (okT2 z) G l L (fun _ => j + 1) → (∀ p, p < L.length → hI e (ta + 4) p = 0) → WP (d + 5) mX9_markBack 39 [some (.inr (.inr ta)), some (.inl (l : Int)), some (.inl (j : Int)), y3] [] e Q := by
      intro j
      induction j with
      | zero =>
        intro e y3 hj fe ge ce
        rw [rX9_markBack_39]
        simp only [rX9_markBack_40, rX9_markBack_90, Int.natCast_zero, Int.lt_irrefl, if_false]
        exact k e fe ge ce
      | succ j ih =>
        intro e y3 hj fe ge ce
        obtain ⟨j0, j12, j1⟩ := mk_i hj l12
        have xe := x.fp fe (fun b k q => mk_ta q)
        rw [rX9_markBack_39]
        simp only [rX9_markBack_40, rX9_markBack_43, rX9_markBack_44, j0, if_true]
        refine mb_inner (z := z) xe hG (fun i hi => by rw [fe.I mk_no]; exact ez i hi) l12 hj ?_ L.length 0 e (Nat.zero_add _) (Fp.refl _ e) (fun q hq => ?_)
        · intro e2 f2 g2
          simp only [rX9_markBack_84, rX9_markBack_87, j1]
          exact ih e2 _ (Nat.lt_of_succ_lt hj) (fe.trans (f2.mono (fun b _ q => Or.inl q))) g2 (fun p hp => by rw [f2.I n43]; exact ce p hp)
        · obtain ⟨b, e1, e2⟩ := ge q hq
          refine ⟨b, e1, ?_⟩
          unfold mL
          rw [if_neg (Nat.not_lt_zero _)]
          exact e2
    obtain ⟨j, hj⟩ : ∃ j, l = j + 1 := ⟨l - 1, by omega⟩
    subst hj
    exact main j h1 _ (Nat.lt_succ_self j) f1 go1 c1
/-- the i-th goer of the first row that is as seen -/
def wpG (f : Nat → Nat → Nat) (ok : Nat → Nat → Bool) (G l : Nat) : Nat → Nat → Nat → Int
  | 0, s, dv => ffR (lead f ok G l dv s) G 0
  | i + 1, s, dv => if ffR (lead f ok G l dv s) G 0 = -1 then -1 else wpG f ok G l i (f (ffR (lead f ok G l dv s) G 0).toNat s) (dv + 1)
theorem fg_n {b i n l : Nat} (h : b + n = i) (hi : i < l) (hl : l ≤ 12) : (n = 0 → (i : Int) < ((b + 1 : Nat) : Int)) ∧ (0 < n → ¬ ((i : Int) < ((b + 1 : Nat) : Int)) ∧ b + 1 < l ∧ b + 1 + (n - 1) = i) ∧ w32 (((b + 1 : Nat) : Int) + 1) = ((b + 1 + 1 : Nat) : Int) := ⟨by omega, by omega, w32_s (by omega)⟩
theorem S_firstGoer {d : Nat} {h0 h : Hp} {Q : Option PV → Hp → Prop} {A : Nat → Int} {f : Nat → Nat → Nat} {L : List Nat} {ta se G l i : Nat} (x : TW h0 h A f (2 ^ G - 1) L ta se) (hG : A 2 = (G : Int)) {z : Nat → Int} (ez : ∀ i, i < 12 → hI h (ta + 2) i = z i) (l12 : l ≤ 12) (hi : i < l) (go : GO h ta f (okT2 z) G l L (fun _ => 1)) : WP (d + 5) mX9_firstGoer 0 [some (.inr (.inr ta)), some (.inl (i : Int)), none, none, none] [] h Q = Q (some (.inl (wpG f (okT2 z) G l i (L.getD 0 0) 0))) h := by
  obtain ⟨K0, R0, _⟩ := x.2.2.2.1.ks
  have KS := x.2.2.2.2.1.2.1.1
  have ok := x.2.2.2.2.1.2.2.2.1
  have lk := x.2.2.2.2.1.le
  have hm : ∀ dv q, q < L.length → (fun _ => 1) q ≤ dv + 1 := fun dv q _ => Nat.le_add_left 1 dv
  have main : ∀ n b p, b + n = i → p < L.length → WP (d + 5) mX9_firstGoer 12 [some (.inr (.inr ta)), some (.inl (i : Int)), some (.inl (p : Int)), some (.inl (ffR (lead f (okT2 z) G l b (L.getD p 0)) G 0)), some (.inl ((b + 1 : Nat) : Int))] [] h Q = Q (some (.inl (wpG f (okT2 z) G l n (L.getD p 0) b))) h := by
    intro n
    induction n with
    | zero =>
      intro b p hb hp
      have c := (fg_n hb hi l12).1 rfl
      rw [rX9_firstGoer_12]
      simp only [rX9_firstGoer_14, rX9_firstGoer_15, rX9_firstGoer_47, rX9_firstGoer_48, c, if_true]
      rfl
    | succ n ih =>
      intro b p hb hp
      obtain ⟨_, c2, c3⟩ := fg_n hb hi l12
      obtain ⟨c4, c5, c6⟩ := c2 (Nat.succ_pos n)
      rw [rX9_firstGoer_12]
      simp only [rX9_firstGoer_14, rX9_firstGoer_15, rX9_firstGoer_18, rX9_firstGoer_19, rX9_firstGoer_20, c4, if_false]
      unfold wpG
      by_cases hc : ffR (lead f (okT2 z) G l b (L.getD p 0)) G 0 = -1
      · rw [if_pos hc, if_pos hc, hc]
        simp only [rX9_firstGoer_47, rX9_firstGoer_48]
      · rw [if_neg hc, if_neg hc]
        obtain ⟨g, eg, _, gG, _⟩ := (ffR_in (p := lead f (okT2 z) G l b (L.getD p 0)) G 0).resolve_left (fun c => hc c.1)
        rw [Nat.zero_add] at gG
        obtain ⟨q, hq, eq, pa⟩ := S_placeAfter x.2.2.2.2.1 hp (by rw [hG]; exact Int.ofNat_lt.2 gG) (all_bt gG)
        rw [eg, Int.toNat_natCast, ← eq]
        simp only [rX9_firstGoer_23, rX9_firstGoer_24, rX9_firstGoer_27, rX9_firstGoer_28, rX9_firstGoer_29, rX9_firstGoer_32, rX9_firstGoer_33, rX9_firstGoer_34, rX9_firstGoer_36, rX9_firstGoer_37, rX9_firstGoer_40, rX9_firstGoer_41, rX9_firstGoer_44, K0, R0, KS, pa, S_firstOf x hG ez l12 c5 go (hm _) hq, psh_some, c3, Int.toNat_natCast, Int.natCast_nonneg, true_and, and_true, and_self, if_true, if_false, or_true, true_or, or_false, false_or, ne_eq, not_true_eq_false, not_false_eq_true, Nat.reduceLeDiff, Nat.reduceEqDiff, Nat.reduceLT, Nat.reduceAdd, Nat.reduceMul, Nat.reduceSub, Int.reduceLT, Int.reduceLE, Int.reduceEq, Int.reduceToNat, Int.reduceAdd, Int.reduceSub, Int.reduceMul, Int.reduceNeg, Int.cast_ofNat_Int, false_and, and_false]
        exact ih (b + 1) q c6 hq
  simp only [rX9_firstGoer_0, rX9_firstGoer_1, rX9_firstGoer_2, rX9_firstGoer_3, rX9_firstGoer_4, rX9_firstGoer_5, rX9_firstGoer_8, rX9_firstGoer_9, rX9_firstGoer_10, K0, Int.toNat_natCast, Int.natCast_nonneg, true_and, and_true, and_self, if_true, if_false, or_true, true_or, or_false, false_or, ne_eq, not_true_eq_false, not_false_eq_true, Nat.reduceLeDiff, Nat.reduceEqDiff, Nat.reduceLT, Nat.reduceAdd, Nat.reduceMul, Nat.reduceSub, Int.reduceLT, Int.reduceLE, Int.reduceEq, Int.reduceToNat, Int.reduceAdd, Int.reduceSub, Int.reduceMul, Int.reduceNeg, Int.cast_ofNat_Int, false_and, and_false]
  have z0 : (0 : Int) = ((0 : Nat) : Int) := rfl
  have fo := fun (Q : Option PV → Hp → Prop) => S_firstOf (d := d) (Q := Q) (p := 0) (i := 0) x hG ez l12 (Nat.lt_of_le_of_lt (Nat.zero_le _) hi) go (hm 0) ok.2.2
  refine (fo _).trans ?_
  simp only [psh_some, rX9_firstGoer_8, rX9_firstGoer_9, rX9_firstGoer_10]
  exact main i 0 0 (Nat.zero_add _) ok.2.2
def whV (σ : AS) (t i : Int) : Int := if poV σ t = 0 then (if i < 0 then -3 else if sM σ t.toNat ≤ i then -1 else wpG (fA σ) (okT2 (tzZ σ t.toNat)) (GA σ) (sM σ t.toNat).toNat i.toNat ((LA σ).getD 0 0) 0) else poV σ t
set_option maxHeartbeats 1000000 in
theorem C_whoPosted {d : Nat} {σ : AS} {t i : Int} : CSpec (d + 7) mX11_whoPosted [some (.inr (.inr 200)), some (.inl t), some (.inl i), none, none, none] σ (.inl (whV σ t i)) σ := by
  intro h Q x w k
  have m := x.1.1
  unfold whV at k
  simp only [rX11_whoPosted_0, rX11_whoPosted_1, rX11_whoPosted_2, Cs_K200 m, Cs_R200_0 m, Cs_R200_1 m, Cs_R200_2 m, Cs_R200_3 m, Cs_R200_4 m, Cs_R200_5 m, Cs_R200_6 m, Cs_K201 m, Cs_R201_0 m, Cs_R201_1 m, Cs_K202 m, Cs_K203 m, Cs_K211 m, Cs_R211_0 m, Cs_R211_1 m, Cs_K212 m, Cs_K213 m, Cs_K214 m, Cs_R214_0 m, Cs_R214_1 m, Cs_K215 m, Cs_K216 m, Cs_K217 m, Cs_R217_0 m, Cs_R217_1 m, Cs_K218 m, Cs_K219 m, Cs_K220 m, Cs_R220_0 m, Cs_K221 m, Cs_K262 m, Cs_K271 m, Cs_R271_0 m, Cs_R271_1 m, Cs_K272 m, Cs_K276 m, Cs_R272_0 m, Cs_R276_0 m, Cs_K273 m, Cs_R273_0 m, Cs_R273_1 m, Cs_K274 m, Cs_K275 m, Cs_K277 m, Cs_R277_0 m, Cs_R277_1 m, Cs_K278 m, Cs_K279 m, Cs_R262_0 m, Cs_K263 m, Cs_R263_0 m, Cs_K264 m, Cs_R262_1 m, Cs_K265 m, Cs_R265_0 m, Cs_K266 m, Cs_R262_2 m, Cs_K267 m, Cs_R267_0 m, Cs_K268 m, Cs_R262_3 m, Cs_K269 m, Cs_R269_0 m, Cs_K270 m, Int.toNat_natCast, Int.natCast_nonneg, true_and, and_true, and_self, if_true, if_false, or_true, true_or, or_false, false_or, ne_eq, not_true_eq_false, not_false_eq_true, Nat.reduceLeDiff, Nat.reduceEqDiff, Nat.reduceLT, Nat.reduceAdd, Nat.reduceMul, Nat.reduceSub, Int.reduceLT, Int.reduceLE, Int.reduceEq, Int.reduceToNat, Int.reduceAdd, Int.reduceSub, Int.reduceMul, Int.reduceNeg, Int.cast_ofNat_Int, false_and, and_false]
  refine S_cPosted (d := d + 5) m x.1.2.2.2.2.2.1 ?_
  simp only [psh_some, rX11_whoPosted_5, rX11_whoPosted_6, rX11_whoPosted_7]
  by_cases h0 : poV σ t = 0
  · rw [if_pos h0] at k ⊢
    obtain ⟨j, l, rfl, j4, ns, el, l1, l12, zz⟩ := poV_0 h0
    have j4' := (j_n j4).1
    simp only [Int.toNat_natCast, el] at k
    simp only [h0]
    rw [rX11_whoPosted_12, rX11_whoPosted_13]
    by_cases hi : i < 0
    · rw [if_pos hi] at k ⊢
      simp only [rX11_whoPosted_16, rX11_whoPosted_18]
      exact k h x (Cfr.refl h)
    · rw [if_neg hi] at k ⊢
      obtain ⟨I, rfl⟩ := Int.eq_ofNat_of_zero_le (Int.not_lt.1 hi)
      obtain ⟨r1, r2, r3, r4, r5, r6⟩ := tray_at x j4 ns el
      simp only [rX11_whoPosted_19, rX11_whoPosted_20, rX11_whoPosted_23, rX11_whoPosted_24, rX11_whoPosted_25, rX11_whoPosted_28, rX11_whoPosted_30, rX11_whoPosted_31, rX11_whoPosted_33, Cs_K200 m, Cs_R200_0 m, Cs_R200_1 m, Cs_R200_2 m, Cs_R200_3 m, Cs_R200_4 m, Cs_R200_5 m, Cs_R200_6 m, Cs_K201 m, Cs_R201_0 m, Cs_R201_1 m, Cs_K202 m, Cs_K203 m, Cs_K211 m, Cs_R211_0 m, Cs_R211_1 m, Cs_K212 m, Cs_K213 m, Cs_K214 m, Cs_R214_0 m, Cs_R214_1 m, Cs_K215 m, Cs_K216 m, Cs_K217 m, Cs_R217_0 m, Cs_R217_1 m, Cs_K218 m, Cs_K219 m, Cs_K220 m, Cs_R220_0 m, Cs_K221 m, Cs_K262 m, Cs_K271 m, Cs_R271_0 m, Cs_R271_1 m, Cs_K272 m, Cs_K276 m, Cs_R272_0 m, Cs_R276_0 m, Cs_K273 m, Cs_R273_0 m, Cs_R273_1 m, Cs_K274 m, Cs_K275 m, Cs_K277 m, Cs_R277_0 m, Cs_R277_1 m, Cs_K278 m, Cs_K279 m, Cs_R262_0 m, Cs_K263 m, Cs_R263_0 m, Cs_K264 m, Cs_R262_1 m, Cs_K265 m, Cs_R265_0 m, Cs_K266 m, Cs_R262_2 m, Cs_K267 m, Cs_R267_0 m, Cs_K268 m, Cs_R262_3 m, Cs_K269 m, Cs_R269_0 m, Cs_K270 m, j4', r1, r2, r5, Int.toNat_natCast, Int.natCast_nonneg, true_and, and_true, and_self, if_true, if_false, or_true, true_or, or_false, false_or, ne_eq, not_true_eq_false, not_false_eq_true, Nat.reduceLeDiff, Nat.reduceEqDiff, Nat.reduceLT, Nat.reduceAdd, Nat.reduceMul, Nat.reduceSub, Int.reduceLT, Int.reduceLE, Int.reduceEq, Int.reduceToNat, Int.reduceAdd, Int.reduceSub, Int.reduceMul, Int.reduceNeg, Int.cast_ofNat_Int, false_and, and_false]
      by_cases hl : (I : Int) < (l : Int)
      · rw [if_neg (Int.not_le.2 hl)] at k
        rw [if_pos hl]
        have Il : I < l := Int.ofNat_lt.1 hl
        simp only [Int.toNat_natCast] at k
        simp only [rX11_whoPosted_38, rX11_whoPosted_39, Cs_K200 m, Cs_R200_0 m, Cs_R200_1 m, Cs_R200_2 m, Cs_R200_3 m, Cs_R200_4 m, Cs_R200_5 m, Cs_R200_6 m, Cs_K201 m, Cs_R201_0 m, Cs_R201_1 m, Cs_K202 m, Cs_K203 m, Cs_K211 m, Cs_R211_0 m, Cs_R211_1 m, Cs_K212 m, Cs_K213 m, Cs_K214 m, Cs_R214_0 m, Cs_R214_1 m, Cs_K215 m, Cs_K216 m, Cs_K217 m, Cs_R217_0 m, Cs_R217_1 m, Cs_K218 m, Cs_K219 m, Cs_K220 m, Cs_R220_0 m, Cs_K221 m, Cs_K262 m, Cs_K271 m, Cs_R271_0 m, Cs_R271_1 m, Cs_K272 m, Cs_K276 m, Cs_R272_0 m, Cs_R276_0 m, Cs_K273 m, Cs_R273_0 m, Cs_R273_1 m, Cs_K274 m, Cs_K275 m, Cs_K277 m, Cs_R277_0 m, Cs_R277_1 m, Cs_K278 m, Cs_K279 m, Cs_R262_0 m, Cs_K263 m, Cs_R263_0 m, Cs_K264 m, Cs_R262_1 m, Cs_K265 m, Cs_R265_0 m, Cs_K266 m, Cs_R262_2 m, Cs_K267 m, Cs_R267_0 m, Cs_K268 m, Cs_R262_3 m, Cs_K269 m, Cs_R269_0 m, Cs_K270 m, Int.toNat_natCast, Int.natCast_nonneg, true_and, and_true, and_self, if_true, if_false, or_true, true_or, or_false, false_or, ne_eq, not_true_eq_false, not_false_eq_true, Nat.reduceLeDiff, Nat.reduceEqDiff, Nat.reduceLT, Nat.reduceAdd, Nat.reduceMul, Nat.reduceSub, Int.reduceLT, Int.reduceLE, Int.reduceEq, Int.reduceToNat, Int.reduceAdd, Int.reduceSub, Int.reduceMul, Int.reduceNeg, Int.cast_ofNat_Int, false_and, and_false]
        refine S_tally x w ?_
        intro h1' ta se th c1
        have tw : TW h1' h1' (sA σ) (fA σ) (2 ^ GA σ - 1) (LA σ) ta se := th.tw
        have m1 := th.1.1.1
        obtain ⟨K0, _⟩ := tw.2.2.2.1.ks
        obtain ⟨r1, r2, r3, r4, r5, r6⟩ := tray_at th.1 j4 ns el
        simp only [psh_some, rX11_whoPosted_42, rX11_whoPosted_44, rX11_whoPosted_46, rX11_whoPosted_47, rX11_whoPosted_50, rX11_whoPosted_51, rX11_whoPosted_52, Cs_K200 m1, Cs_R200_0 m1, Cs_R200_1 m1, Cs_R200_2 m1, Cs_R200_3 m1, Cs_R200_4 m1, Cs_R200_5 m1, Cs_R200_6 m1, Cs_K201 m1, Cs_R201_0 m1, Cs_R201_1 m1, Cs_K202 m1, Cs_K203 m1, Cs_K211 m1, Cs_R211_0 m1, Cs_R211_1 m1, Cs_K212 m1, Cs_K213 m1, Cs_K214 m1, Cs_R214_0 m1, Cs_R214_1 m1, Cs_K215 m1, Cs_K216 m1, Cs_K217 m1, Cs_R217_0 m1, Cs_R217_1 m1, Cs_K218 m1, Cs_K219 m1, Cs_K220 m1, Cs_R220_0 m1, Cs_K221 m1, Cs_K262 m1, Cs_K271 m1, Cs_R271_0 m1, Cs_R271_1 m1, Cs_K272 m1, Cs_K276 m1, Cs_R272_0 m1, Cs_R276_0 m1, Cs_K273 m1, Cs_R273_0 m1, Cs_R273_1 m1, Cs_K274 m1, Cs_K275 m1, Cs_K277 m1, Cs_R277_0 m1, Cs_R277_1 m1, Cs_K278 m1, Cs_K279 m1, Cs_R262_0 m1, Cs_K263 m1, Cs_R263_0 m1, Cs_K264 m1, Cs_R262_1 m1, Cs_K265 m1, Cs_R265_0 m1, Cs_K266 m1, Cs_R262_2 m1, Cs_K267 m1, Cs_R267_0 m1, Cs_K268 m1, Cs_R262_3 m1, Cs_K269 m1, Cs_R269_0 m1, Cs_K270 m1, K0, j4', r1, Int.toNat_natCast, Int.natCast_nonneg, true_and, and_true, and_self, if_true, if_false, or_true, true_or, or_false, false_or, ne_eq, not_true_eq_false, not_false_eq_true, Nat.reduceLeDiff, Nat.reduceEqDiff, Nat.reduceLT, Nat.reduceAdd, Nat.reduceMul, Nat.reduceSub, Int.reduceLT, Int.reduceLE, Int.reduceEq, Int.reduceToNat, Int.reduceAdd, Int.reduceSub, Int.reduceMul, Int.reduceNeg, Int.cast_ofNat_Int, false_and, and_false]
        refine S_see (d := d + 4) (z := trZ σ j) tw r2 r3 r4 (j_n j4).2.2 r5 l12 r6 zz ?_
        intro h2' tw2 f2 z2
        obtain ⟨K02, _⟩ := tw2.2.2.2.1.ks
        simp only [psh_none, rX11_whoPosted_55, rX11_whoPosted_57, rX11_whoPosted_59, K02, Int.toNat_natCast, Int.natCast_nonneg, true_and, and_true, and_self, if_true, if_false, or_true, true_or, or_false, false_or, ne_eq, not_true_eq_false, not_false_eq_true, Nat.reduceLeDiff, Nat.reduceEqDiff, Nat.reduceLT, Nat.reduceAdd, Nat.reduceMul, Nat.reduceSub, Int.reduceLT, Int.reduceLE, Int.reduceEq, Int.reduceToNat, Int.reduceAdd, Int.reduceSub, Int.reduceMul, Int.reduceNeg, Int.cast_ofNat_Int, false_and, and_false]
        refine S_markBack (d := d + 1) (G := GA σ) (z := szZ (trZ σ j) l) tw2 (GA_e w) z2 l12 l1 ?_
        intro h3' f3 go3 _
        have tw3 := tw2.fp f3 (fun b k q => mk_ta q)
        obtain ⟨K03, _⟩ := tw3.2.2.2.1.ks
        have z3 : ∀ i, i < 12 → hI h3' (ta + 2) i = szZ (trZ σ j) l i := fun i hi => by rw [f3.I mk_no]; exact z2 i hi
        simp only [psh_none, rX11_whoPosted_62, rX11_whoPosted_64, rX11_whoPosted_65, K03, Int.toNat_natCast, Int.natCast_nonneg, true_and, and_true, and_self, if_true, if_false, or_true, true_or, or_false, false_or, ne_eq, not_true_eq_false, not_false_eq_true, Nat.reduceLeDiff, Nat.reduceEqDiff, Nat.reduceLT, Nat.reduceAdd, Nat.reduceMul, Nat.reduceSub, Int.reduceLT, Int.reduceLE, Int.reduceEq, Int.reduceToNat, Int.reduceAdd, Int.reduceSub, Int.reduceMul, Int.reduceNeg, Int.cast_ofNat_Int, false_and, and_false]
        refine (S_firstGoer (d := d + 1) tw3 (GA_e w) z3 l12 Il go3).mpr ?_
        simp only [psh_some, rX11_whoPosted_68]
        obtain ⟨x3, c3⟩ := th.done tw3
        have e : tzZ σ j = szZ (trZ σ j) l := by unfold tzZ; rw [el]; rfl
        rw [e] at k
        exact k h3' x3 (c1.trans c3).1
      · rw [if_pos (Int.not_lt.1 hl)] at k
        rw [if_neg hl]
        simp only [rX11_whoPosted_36, rX11_whoPosted_37]
        exact k h x (Cfr.refl h)
  · rw [if_neg h0] at k ⊢
    simp only [rX11_whoPosted_10, rX11_whoPosted_11]
    exact k h x (Cfr.refl h)
