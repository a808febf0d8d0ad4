/-! who posted: as seen, backwards -/
def anyB (p : Nat → Bool) : Nat → Bool
  | 0 => false
  | n + 1 => anyB p n || p n
theorem anyB_T {p : Nat → Bool} : ∀ n, anyB p n = true ↔ ∃ g, g < n ∧ p g = true := by
  intro n
  induction n with
  | zero => exact ⟨fun h => absurd h (by unfold anyB; decide), fun ⟨p, hp, _⟩ => by omega⟩
  | succ n ih =>
    unfold anyB
    rw [Bool.or_eq_true, ih]
    constructor
    · rintro (⟨q, hq, e⟩ | e)
      · exact ⟨q, by omega, e⟩
      · exact ⟨n, by omega, e⟩
    · rintro ⟨q, hq, e⟩
      by_cases hn : q = n
      · exact Or.inr (hn ▸ e)
      · exact Or.inl ⟨q, by omega, e⟩
/-- whether r dives more can be as seen, of l -/
def asR (f : Nat → Nat → Nat) (ok : Nat → Nat → Bool) (G l : Nat) : Nat → Nat → Bool
  | 0, _ => true
  | r + 1, s => anyB (fun g => ok (l - (r + 1)) (f g s) && asR f ok G l r (f g s)) G
def lead (f : Nat → Nat → Nat) (ok : Nat → Nat → Bool) (G l i s g : Nat) : Bool := ok i (f g s) && asR f ok G l (l - i - 1) (f g s)
theorem asR_s {f : Nat → Nat → Nat} {ok : Nat → Nat → Bool} {G l i : Nat} (hi : i < l) (s : Nat) : asR f ok G l (l - i) s = anyB (lead f ok G l i s) G := by
  obtain ⟨r, hr⟩ : ∃ r, l - i = r + 1 := ⟨l - i - 1, by omega⟩
  have e1 : l - (r + 1) = i := by omega
  have e2 : l - i - 1 = r := by omega
  rw [hr]
  show anyB (fun g => ok (l - (r + 1)) (f g s) && asR f ok G l r (f g s)) G = _
  rw [e1]
  unfold lead
  rw [e2]
/-- the first that holds -/
def ffR (p : Nat → Bool) : Nat → Nat → Int
  | 0, _ => -1
  | n + 1, g => if p g = true then (g : Int) else ffR p n (g + 1)
theorem ffR_in {p : Nat → Bool} : ∀ n g, (ffR p n g = -1 ∧ ∀ q, g ≤ q → q < g + n → p q = false) ∨ ∃ q : Nat, ffR p n g = (q : Int) ∧ g ≤ q ∧ q < g + n ∧ p q = true := by
  intro n
  induction n with
  | zero => intro g; exact Or.inl ⟨rfl, fun q h1 h2 => by omega⟩
  | succ n ih =>
    intro g
    unfold ffR
    by_cases h : p g = true
    · rw [if_pos h]; exact Or.inr ⟨g, rfl, Nat.le_refl _, by omega, h⟩
    · rw [if_neg h]
      rcases ih (g + 1) with ⟨h1, h2⟩ | ⟨q, h1, h2, h3, h4⟩
      · refine Or.inl ⟨h1, fun q h3 h4 => ?_⟩
        by_cases e : q = g
        · rw [e]; exact Bool.eq_false_iff.2 h
        · exact h2 q (by omega) (by omega)
      · exact Or.inr ⟨q, h1, by omega, by omega, h4⟩
theorem ffR_no {p : Nat → Bool} {G : Nat} : ffR p G 0 = -1 ↔ anyB p G = false := by
  constructor
  · intro h
    rcases ffR_in (p := p) G 0 with ⟨_, h2⟩ | ⟨q, h1, _, _, _⟩
    · cases e : anyB p G with
      | false => rfl
      | true =>
        obtain ⟨g, hg, e2⟩ := (anyB_T G).1 e
        rw [h2 g (by omega) (by omega)] at e2
        exact absurd e2 (by decide)
    · rw [h1] at h; omega
  · intro h
    rcases ffR_in (p := p) G 0 with ⟨h1, _⟩ | ⟨q, h1, h2, h3, h4⟩
    · exact h1
    · rw [(anyB_T G).2 ⟨q, by omega, h4⟩] at h
      exact absurd h (by decide)
/-- marks of a place, down to m -/
def GB (f : Nat → Nat → Nat) (ok : Nat → Nat → Bool) (G l m s b : Nat) : Prop := b < 8192 ∧ (∀ q, m ≤ q → q ≤ l → b.testBit q = asR f ok G l (l - q) s) ∧ ∀ q, q < m → b.testBit q = false
def GO (h : Hp) (ta : Nat) (f : Nat → Nat → Nat) (ok : Nat → Nat → Bool) (G l : Nat) (L : List Nat) (m : Nat → Nat) : Prop := ∀ p, p < L.length → ∃ b : Nat, hI h (ta + 3) p = (b : Int) ∧ GB f ok G l (m p) (L.getD p 0) b
def okT2 (z : Nat → Int) : Nat → Nat → Bool := fun i => okZ (z i)
theorem d_12 {i l : Nat} (h : i < l) (hl : l ≤ 12) : i < 12 ∧ w32 ((i : Int) + 1) = ((i + 1 : Nat) : Int) ∧ i + 1 < 31 ∧ i + 1 ≤ l := ⟨by omega, w32_s (by omega), by omega, by omega⟩
theorem lead_e {f : Nat → Nat → Nat} {ok : Nat → Nat → Bool} {G l i s g : Nat} {a b : Bool} (ha : a = ok i (f g s)) (hb : b = asR f ok G l (l - (i + 1)) (f g s)) : lead f ok G l i s g = (a && b) := by
  unfold lead
  rw [ha, hb, Nat.sub_sub]
theorem b31 {b : Nat} (h : b < 8192) : b < 2147483648 := by omega
theorem S_leads {d : Nat} {h0 h : Hp} {Q : Option PV → Hp → Prop} {A : Nat → Int} {f : Nat → Nat → Nat} {L : List Nat} {ta se G l i p g : Nat} (x : TW h0 h A f (2 ^ G - 1) L ta se) (hG : A 2 = (G : Int)) {z : Nat → Int} (ez : ∀ i, i < 12 → hI h (ta + 2) i = z i) (l12 : l ≤ 12) (hi : i < l) {m : Nat → Nat} (go : GO h ta f (okT2 z) G l L m) (hm : ∀ q, q < L.length → m q ≤ i + 1) (hp : p < L.length) (hg : g < G) : WP (d + 3) mX9_leads 0 [some (.inr (.inr ta)), some (.inl (i : Int)), some (.inl (p : Int)), some (.inl (g : Int)), none] [] h Q = Q (some (.inl (if lead f (okT2 z) G l i (L.getD p 0) g = true then 1 else 0))) h := by
  obtain ⟨K0, R0, R1, R2, R3, R4, K1, K2, K3, K4⟩ := x.2.2.2.1.ks
  have KS := x.2.2.2.2.1.2.1.1
  have ok := x.2.2.2.2.1.2.2.2.1
  have lk := x.2.2.2.2.1.le
  obtain ⟨q, hq, eq, pa⟩ := S_placeAfter x.2.2.2.2.1 hp (by rw [hG]; exact Int.ofNat_lt.2 hg) (all_bt hg)
  obtain ⟨q1, q2, q3, q4⟩ := i_16 lk hq
  obtain ⟨i12, i1, i31, il⟩ := d_12 hi l12
  obtain ⟨b, eb, b8, bt, _⟩ := go q hq
  have bt1 := bt (i + 1) (hm q hq) il
  rw [eq] at bt1
  have le := lead_e (f := f) (ok := okT2 z) (G := G) (l := l) (i := i) (s := L.getD p 0) (g := g) (a := sees (z i) ((L.getD q 0 % 100 : Nat) : Int)) (by rw [eq]; rfl) bt1
  simp only [rX9_leads_0, rX9_leads_1, rX9_leads_4, rX9_leads_5, rX9_leads_6, rX9_leads_9, rX9_leads_11, rX9_leads_12, rX9_leads_13, rX9_leads_15, rX9_leads_18, rX9_leads_21, rX9_leads_22, rX9_leads_25, rX9_leads_27, rX9_leads_28, rX9_leads_29, rX9_leads_30, rX9_leads_31, rX9_leads_34, rX9_leads_37, rX9_leads_38, rX9_leads_41, rX9_leads_42, K0, R0, R3, K3, KS, pa, S_fits x i12 (ez i i12) hq, psh_some, q2, eb, i1, S_has (b := b) (i := i + 1) (b31 b8) i31, Int.toNat_natCast, Int.natCast_nonneg, true_and, and_true, and_self, if_true, if_false, or_true, true_or, or_false, false_or, ne_eq, not_true_eq_false, not_false_eq_true, Nat.reduceLeDiff, Nat.reduceEqDiff, Nat.reduceLT, Nat.reduceAdd, Nat.reduceMul, Nat.reduceSub, Int.reduceLT, Int.reduceLE, Int.reduceEq, Int.reduceToNat, Int.reduceAdd, Int.reduceSub, Int.reduceMul, Int.reduceNeg, Int.cast_ofNat_Int, false_and, and_false]
  rw [le]
  by_cases h1 : sees (z i) ((L.getD q 0 % 100 : Nat) : Int) = true
  · by_cases h2 : b.testBit (i + 1) = true
    · simp only [h1, h2, Int.toNat_natCast, Int.natCast_nonneg, true_and, and_true, and_self, if_true, if_false, or_true, true_or, or_false, false_or, ne_eq, not_true_eq_false, not_false_eq_true, Nat.reduceLeDiff, Nat.reduceEqDiff, Nat.reduceLT, Nat.reduceAdd, Nat.reduceMul, Nat.reduceSub, Int.reduceLT, Int.reduceLE, Int.reduceEq, Int.reduceToNat, Int.reduceAdd, Int.reduceSub, Int.reduceMul, Int.reduceNeg, Int.cast_ofNat_Int, false_and, and_false, Bool.and_self, if_true]
    · rw [Bool.eq_false_iff.2 h2]
      simp only [h1, Int.toNat_natCast, Int.natCast_nonneg, true_and, and_true, and_self, if_true, if_false, or_true, true_or, or_false, false_or, ne_eq, not_true_eq_false, not_false_eq_true, Nat.reduceLeDiff, Nat.reduceEqDiff, Nat.reduceLT, Nat.reduceAdd, Nat.reduceMul, Nat.reduceSub, Int.reduceLT, Int.reduceLE, Int.reduceEq, Int.reduceToNat, Int.reduceAdd, Int.reduceSub, Int.reduceMul, Int.reduceNeg, Int.cast_ofNat_Int, false_and, and_false, Bool.and_false, Bool.false_eq_true]
  · rw [Bool.eq_false_iff.2 h1]
    simp only [Int.toNat_natCast, Int.natCast_nonneg, true_and, and_true, and_self, if_true, if_false, or_true, true_or, or_false, false_or, ne_eq, not_true_eq_false, not_false_eq_true, Nat.reduceLeDiff, Nat.reduceEqDiff, Nat.reduceLT, Nat.reduceAdd, Nat.reduceMul, Nat.reduceSub, Int.reduceLT, Int.reduceLE, Int.reduceEq, Int.reduceToNat, Int.reduceAdd, Int.reduceSub, Int.reduceMul, Int.reduceNeg, Int.cast_ofNat_Int, false_and, and_false, Bool.false_and, Bool.false_eq_true]
theorem S_firstOf {d : Nat} {h0 h : Hp} {Q : Option PV → Hp → Prop} {A : Nat → Int} {f : Nat → Nat → Nat} {L : List Nat} {ta se G l i p : Nat} (x : TW h0 h A f (2 ^ G - 1) L ta se) (hG : A 2 = (G : Int)) {z : Nat → Int} (ez : ∀ i, i < 12 → hI h (ta + 2) i = z i) (l12 : l ≤ 12) (hi : i < l) {m : Nat → Nat} (go : GO h ta f (okT2 z) G l L m) (hm : ∀ q, q < L.length → m q ≤ i + 1) (hp : p < L.length) : WP (d + 4) mX9_firstOf 0 [some (.inr (.inr ta)), some (.inl (i : Int)), some (.inl (p : Int)), none] [] h Q = Q (some (.inl (ffR (lead f (okT2 z) G l i (L.getD p 0)) G 0))) h := by
  obtain ⟨K0, R0, _⟩ := x.2.2.2.1.ks
  have KS := x.2.2.2.2.1.2.1.1
  obtain ⟨pp, P0, PK, PG⟩ := x.2.2.2.2.1.pl
  have G6 : G ≤ 6 := by have := x.2.2.2.2.1.2.2.2.2.2.2.2.1.2.2.2.1; omega
  have main : ∀ n g, g + n = G → WP (d + 4) mX9_firstOf 2 [some (.inr (.inr ta)), some (.inl (i : Int)), some (.inl (p : Int)), some (.inl (g : Int))] [] h Q = Q (some (.inl (ffR (lead f (okT2 z) G l i (L.getD p 0)) n g))) h := by
    intro n
    induction n with
    | zero =>
      intro g hg
      have eg : g = G := hg
      subst eg
      rw [rX9_firstOf_2]
      simp only [rX9_firstOf_3, rX9_firstOf_4, rX9_firstOf_7, rX9_firstOf_10, rX9_firstOf_13, rX9_firstOf_34, rX9_firstOf_35, K0, R0, KS, P0, PK, PG, hG, Int.lt_irrefl, Int.toNat_natCast, Int.natCast_nonneg, true_and, and_true, and_self, if_true, if_false, or_true, true_or, or_false, false_or, ne_eq, not_true_eq_false, not_false_eq_true, Nat.reduceLeDiff, Nat.reduceEqDiff, Nat.reduceLT, Nat.reduceAdd, Nat.reduceMul, Nat.reduceSub, Int.reduceLT, Int.reduceLE, Int.reduceEq, Int.reduceToNat, Int.reduceAdd, Int.reduceSub, Int.reduceMul, Int.reduceNeg, Int.cast_ofNat_Int, false_and, and_false]
      rfl
    | succ n ih =>
      intro g hg
      have gG : g < G := by omega
      have hn : g + 1 + n = G := by omega
      obtain ⟨gG', g6, g1⟩ := g_6 gG G6
      rw [rX9_firstOf_2]
      simp only [rX9_firstOf_3, rX9_firstOf_4, rX9_firstOf_7, rX9_firstOf_10, rX9_firstOf_13, rX9_firstOf_16, rX9_firstOf_17, rX9_firstOf_18, rX9_firstOf_19, rX9_firstOf_20, rX9_firstOf_23, K0, R0, KS, P0, PK, PG, hG, gG', S_leads x hG ez l12 hi go hm hp gG, psh_some, Int.toNat_natCast, Int.natCast_nonneg, true_and, and_true, and_self, if_true, if_false, or_true, true_or, or_false, false_or, ne_eq, not_true_eq_false, not_false_eq_true, Nat.reduceLeDiff, Nat.reduceEqDiff, Nat.reduceLT, Nat.reduceAdd, Nat.reduceMul, Nat.reduceSub, Int.reduceLT, Int.reduceLE, Int.reduceEq, Int.reduceToNat, Int.reduceAdd, Int.reduceSub, Int.reduceMul, Int.reduceNeg, Int.cast_ofNat_Int, false_and, and_false]
      unfold ffR
      by_cases hc : lead f (okT2 z) G l i (L.getD p 0) g = true
      · simp only [if_pos hc]
        rw [if_neg (by decide)]
        simp only [rX9_firstOf_26, rX9_firstOf_27]
      · simp only [if_neg hc]
        rw [if_pos (by trivial)]
        simp only [rX9_firstOf_28, rX9_firstOf_31, g1]
        exact ih (g + 1) hn
  simp only [rX9_firstOf_0, rX9_firstOf_1]
  exact main G 0 (Nat.zero_add _)
theorem t34_ta {ta b k : Nat} (q : b = ta + 3 ∨ b = ta + 4) : taS ta b := by unfold taS; omega
theorem t34_no {ta : Nat} : ¬ (ta + 2 = ta + 3 ∨ ta + 2 = ta + 4) := by omega
theorem sh13 {l : Nat} (h : l ≤ 12) : ishl 1 (l : Int) = ((2 ^ l : Nat) : Int) ∧ 2 ^ l < 8192 := ⟨shl1 (by omega), Nat.pow_lt_pow_right (a := 2) (by decide) (by omega : l < 13)⟩
theorem GB_top {f : Nat → Nat → Nat} {ok : Nat → Nat → Bool} {G l s : Nat} (hl : l ≤ 12) : GB f ok G l l s (2 ^ l) := by
  refine ⟨(sh13 hl).2, fun q h1 h2 => ?_, fun q h1 => ?_⟩
  · have e : q = l := by omega
    rw [e, Nat.testBit_two_pow_self, Nat.sub_self]
    rfl
  · rw [Nat.testBit_two_pow]; exact decide_eq_false (by omega)
theorem GB_set {f : Nat → Nat → Nat} {ok : Nat → Nat → Bool} {G l i s b : Nat} (hl : l ≤ 12) (hi : i < l) (x : GB f ok G l (i + 1) s b) (e : asR f ok G l (l - i) s = true) : GB f ok G l i s (b ||| 2 ^ i) := by
  obtain ⟨x1, x2, x3⟩ := x
  refine ⟨Nat.or_lt_two_pow (n := 13) x1 (Nat.pow_lt_pow_right (a := 2) (by decide) (by omega)), fun q h1 h2 => ?_, fun q h1 => ?_⟩
  · rw [or_bit]
    by_cases hq : q = i
    · rw [decide_eq_true hq, Bool.or_true, hq, e]
    · rw [decide_eq_false hq, Bool.or_false]; exact x2 q (by omega) h2
  · rw [or_bit, decide_eq_false (by omega), Bool.or_false]; exact x3 q (by omega)
theorem GB_not {f : Nat → Nat → Nat} {ok : Nat → Nat → Bool} {G l i s b : Nat} (x : GB f ok G l (i + 1) s b) (e : asR f ok G l (l - i) s = false) : GB f ok G l i s b := by
  obtain ⟨x1, x2, x3⟩ := x
  refine ⟨x1, fun q h1 h2 => ?_, fun q h1 => x3 q (by omega)⟩
  by_cases hq : q = i
  · rw [hq, e]; exact x3 i (by omega)
  · exact x2 q (by omega) h2
