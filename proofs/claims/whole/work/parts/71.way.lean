/-! the first way to a goal, of both -/
theorem Tree.dvE {f : Nat → Nat → Nat} {set G : Nat} {L : List Nat} {ah by' dv ah1 by1 dv1 : Nat → Nat} {gl : Nat → Bool} (t : Tree f set G L ah by' dv L.length 0) (t1 : Tree f set G L ah1 by1 dv1 L.length 0) {p : Nat} (h : Fst L gl p) : dv1 p = dv p := by
  have a := t.anc_pt h.1 h.2.1 (dv p) (Nat.le_refl _)
  have b := t1.anc_pt h.1 h.2.1 (dv1 p) (Nat.le_refl _)
  have a0 := t.anc_0 h.1
  have b0 := t1.anc_0 h.1
  rw [a0] at a
  rw [b0] at b
  have c := t.least h (k := 0) (Nat.zero_le _) (n := dv1 p) (by rw [Nat.sub_zero, a0]; exact b)
  have e := t1.least h (k := 0) (Nat.zero_le _) (n := dv p) (by rw [Nat.sub_zero, b0]; exact a)
  omega
theorem Tree.uniq {f : Nat → Nat → Nat} {set G : Nat} {L : List Nat} {ah by' dv ah1 by1 dv1 : Nat → Nat} {gl : Nat → Bool} (t : Tree f set G L ah by' dv L.length 0) (t1 : Tree f set G L ah1 by1 dv1 L.length 0) {p : Nat} (h : Fst L gl p) : ∀ k, k ≤ dv p → L.getD (anc ah1 (dv p - k) p) 0 = L.getD (anc ah (dv p - k) p) 0 ∧ (k < dv p → by1 (anc ah1 (dv p - k - 1) p) = by' (anc ah (dv p - k - 1) p)) := by
  have ed := t.dvE t1 h
  have same : ∀ k, k < dv p → L.getD (anc ah1 (dv p - k) p) 0 = L.getD (anc ah (dv p - k) p) 0 → by1 (anc ah1 (dv p - k - 1) p) = by' (anc ah (dv p - k - 1) p) := by
    intro k hk e
    obtain ⟨g1, g2, g3, g4⟩ := t.go h.1 h.2.1 hk
    obtain ⟨q1, q2, q3, q4⟩ := t1.go h.1 h.2.1 (k := k) (by omega)
    rw [ed] at q1 q2 q3 q4
    have a := t.first h hk q1 q2 (by rw [← e, q3]; exact q4)
    have b := t1.first h (k := k) (by omega) g1 g2 (by rw [ed, e, g3]; exact g4)
    rw [ed] at b
    omega
  intro k
  induction k with
  | zero =>
    intro hk
    have e : L.getD (anc ah1 (dv p - 0) p) 0 = L.getD (anc ah (dv p - 0) p) 0 := by
      rw [Nat.sub_zero, t.anc_0 h.1, ← ed, t1.anc_0 h.1]
    exact ⟨e, fun hlt => same 0 hlt e⟩
  | succ k ih =>
    intro hk
    obtain ⟨e, eb⟩ := ih (by omega)
    have eb' := eb (by omega)
    obtain ⟨g1, g2, g3, g4⟩ := t.go h.1 h.2.1 (k := k) (by omega)
    obtain ⟨q1, q2, q3, q4⟩ := t1.go h.1 h.2.1 (k := k) (by omega)
    rw [ed] at q1 q2 q3 q4
    have en : L.getD (anc ah1 (dv p - (k + 1)) p) 0 = L.getD (anc ah (dv p - (k + 1)) p) 0 := by
      rw [show dv p - (k + 1) = dv p - k - 1 by omega, ← q3, ← g3, eb', e]
    exact ⟨en, fun hlt => same (k + 1) hlt en⟩
/-- m dives, the i-th of goer w i; -1: it can't be -/
def Way (A F : Nat → Int) (set goal : Nat) (m : Int) (w : Nat → Nat) : Prop := (m = -1 ∧ ∀ q, q < (Lst A F set).length → glB goal ((Lst A F set).getD q 0) = false) ∨ ∃ ah by' dv p, Tree (nxt A F) set (A 2).toNat (Lst A F set) ah by' dv (Lst A F set).length 0 ∧ Fst (Lst A F set) (glB goal) p ∧ m = (dv p : Int) ∧ ∀ i, i < dv p → w i = by' (anc ah (dv p - i - 1) p)
theorem Way_ex {A F : Nat → Int} (po : poolOk A) (so : stOk F) (set goal : Nat) : ∃ m w, Way A F set goal m w := by
  obtain ⟨ah, by', dv, t⟩ := Lst_tree po so set
  rcases Fst_or (Lst A F set) (glB goal) with ⟨p, hp⟩ | h
  · exact ⟨(dv p : Int), fun i => by' (anc ah (dv p - i - 1) p), Or.inr ⟨ah, by', dv, p, t, hp, rfl, fun i _ => rfl⟩⟩
  · exact ⟨-1, fun _ => 0, Or.inl ⟨rfl, h⟩⟩
/-! the class -/
theorem Shp.ws {h : Hp} {se : Nat} (x : Shp h se) : hK h se = (7, 0) ∧ hR h se 6 = se + 8 ∧ hK h (se + 8) = (21, 1600) ∧ hR h se 7 = se + 9 ∧ hK h (se + 9) = (21, 1600) ∧ hR h se 8 = se + 10 ∧ hK h (se + 10) = (21, 1600) := by
  obtain ⟨K0, R0, R1, R2, R3, R4, R5, R6, R7, R8, R9, K1, r0, r1, K2, K3, K4, K5, K6, K7, K8, K9, K10, K11⟩ := x
  exact ⟨K0, R6, K8, R7, K9, R8, K10⟩
/-- the place that the class looks for -/
def Plc (L : List Nat) (gl : Nat → Bool) (v : Int) : Prop := (v = -1 ∧ ∀ q, q < L.length → gl (L.getD q 0) = false) ∨ ∃ p : Nat, v = (p : Int) ∧ Fst L gl p
theorem S_placeOfThing {d : Nat} {Q : Option PV → Hp → Prop} {h : Hp} {se : Nat} {A F : Nat → Int} {set t : Nat} (po : poolOk A) (so : stOk F) (sh : Shp h se) (x : SrX h se A F set) (ht : t < 6) (k : ∀ v, Plc (Lst A F set) (glB t) v → Q (some (.inl v)) h) :
    WP (d + 2) mX7_placeOfThing 0 [some (.inr (.inr se)), some (.inl (t : Int)), none] [] h Q := by
  have ok := Lst_ok po so set
  have l16 := Lst_le po so set
  have len := x.len
  have ord := fun p hp => x.ord (p := p) hp
  generalize Lst A F set = L at ok l16 len ord k
  have ll := ok.len
  have K0 := sh.1
  simp only [rX7_placeOfThing_0, rX7_placeOfThing_1]
  have main : ∀ n i, i + n = L.length → (∀ q, q < i → glB t (L.getD q 0) = false) → WP (d + 2) mX7_placeOfThing 2 [some (.inr (.inr se)), some (.inl (t : Int)), some (.inl (i : Int))] [] h Q := by
    intro n
    induction n with
    | zero =>
      intro i hi no
      have e : i = L.length := by omega
      subst e
      rw [rX7_placeOfThing_2]
      simp only [rX7_placeOfThing_3, rX7_placeOfThing_4, rX7_placeOfThing_7, rX7_placeOfThing_30, rX7_placeOfThing_31, K0, len, Int.lt_irrefl, Int.toNat_natCast, Int.natCast_nonneg, true_and, and_true, and_self, if_true, if_false, or_true, true_or, or_false, false_or, ne_eq, not_true_eq_false, not_false_eq_true, Nat.reduceLeDiff, Nat.reduceEqDiff, Nat.reduceLT, Nat.reduceAdd, Nat.reduceMul, Nat.reduceSub, Int.reduceLT, Int.reduceLE, Int.reduceEq, Int.reduceToNat, Int.reduceAdd, Int.reduceSub, Int.reduceMul, Int.reduceNeg, Int.cast_ofNat_Int, false_and, and_false]
      exact k _ (Or.inl ⟨rfl, no⟩)
    | succ n ih =>
      intro i hi no
      have c1 : (i : Int) < (L.length : Int) := by omega
      have il : i < L.length := by omega
      have i6 : i < 1600 := by omega
      have l2 : w32 ((i : Int) + 1) = ((i + 1 : Nat) : Int) := w32_s (by omega)
      have gl := getD_lt ok il
      have b1 : L.getD i 0 / 100 < 2147483648 := by omega
      have b2 : t < 31 := by omega
      have eg : glB t (L.getD i 0) = (L.getD i 0 / 100).testBit t := by unfold glB; rw [if_pos (by omega)]
      rw [rX7_placeOfThing_2]
      simp only [rX7_placeOfThing_3, rX7_placeOfThing_4, rX7_placeOfThing_7, rX7_placeOfThing_10, rX7_placeOfThing_11, rX7_placeOfThing_12, rX7_placeOfThing_15, rX7_placeOfThing_16, rX7_placeOfThing_19, K0, len, c1, S_thingsAt sh i6 (ord i il) gl, S_has b1 b2, psh_some, Int.toNat_natCast, Int.natCast_nonneg, true_and, and_true, and_self, if_true, if_false, or_true, true_or, or_false, false_or, ne_eq, not_true_eq_false, not_false_eq_true, Nat.reduceLeDiff, Nat.reduceEqDiff, Nat.reduceLT, Nat.reduceAdd, Nat.reduceMul, Nat.reduceSub, Int.reduceLT, Int.reduceLE, Int.reduceEq, Int.reduceToNat, Int.reduceAdd, Int.reduceSub, Int.reduceMul, Int.reduceNeg, Int.cast_ofNat_Int, false_and, and_false]
      by_cases hb : (L.getD i 0 / 100).testBit t = true
      · rw [if_pos hb, if_neg (by decide)]
        simp only [rX7_placeOfThing_22, rX7_placeOfThing_23]
        exact k _ (Or.inr ⟨i, rfl, il, by rw [eg]; exact hb, no⟩)
      · rw [if_neg hb, if_pos (by trivial)]
        simp only [rX7_placeOfThing_24, rX7_placeOfThing_27, l2]
        refine ih (i + 1) (by omega) (fun q hq => ?_)
        by_cases he : q = i
        · rw [he, eg]; simpa using hb
        · exact no q (by omega)
  exact main L.length 0 (Nat.zero_add _) (fun q hq => absurd hq (Nat.not_lt_zero _))
theorem S_placeOfBoard {d : Nat} {Q : Option PV → Hp → Prop} {h : Hp} {se : Nat} {A F : Nat → Int} {set n : Nat} (po : poolOk A) (so : stOk F) (sh : Shp h se) (x : SrX h se A F set) (k : ∀ v, Plc (Lst A F set) (glB (100 + n)) v → Q (some (.inl v)) h) :
    WP (d + 2) mX7_placeOfBoard 0 [some (.inr (.inr se)), some (.inl (n : Int)), none] [] h Q := by
  have ok := Lst_ok po so set
  have l16 := Lst_le po so set
  have len := x.len
  have ord := fun p hp => x.ord (p := p) hp
  generalize Lst A F set = L at ok l16 len ord k
  have ll := ok.len
  have K0 := sh.1
  simp only [rX7_placeOfBoard_0, rX7_placeOfBoard_1]
  have main : ∀ q i, i + q = L.length → (∀ q, q < i → glB (100 + n) (L.getD q 0) = false) → WP (d + 2) mX7_placeOfBoard 2 [some (.inr (.inr se)), some (.inl (n : Int)), some (.inl (i : Int))] [] h Q := by
    intro q
    induction q with
    | zero =>
      intro i hi no
      have e : i = L.length := by omega
      subst e
      rw [rX7_placeOfBoard_2]
      simp only [rX7_placeOfBoard_3, rX7_placeOfBoard_4, rX7_placeOfBoard_7, rX7_placeOfBoard_27, rX7_placeOfBoard_28, K0, len, Int.lt_irrefl, Int.toNat_natCast, Int.natCast_nonneg, true_and, and_true, and_self, if_true, if_false, or_true, true_or, or_false, false_or, ne_eq, not_true_eq_false, not_false_eq_true, Nat.reduceLeDiff, Nat.reduceEqDiff, Nat.reduceLT, Nat.reduceAdd, Nat.reduceMul, Nat.reduceSub, Int.reduceLT, Int.reduceLE, Int.reduceEq, Int.reduceToNat, Int.reduceAdd, Int.reduceSub, Int.reduceMul, Int.reduceNeg, Int.cast_ofNat_Int, false_and, and_false]
      exact k _ (Or.inl ⟨rfl, no⟩)
    | succ q ih =>
      intro i hi no
      have c1 : (i : Int) < (L.length : Int) := by omega
      have il : i < L.length := by omega
      have i6 : i < 1600 := by omega
      have l2 : w32 ((i : Int) + 1) = ((i + 1 : Nat) : Int) := w32_s (by omega)
      have eg : glB (100 + n) (L.getD i 0) = decide (L.getD i 0 % 100 = n) := by unfold glB; rw [if_neg (by omega), show 100 + n - 100 = n by omega]
      rw [rX7_placeOfBoard_2]
      simp only [rX7_placeOfBoard_3, rX7_placeOfBoard_4, rX7_placeOfBoard_7, rX7_placeOfBoard_10, rX7_placeOfBoard_11, rX7_placeOfBoard_12, rX7_placeOfBoard_15, rX7_placeOfBoard_16, K0, len, c1, S_boardAt sh i6 (ord i il), psh_some, eq_n, Int.toNat_natCast, Int.natCast_nonneg, true_and, and_true, and_self, if_true, if_false, or_true, true_or, or_false, false_or, ne_eq, not_true_eq_false, not_false_eq_true, Nat.reduceLeDiff, Nat.reduceEqDiff, Nat.reduceLT, Nat.reduceAdd, Nat.reduceMul, Nat.reduceSub, Int.reduceLT, Int.reduceLE, Int.reduceEq, Int.reduceToNat, Int.reduceAdd, Int.reduceSub, Int.reduceMul, Int.reduceNeg, Int.cast_ofNat_Int, false_and, and_false]
      by_cases hb : L.getD i 0 % 100 = n
      · rw [if_pos hb]
        simp only [rX7_placeOfBoard_19, rX7_placeOfBoard_20]
        exact k _ (Or.inr ⟨i, rfl, il, by rw [eg]; simpa using hb, no⟩)
      · rw [if_neg hb]
        simp only [rX7_placeOfBoard_21, rX7_placeOfBoard_24, l2]
        refine ih (i + 1) (by omega) (fun q hq => ?_)
        by_cases he : q = i
        · rw [he, eg]; simpa using hb
        · exact no q (by omega)
  exact main L.length 0 (Nat.zero_add _) (fun q hq => absurd hq (Nat.not_lt_zero _))
theorem Plc.fst {L : List Nat} {gl : Nat → Bool} {v : Int} (h : Plc L gl v) {p : Nat} (hp : Fst L gl p) : v = (p : Int) := by
  rcases h with ⟨_, no⟩ | ⟨q, e, hq⟩
  · have := no p hp.1; rw [hp.2.1] at this; exact absurd this (by decide)
  · have : q = p := by
      by_cases h1 : q < p
      · have := hp.2.2 q h1; rw [hq.2.1] at this; exact absurd this (by decide)
      · by_cases h2 : p < q
        · have := hq.2.2 p h2; rw [hp.2.1] at this; exact absurd this (by decide)
        · omega
    rw [e, this]
theorem Plc.no {L : List Nat} {gl : Nat → Bool} {v : Int} (h : Plc L gl v) (no : ∀ q, q < L.length → gl (L.getD q 0) = false) : v = -1 := by
  rcases h with ⟨e, _⟩ | ⟨q, e, hq⟩
  · exact e
  · have := no q hq.1; rw [hq.2.1] at this; exact absurd this (by decide)
theorem S_divesTo {d : Nat} {Q : Option PV → Hp → Prop} {h : Hp} {se : Nat} {A F : Nat → Int} {set goal : Nat} (po : poolOk A) (so : stOk F) (sh : Shp h se) (x : SrX h se A F set) {v m : Int} {w : Nat → Nat} (hv : Plc (Lst A F set) (glB goal) v) (hw : Way A F set goal m w) :
    WP d mX7_divesTo 0 [some (.inr (.inr se)), some (.inl v)] [] h Q = Q (some (.inl m)) h := by
  obtain ⟨K0, R6, K8, R7, K9, R8, K10⟩ := sh.ws
  rcases hw with ⟨e, no⟩ | ⟨ah, by', dv, p, t, hp, e, ew⟩
  · rw [hv.no no, e]
    simp only [rX7_divesTo_0, rX7_divesTo_1, rX7_divesTo_2, rX7_divesTo_5, rX7_divesTo_6, rX7_divesTo_9, rX7_divesTo_10, rX7_divesTo_13, rX7_divesTo_14, rX7_divesTo_15, Int.toNat_natCast, Int.natCast_nonneg, true_and, and_true, and_self, if_true, if_false, or_true, true_or, or_false, false_or, ne_eq, not_true_eq_false, not_false_eq_true, Nat.reduceLeDiff, Nat.reduceEqDiff, Nat.reduceLT, Nat.reduceAdd, Nat.reduceMul, Nat.reduceSub, Int.reduceLT, Int.reduceLE, Int.reduceEq, Int.reduceToNat, Int.reduceAdd, Int.reduceSub, Int.reduceMul, Int.reduceNeg, Int.cast_ofNat_Int, false_and, and_false]
  · rw [hv.fst hp, e]
    obtain ⟨ah1, by1, dv1, t1, hh⟩ := x.2.2.2.2.1
    have ed := t.dvE t1 hp
    have hd := (hh p hp.1).2.2
    rw [ed] at hd
    have p6 : (p : Int) < 1600 := by have := Lst_le po so set; have := hp.1; omega
    have pn : ¬ ((p : Int) = -1) := by omega
    simp only [rX7_divesTo_0, rX7_divesTo_1, rX7_divesTo_2, rX7_divesTo_5, rX7_divesTo_6, rX7_divesTo_9, rX7_divesTo_10, rX7_divesTo_13, rX7_divesTo_14, rX7_divesTo_15, K0, R8, K10, p6, pn, hd, Int.toNat_natCast, Int.natCast_nonneg, true_and, and_true, and_self, if_true, if_false, or_true, true_or, or_false, false_or, ne_eq, not_true_eq_false, not_false_eq_true, Nat.reduceLeDiff, Nat.reduceEqDiff, Nat.reduceLT, Nat.reduceAdd, Nat.reduceMul, Nat.reduceSub, Int.reduceLT, Int.reduceLE, Int.reduceEq, Int.reduceToNat, Int.reduceAdd, Int.reduceSub, Int.reduceMul, Int.reduceNeg, Int.cast_ofNat_Int, false_and, and_false]
set_option maxHeartbeats 1000000 in
theorem S_goerTo {d : Nat} {Q : Option PV → Hp → Prop} {h : Hp} {se : Nat} {A F : Nat → Int} {set goal : Nat} (po : poolOk A) (so : stOk F) (sh : Shp h se) (x : SrX h se A F set) {v m : Int} {w : Nat → Nat} (hv : Plc (Lst A F set) (glB goal) v) (hw : Way A F set goal m w) {i : Nat} (k : Q (some (.inl (if (i : Int) < m then (w i : Int) else -1))) h) :
    WP d mX7_goerTo 0 [some (.inr (.inr se)), some (.inl v), some (.inl (i : Int)), none, none] [] h Q := by
  obtain ⟨K0, R6, K8, R7, K9, R8, K10⟩ := sh.ws
  rcases hw with ⟨e, no⟩ | ⟨ah, by', dv, p, t, hp, e, ew⟩
  · rw [e, if_neg (by omega)] at k
    rw [hv.no no]
    simp only [rX7_goerTo_0, rX7_goerTo_1, rX7_goerTo_2, rX7_goerTo_5, rX7_goerTo_6, rX7_goerTo_7, rX7_goerTo_10, rX7_goerTo_11, rX7_goerTo_12, rX7_goerTo_15, rX7_goerTo_16, Int.toNat_natCast, Int.natCast_nonneg, true_and, and_true, and_self, if_true, if_false, or_true, true_or, or_false, false_or, ne_eq, not_true_eq_false, not_false_eq_true, Nat.reduceLeDiff, Nat.reduceEqDiff, Nat.reduceLT, Nat.reduceAdd, Nat.reduceMul, Nat.reduceSub, Int.reduceLT, Int.reduceLE, Int.reduceEq, Int.reduceToNat, Int.reduceAdd, Int.reduceSub, Int.reduceMul, Int.reduceNeg, Int.cast_ofNat_Int, false_and, and_false]
    exact k
  · rw [hv.fst hp]
    rw [e] at k
    obtain ⟨ah1, by1, dv1, t1, hh⟩ := x.2.2.2.2.1
    have ed := t.dvE t1 hp
    have hd := (hh p hp.1).2.2
    rw [ed] at hd
    have ll := Lst_le po so set
    have p6 : (p : Int) < 1600 := by have := hp.1; omega
    have pn : ¬ ((p : Int) = -1) := by omega
    simp only [rX7_goerTo_0, rX7_goerTo_1, rX7_goerTo_2, rX7_goerTo_5, rX7_goerTo_6, rX7_goerTo_7, rX7_goerTo_10, rX7_goerTo_11, rX7_goerTo_12, rX7_goerTo_15, rX7_goerTo_16, K0, R8, K10, p6, pn, hd, Int.toNat_natCast, Int.natCast_nonneg, true_and, and_true, and_self, if_true, if_false, or_true, true_or, or_false, false_or, ne_eq, not_true_eq_false, not_false_eq_true, Nat.reduceLeDiff, Nat.reduceEqDiff, Nat.reduceLT, Nat.reduceAdd, Nat.reduceMul, Nat.reduceSub, Int.reduceLT, Int.reduceLE, Int.reduceEq, Int.reduceToNat, Int.reduceAdd, Int.reduceSub, Int.reduceMul, Int.reduceNeg, Int.cast_ofNat_Int, false_and, and_false]
    by_cases hi : i < dv p
    · have hi' : (i : Int) < (dv p : Int) := Int.ofNat_lt.2 hi
      rw [if_pos hi'] at k ⊢
      have d6 := t.dv_le p hp.1
      have e1 : w32 ((dv p : Int) - 1) = (dv p : Int) - 1 := w32_i (by omega) (by have := hp.1; omega)
      simp only [rX7_goerTo_17, rX7_goerTo_18, rX7_goerTo_19, rX7_goerTo_20, rX7_goerTo_23, rX7_goerTo_24, rX7_goerTo_25, rX7_goerTo_26, rX7_goerTo_27, K0, R8, K10, p6, hd, e1, Int.toNat_natCast, Int.natCast_nonneg, true_and, and_true, and_self, if_true, if_false, or_true, true_or, or_false, false_or, ne_eq, not_true_eq_false, not_false_eq_true, Nat.reduceLeDiff, Nat.reduceEqDiff, Nat.reduceLT, Nat.reduceAdd, Nat.reduceMul, Nat.reduceSub, Int.reduceLT, Int.reduceLE, Int.reduceEq, Int.reduceToNat, Int.reduceAdd, Int.reduceSub, Int.reduceMul, Int.reduceNeg, Int.cast_ofNat_Int, false_and, and_false]
      rw [ew i hi, ← (t.uniq t1 hp i (by omega)).2 hi] at k
      have main : ∀ n j, j + n = dv p - i - 1 → WP d mX7_goerTo 29 [some (.inr (.inr se)), some (.inl (p : Int)), some (.inl (i : Int)), some (.inl (anc ah1 j p : Int)), some (.inl ((dv p : Int) - 1 - (j : Int)))] [] h Q := by
        intro n
        induction n with
        | zero =>
          intro j hj
          have ej : j = dv p - i - 1 := by omega
          have c : ¬ ((i : Int) < (dv p : Int) - 1 - (j : Int)) := by omega
          obtain ⟨al, ad⟩ := t1.anc_in hp.1 j (by omega)
          have a6 : (anc ah1 j p : Int) < 1600 := by omega
          have n0 : 0 < anc ah1 j p := by
            by_cases z : anc ah1 j p = 0
            · rw [z, t1.1] at ad; omega
            · omega
          have hb := (hh _ al).2.1 n0
          rw [rX7_goerTo_29]
          simp only [rX7_goerTo_31, rX7_goerTo_32, c, Int.toNat_natCast, Int.natCast_nonneg, true_and, and_true, and_self, if_true, if_false, or_true, true_or, or_false, false_or, ne_eq, not_true_eq_false, not_false_eq_true, Nat.reduceLeDiff, Nat.reduceEqDiff, Nat.reduceLT, Nat.reduceAdd, Nat.reduceMul, Nat.reduceSub, Int.reduceLT, Int.reduceLE, Int.reduceEq, Int.reduceToNat, Int.reduceAdd, Int.reduceSub, Int.reduceMul, Int.reduceNeg, Int.cast_ofNat_Int, false_and, and_false]
          simp only [rX7_goerTo_48, rX7_goerTo_49, rX7_goerTo_52, rX7_goerTo_53, rX7_goerTo_54, K0, R7, K9, a6, hb, Int.toNat_natCast, Int.natCast_nonneg, true_and, and_true, and_self, if_true, if_false, or_true, true_or, or_false, false_or, ne_eq, not_true_eq_false, not_false_eq_true, Nat.reduceLeDiff, Nat.reduceEqDiff, Nat.reduceLT, Nat.reduceAdd, Nat.reduceMul, Nat.reduceSub, Int.reduceLT, Int.reduceLE, Int.reduceEq, Int.reduceToNat, Int.reduceAdd, Int.reduceSub, Int.reduceMul, Int.reduceNeg, Int.cast_ofNat_Int, false_and, and_false]
          rw [ej]; exact k
        | succ n ih =>
          intro j hj
          have c : (i : Int) < (dv p : Int) - 1 - (j : Int) := by omega
          obtain ⟨al, ad⟩ := t1.anc_in hp.1 j (by omega)
          have a6 : (anc ah1 j p : Int) < 1600 := by omega
          have hb := (hh _ al).1
          have e2 : w32 ((dv p : Int) - 1 - (j : Int) + -1) = (dv p : Int) - 1 - ((j + 1 : Nat) : Int) := by rw [w32_i (by omega) (by omega)]; omega
          have go := ih (j + 1) (by omega)
          rw [rX7_goerTo_29]
          simp only [rX7_goerTo_31, rX7_goerTo_32, c, Int.toNat_natCast, Int.natCast_nonneg, true_and, and_true, and_self, if_true, if_false, or_true, true_or, or_false, false_or, ne_eq, not_true_eq_false, not_false_eq_true, Nat.reduceLeDiff, Nat.reduceEqDiff, Nat.reduceLT, Nat.reduceAdd, Nat.reduceMul, Nat.reduceSub, Int.reduceLT, Int.reduceLE, Int.reduceEq, Int.reduceToNat, Int.reduceAdd, Int.reduceSub, Int.reduceMul, Int.reduceNeg, Int.cast_ofNat_Int, false_and, and_false]
          simp only [rX7_goerTo_35, rX7_goerTo_36, rX7_goerTo_39, rX7_goerTo_40, rX7_goerTo_41, rX7_goerTo_42, rX7_goerTo_45, K0, R6, K8, a6, hb, e2, Int.toNat_natCast, Int.natCast_nonneg, true_and, and_true, and_self, if_true, if_false, or_true, true_or, or_false, false_or, ne_eq, not_true_eq_false, not_false_eq_true, Nat.reduceLeDiff, Nat.reduceEqDiff, Nat.reduceLT, Nat.reduceAdd, Nat.reduceMul, Nat.reduceSub, Int.reduceLT, Int.reduceLE, Int.reduceEq, Int.reduceToNat, Int.reduceAdd, Int.reduceSub, Int.reduceMul, Int.reduceNeg, Int.cast_ofNat_Int, false_and, and_false]
          exact go
      have := main _ 0 (Nat.zero_add _)
      rw [show (dv p : Int) - 1 - ((0 : Nat) : Int) = (dv p : Int) - 1 by omega] at this
      exact this
    · have hi' : ¬ ((i : Int) < (dv p : Int)) := by omega
      rw [if_neg hi'] at k ⊢
      exact k
