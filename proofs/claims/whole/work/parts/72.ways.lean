theorem Still.at {h : Hp} {A : Nat → Int} {set goal : Nat} (x : Still h A set goal) {s m : Nat} (hs : s ∈ Lst A (stA A) set) (hm : m ≤ 6400) (hp : Pt (nxt A (stA A)) set (A 2).toNat (glB goal) m s) (hl : ∀ n, Pt (nxt A (stA A)) set (A 2).toNat (glB goal) n s → m ≤ n) : hI h 305 s = (m : Int) := by
  obtain ⟨a, b⟩ := x.2 s hs
  have c := b m (by omega) hp
  rcases a with q | ⟨n, e, hn, pt⟩
  · omega
  · have := hl n pt
    omega
theorem Still.far {h : Hp} {A : Nat → Int} {set goal : Nat} (x : Still h A set goal) {s : Nat} (hs : s ∈ Lst A (stA A) set) (hl : ∀ n, ¬ Pt (nxt A (stA A)) set (A 2).toNat (glB goal) n s) : hI h 305 s = 268435456 := by
  rcases (x.2 s hs).1 with q | ⟨n, e, hn, pt⟩
  · exact q
  · exact absurd pt (hl n)
theorem Still.anc {h : Hp} {A : Nat → Int} {set goal : Nat} (x : Still h A set goal) (ok : lsOk (Lst A (stA A) set)) {ah by' dv : Nat → Nat} {p : Nat} (t : Tree (nxt A (stA A)) set (A 2).toNat (Lst A (stA A) set) ah by' dv (Lst A (stA A) set).length 0) (hp : Fst (Lst A (stA A) set) (glB goal) p) {k : Nat} (hk : k ≤ dv p) : hI h 305 ((Lst A (stA A) set).getD (anc ah (dv p - k) p) 0) = ((dv p - k : Nat) : Int) := by
  have d6 := t.dv_le p hp.1
  have ll := ok.len
  have := hp.1
  exact x.at (getD_mem (t.anc_in hp.1 _ (by omega)).1) (by omega) (t.anc_pt hp.1 hp.2.1 _ (by omega)) (fun n hn => t.least hp hk hn)
theorem Still.now {h : Hp} {A : Nat → Int} {set goal : Nat} (po : poolOk A) (so : stOk (stA A)) (x : Still h A set goal) {m : Int} {w : Nat → Nat} (hw : Way A (stA A) set goal m w) : (m = -1 ∧ hI h 305 (stt (stA A)) = 268435456) ∨ (hI h 305 (stt (stA A)) = m ∧ 0 ≤ m ∧ m ≤ 6400) := by
  have ok := Lst_ok po so set
  have l0 := Lst_0 A (stA A) set
  rcases hw with ⟨e, no⟩ | ⟨ah, by', dv, p, t, hp, e, ew⟩
  · obtain ⟨ah, by', dv, t⟩ := Lst_tree po so set
    refine Or.inl ⟨e, x.far (by rw [← l0.1]; exact getD_mem l0.2) (fun n hn => ?_)⟩
    rw [← l0.1] at hn
    exact t.none no l0.2 hn
  · have a := x.anc ok t hp (k := 0) (Nat.zero_le _)
    rw [Nat.sub_zero, t.anc_0 hp.1, l0.1] at a
    have d6 := t.dv_le p hp.1
    have ll := ok.len
    have := hp.1
    exact Or.inr ⟨by rw [a, e], by omega, by omega⟩
theorem stP2_u {a k : Nat} (q : stP2 a k) : uP a k := by
  rcases q with q | q
  · exact rsP_u q
  · unfold uP; omega
theorem S_comes {d : Nat} {Q : Option PV → Hp → Prop} {h : Hp} {A : Nat → Int} (x : RpF h A) (so : stOk (stA A)) {set goal : Nat} (hset : set < 2 ^ (A 2).toNat) (hgl : glOk goal) {m : Int} {w : Nat → Nat} (hw : Way A (stA A) set goal m w)
    (k : ∀ h', Fp stP2 h h' → Still h' A set goal → Q (some (.inl m)) h') : WP (d + 5) mX12_comes 0 [some (.inr (.inr 294)), some (.inl (goal : Int)), some (.inl (set : Int)), none] [] h Q := by
  have m0 := x.1
  simp only [rX12_comes_0, rX12_comes_1, rX12_comes_2, rX12_comes_3, Md_K280 m0, Md_R281 m0, Md_K281 m0, Md_R282 m0, Md_K282 m0, Md_R283 m0, Md_K283 m0, Md_R284 m0, Md_K284 m0, Md_R285 m0, Md_K285 m0, Md_R286 m0, Md_K286 m0, Md_R287 m0, Md_K287 m0, Md_R288 m0, Md_K288 m0, Md_R289 m0, Md_K289 m0, Md_R290 m0, Md_K290 m0, Md_R291 m0, Md_K291 m0, Md_R292 m0, Md_K292 m0, Md_R293 m0, Md_K293 m0, Md_R294 m0, Md_K294 m0, Md_R295 m0, Md_K295 m0, Md_R296 m0, Md_K296 m0, Md_R297 m0, Md_K297 m0, Md_R298 m0, Md_K298 m0, Md_R299 m0, Md_K299 m0, Int.toNat_natCast, Int.natCast_nonneg, true_and, and_true, and_self, if_true, if_false, or_true, true_or, or_false, false_or, ne_eq, not_true_eq_false, not_false_eq_true, Nat.reduceLeDiff, Nat.reduceEqDiff, Nat.reduceLT, Nat.reduceAdd, Nat.reduceMul, Nat.reduceSub, Int.reduceLT, Int.reduceLE, Int.reduceEq, Int.reduceToNat, Int.reduceAdd, Int.reduceSub, Int.reduceMul, Int.reduceNeg, Int.cast_ofNat_Int, false_and, and_false]
  refine S_laysStill x so hset hgl ?_
  intro h' f' st
  simp only [psh_some, rX12_comes_6, rX12_comes_7, rX12_comes_8, rX12_comes_11, rX12_comes_14, rX12_comes_15, rX12_comes_18, rX12_comes_19]
  have k0 := k h' f' st
  rcases st.now x.2.2 so hw with ⟨e, c⟩ | ⟨e, c1, c2⟩
  · rw [c, if_pos rfl]
    rw [e] at k0
    exact k0
  · rw [e, if_neg (by omega)]
    exact k0
theorem ga_a {d j p : Nat} (q : (268435456 : Int) = (d : Int) - (j : Int) - 1) (h : d ≤ p) (hp : p < 6400) : False := by omega
theorem ga_b {d j n : Nat} (q : (n : Int) = (d : Int) - (j : Int) - 1) : n = d - j - 1 := by omega
set_option maxHeartbeats 1000000 in
theorem ga_inner {d : Nat} {Q : Option PV → Hp → Prop} {h : Hp} {A : Nat → Int} {set s b : Nat} {z its j : Int} {x1 x3 : Option PV} (m : MdOk h) (po : poolOk A) (s64 : set < 64) (hs : s < 6400) (th : ∀ g : Nat, (g : Int) < A 2 → set.testBit g = true → hI h 304 (6 * s + g) = (nxt A (stA A) g s : Int)) (hb : (b : Int) < A 2) (hbb : set.testBit b = true) (hz : hI h 305 (nxt A (stA A) b s) = z) (hne : ∀ g, g < b → set.testBit g = true → hI h 305 (nxt A (stA A) g s) ≠ z) (e1 : w32 (its - j) = its - j) (e2 : w32 (its - j - 1) = z)
    (k : WP (d + 1) mX12_goerAt 72 [some (.inr (.inr 294)), x1, some (.inl (set : Int)), x3, some (.inl its), some (.inl (s : Int)), some (.inl j), some (.inl (b : Int))] [] h Q) :
    ∀ n g, g + n = b → WP (d + 1) mX12_goerAt 28 [some (.inr (.inr 294)), x1, some (.inl (set : Int)), x3, some (.inl its), some (.inl (s : Int)), some (.inl j), some (.inl (g : Int))] [] h Q := by
  have G6 := po.2.2.2.1
  intro n
  induction n with
  | zero =>
    intro g hg
    have eg : g = b := by omega
    subst eg
    have g6 : g < 6 := by omega
    have i1 := (ix6 g6 hs).1
    have i2 := (ix6 g6 hs).2.1
    have i3 := (ix6 g6 hs).2.2.1
    have e := th g hb hbb
    have nl := lt64 (nxt_lt po.2.2.2.2.1 hs (g := g) (F := stA A))
    rw [rX12_goerAt_28]
    simp only [rX12_goerAt_29, rX12_goerAt_30, rX12_goerAt_32, rX12_goerAt_35, S_isIn s64 g6, psh_some, Int.toNat_natCast, Int.natCast_nonneg, true_and, and_true, and_self, if_true, if_false, or_true, true_or, or_false, false_or, ne_eq, not_true_eq_false, not_false_eq_true, Nat.reduceLeDiff, Nat.reduceEqDiff, Nat.reduceLT, Nat.reduceAdd, Nat.reduceMul, Nat.reduceSub, Int.reduceLT, Int.reduceLE, Int.reduceEq, Int.reduceToNat, Int.reduceAdd, Int.reduceSub, Int.reduceMul, Int.reduceNeg, Int.cast_ofNat_Int, false_and, and_false]
    rw [if_pos hbb, if_neg (by decide)]
    simp only [rX12_goerAt_38, rX12_goerAt_39, rX12_goerAt_42, rX12_goerAt_43, rX12_goerAt_46, rX12_goerAt_48, rX12_goerAt_50, rX12_goerAt_51, rX12_goerAt_53, rX12_goerAt_54, rX12_goerAt_55, rX12_goerAt_56, rX12_goerAt_58, rX12_goerAt_60, rX12_goerAt_61, rX12_goerAt_62, rX12_goerAt_63, Md_K280 m, Md_R281 m, Md_K281 m, Md_R282 m, Md_K282 m, Md_R283 m, Md_K283 m, Md_R284 m, Md_K284 m, Md_R285 m, Md_K285 m, Md_R286 m, Md_K286 m, Md_R287 m, Md_K287 m, Md_R288 m, Md_K288 m, Md_R289 m, Md_K289 m, Md_R290 m, Md_K290 m, Md_R291 m, Md_K291 m, Md_R292 m, Md_K292 m, Md_R293 m, Md_K293 m, Md_R294 m, Md_K294 m, Md_R295 m, Md_K295 m, Md_R296 m, Md_K296 m, Md_R297 m, Md_K297 m, Md_R298 m, Md_K298 m, Md_R299 m, Md_K299 m, i1, i2, i3, e, nl, hz, e1, e2, Int.toNat_natCast, Int.natCast_nonneg, true_and, and_true, and_self, if_true, if_false, or_true, true_or, or_false, false_or, ne_eq, not_true_eq_false, not_false_eq_true, Nat.reduceLeDiff, Nat.reduceEqDiff, Nat.reduceLT, Nat.reduceAdd, Nat.reduceMul, Nat.reduceSub, Int.reduceLT, Int.reduceLE, Int.reduceEq, Int.reduceToNat, Int.reduceAdd, Int.reduceSub, Int.reduceMul, Int.reduceNeg, Int.cast_ofNat_Int, false_and, and_false]
    exact k
  | succ n ih =>
    intro g hg
    have glt : g < b := by omega
    have gA : (g : Int) < A 2 := by omega
    have g6 : g < 6 := by omega
    have l2 : w32 ((g : Int) + 1) = ((g + 1 : Nat) : Int) := w32_s (by omega)
    have go := ih (g + 1) (by omega)
    rw [rX12_goerAt_28]
    simp only [rX12_goerAt_29, rX12_goerAt_30, rX12_goerAt_32, rX12_goerAt_35, S_isIn s64 g6, psh_some, Int.toNat_natCast, Int.natCast_nonneg, true_and, and_true, and_self, if_true, if_false, or_true, true_or, or_false, false_or, ne_eq, not_true_eq_false, not_false_eq_true, Nat.reduceLeDiff, Nat.reduceEqDiff, Nat.reduceLT, Nat.reduceAdd, Nat.reduceMul, Nat.reduceSub, Int.reduceLT, Int.reduceLE, Int.reduceEq, Int.reduceToNat, Int.reduceAdd, Int.reduceSub, Int.reduceMul, Int.reduceNeg, Int.cast_ofNat_Int, false_and, and_false]
    by_cases hb' : set.testBit g = true
    · have i1 := (ix6 g6 hs).1
      have i2 := (ix6 g6 hs).2.1
      have i3 := (ix6 g6 hs).2.2.1
      have e := th g gA hb'
      have nl := lt64 (nxt_lt po.2.2.2.2.1 hs (g := g) (F := stA A))
      rw [if_pos hb', if_neg (by decide)]
      simp only [rX12_goerAt_38, rX12_goerAt_39, rX12_goerAt_42, rX12_goerAt_43, rX12_goerAt_46, rX12_goerAt_48, rX12_goerAt_50, rX12_goerAt_51, rX12_goerAt_53, rX12_goerAt_54, rX12_goerAt_55, rX12_goerAt_56, rX12_goerAt_58, rX12_goerAt_60, rX12_goerAt_61, rX12_goerAt_62, rX12_goerAt_63, Md_K280 m, Md_R281 m, Md_K281 m, Md_R282 m, Md_K282 m, Md_R283 m, Md_K283 m, Md_R284 m, Md_K284 m, Md_R285 m, Md_K285 m, Md_R286 m, Md_K286 m, Md_R287 m, Md_K287 m, Md_R288 m, Md_K288 m, Md_R289 m, Md_K289 m, Md_R290 m, Md_K290 m, Md_R291 m, Md_K291 m, Md_R292 m, Md_K292 m, Md_R293 m, Md_K293 m, Md_R294 m, Md_K294 m, Md_R295 m, Md_K295 m, Md_R296 m, Md_K296 m, Md_R297 m, Md_K297 m, Md_R298 m, Md_K298 m, Md_R299 m, Md_K299 m, i1, i2, i3, e, nl, e1, e2, Int.toNat_natCast, Int.natCast_nonneg, true_and, and_true, and_self, if_true, if_false, or_true, true_or, or_false, false_or, ne_eq, not_true_eq_false, not_false_eq_true, Nat.reduceLeDiff, Nat.reduceEqDiff, Nat.reduceLT, Nat.reduceAdd, Nat.reduceMul, Nat.reduceSub, Int.reduceLT, Int.reduceLE, Int.reduceEq, Int.reduceToNat, Int.reduceAdd, Int.reduceSub, Int.reduceMul, Int.reduceNeg, Int.cast_ofNat_Int, false_and, and_false]
      rw [if_neg (hne g glt hb')]
      simp only [rX12_goerAt_66, rX12_goerAt_69, l2]
      exact go
    · rw [if_neg hb', if_pos (by trivial)]
      simp only [rX12_goerAt_66, rX12_goerAt_69, l2]
      exact go
theorem ga_c {d j i : Nat} (hi : i < d) (h6 : d ≤ 6400) (hj : j ≤ i) : w32 ((d : Int) - (j : Int)) = (d : Int) - (j : Int) ∧ w32 ((d : Int) - (j : Int) - 1) = (d : Int) - (j : Int) - 1 ∧ ((d - j - 1 : Nat) : Int) = (d : Int) - (j : Int) - 1 ∧ j < d ∧ d - (j + 1) = d - j - 1 := by
  refine ⟨w32_i (by omega) (by omega), w32_i (by omega) (by omega), by omega, by omega, by omega⟩
theorem ga_d {g G : Nat} {z : Int} (h : g < z.toNat) (h6 : z ≤ 6) : (g : Int) < z ∧ g < 6 := by omega
set_option maxHeartbeats 1000000 in
theorem ga_loop {d : Nat} {Q : Option PV → Hp → Prop} {h : Hp} {A : Nat → Int} (po : poolOk A) (so : stOk (stA A)) {set goal : Nat} (hset : set < 2 ^ (A 2).toNat) (st : Still h A set goal) {ah by' dv : Nat → Nat} {p : Nat} (t : Tree (nxt A (stA A)) set (A 2).toNat (Lst A (stA A) set) ah by' dv (Lst A (stA A) set).length 0) (hp : Fst (Lst A (stA A) set) (glB goal) p) {i : Nat} (hi : i < dv p) (k : Q (some (.inl (by' (anc ah (dv p - i - 1) p) : Int))) h) :
    ∀ n j (x7 : Option PV), j + n = i → WP (d + 1) mX12_goerAt 25 [some (.inr (.inr 294)), some (.inl (goal : Int)), some (.inl (set : Int)), some (.inl (i : Int)), some (.inl (dv p : Int)), some (.inl ((Lst A (stA A) set).getD (anc ah (dv p - j) p) 0 : Int)), some (.inl (j : Int)), x7] [] h Q := by
  have ok := Lst_ok po so set
  have ll := ok.len
  have d6 := t.dv_le p hp.1
  have p6 : p < 6400 := by have := hp.1; omega
  have d64 : dv p ≤ 6400 := by omega
  have s64 := set64 po hset
  have G6 := po.2.2.2.1
  have m := st.1.1
  have body : ∀ j, j ≤ i → ∀ (x7 : Option PV), WP (d + 1) mX12_goerAt 72 [some (.inr (.inr 294)), some (.inl (goal : Int)), some (.inl (set : Int)), some (.inl (i : Int)), some (.inl (dv p : Int)), some (.inl ((Lst A (stA A) set).getD (anc ah (dv p - j) p) 0 : Int)), some (.inl (j : Int)), some (.inl (by' (anc ah (dv p - j - 1) p) : Int))] [] h Q → WP (d + 1) mX12_goerAt 25 [some (.inr (.inr 294)), some (.inl (goal : Int)), some (.inl (set : Int)), some (.inl (i : Int)), some (.inl (dv p : Int)), some (.inl ((Lst A (stA A) set).getD (anc ah (dv p - j) p) 0 : Int)), some (.inl (j : Int)), x7] [] h Q := by
    intro j hj x7 fin
    obtain ⟨e1, e2, e3, jd, e4⟩ := ga_c hi d64 hj
    have al := (t.anc_in hp.1 (dv p - j) (Nat.sub_le _ _)).1
    have hs := getD_lt ok al
    obtain ⟨g1, g2, g3, g4⟩ := t.go hp.1 hp.2.1 jd
    have nxs := st.anc ok t hp (k := j + 1) jd
    rw [e4, ← g3, e3] at nxs
    simp only [rX12_goerAt_25, rX12_goerAt_26]
    refine ga_inner m po s64 hs (fun g hg hb => RW.then st.1 al hg hb) (ga_d (G := 0) g1 G6).1 g2 nxs (fun g glt hb q => ?_) e1 e2 fin _ 0 (Nat.zero_add _)
    have gG : g < (A 2).toNat := Nat.lt_trans glt g1
    rcases (st.2 _ (Lst_cl po so gG hb (getD_mem al))).1 with r | ⟨n', r, _, pt⟩
    · rw [r] at q; exact ga_a q d6 p6
    · have en : n' = dv p - j - 1 := by rw [r] at q; exact ga_b q
      rw [en] at pt
      exact absurd (t.first hp jd gG hb pt) (Nat.not_le.2 glt)
  intro n
  induction n with
  | zero =>
    intro j x7 hj
    have e : j = i := hj
    subst e
    refine body j (Nat.le_refl _) x7 ?_
    simp only [rX12_goerAt_72, rX12_goerAt_74, rX12_goerAt_75, rX12_goerAt_78, rX12_goerAt_80, Int.toNat_natCast, Int.natCast_nonneg, true_and, and_true, and_self, if_true, if_false, or_true, true_or, or_false, false_or, ne_eq, not_true_eq_false, not_false_eq_true, Nat.reduceLeDiff, Nat.reduceEqDiff, Nat.reduceLT, Nat.reduceAdd, Nat.reduceMul, Nat.reduceSub, Int.reduceLT, Int.reduceLE, Int.reduceEq, Int.reduceToNat, Int.reduceAdd, Int.reduceSub, Int.reduceMul, Int.reduceNeg, Int.cast_ofNat_Int, false_and, and_false]
    exact k
  | succ n ih =>
    intro j x7 hj
    have hj' : j + 1 + n = i := by rw [← hj]; exact Nat.succ_add_eq_add_succ j n
    have jle : j ≤ i := by rw [← hj]; exact Nat.le_add_right _ _
    have ji : ¬ ((j : Int) = (i : Int)) := fun q => by rw [eq_n] at q; rw [q] at hj; exact absurd hj (by omega)
    obtain ⟨e1, e2, e3, jd, e4⟩ := ga_c hi d64 jle
    have l2 : w32 ((j : Int) + 1) = ((j + 1 : Nat) : Int) := w32_s (Nat.lt_trans jd (Nat.lt_of_le_of_lt d64 (by decide)))
    refine body j jle x7 ?_
    have al := (t.anc_in hp.1 (dv p - j) (Nat.sub_le _ _)).1
    have hs := getD_lt ok al
    obtain ⟨g1, g2, g3, g4⟩ := t.go hp.1 hp.2.1 jd
    obtain ⟨gA, g6⟩ := ga_d (G := 0) g1 G6
    have go := ih (j + 1) (some (.inl (by' (anc ah (dv p - j - 1) p) : Int))) hj'
    rw [e4, ← g3] at go
    have i1 := (ix6 g6 hs).1
    have i2 := (ix6 g6 hs).2.1
    have i3 := (ix6 g6 hs).2.2.1
    have e := RW.then st.1 al gA g2
    simp only [rX12_goerAt_72, rX12_goerAt_74, rX12_goerAt_75, ji, Int.toNat_natCast, Int.natCast_nonneg, true_and, and_true, and_self, if_true, if_false, or_true, true_or, or_false, false_or, ne_eq, not_true_eq_false, not_false_eq_true, Nat.reduceLeDiff, Nat.reduceEqDiff, Nat.reduceLT, Nat.reduceAdd, Nat.reduceMul, Nat.reduceSub, Int.reduceLT, Int.reduceLE, Int.reduceEq, Int.reduceToNat, Int.reduceAdd, Int.reduceSub, Int.reduceMul, Int.reduceNeg, Int.cast_ofNat_Int, false_and, and_false]
    simp only [rX12_goerAt_81, rX12_goerAt_82, rX12_goerAt_85, rX12_goerAt_87, rX12_goerAt_89, rX12_goerAt_90, rX12_goerAt_92, rX12_goerAt_93, rX12_goerAt_94, rX12_goerAt_96, rX12_goerAt_99, Md_K280 m, Md_R281 m, Md_K281 m, Md_R282 m, Md_K282 m, Md_R283 m, Md_K283 m, Md_R284 m, Md_K284 m, Md_R285 m, Md_K285 m, Md_R286 m, Md_K286 m, Md_R287 m, Md_K287 m, Md_R288 m, Md_K288 m, Md_R289 m, Md_K289 m, Md_R290 m, Md_K290 m, Md_R291 m, Md_K291 m, Md_R292 m, Md_K292 m, Md_R293 m, Md_K293 m, Md_R294 m, Md_K294 m, Md_R295 m, Md_K295 m, Md_R296 m, Md_K296 m, Md_R297 m, Md_K297 m, Md_R298 m, Md_K298 m, Md_R299 m, Md_K299 m, i1, i2, i3, e, l2, Int.toNat_natCast, Int.natCast_nonneg, true_and, and_true, and_self, if_true, if_false, or_true, true_or, or_false, false_or, ne_eq, not_true_eq_false, not_false_eq_true, Nat.reduceLeDiff, Nat.reduceEqDiff, Nat.reduceLT, Nat.reduceAdd, Nat.reduceMul, Nat.reduceSub, Int.reduceLT, Int.reduceLE, Int.reduceEq, Int.reduceToNat, Int.reduceAdd, Int.reduceSub, Int.reduceMul, Int.reduceNeg, Int.cast_ofNat_Int, false_and, and_false]
    exact go
theorem S_goerAt {d : Nat} {Q : Option PV → Hp → Prop} {h : Hp} {A : Nat → Int} (x : RpF h A) (so : stOk (stA A)) {set goal : Nat} (hset : set < 2 ^ (A 2).toNat) (hgl : glOk goal) {m : Int} {w : Nat → Nat} (hw : Way A (stA A) set goal m w) {i : Nat}
    (k : ∀ h', Fp stP2 h h' → Q (some (.inl (if (i : Int) < m then (w i : Int) else -1))) h') : WP (d + 6) mX12_goerAt 0 [some (.inr (.inr 294)), some (.inl (goal : Int)), some (.inl (set : Int)), some (.inl (i : Int)), none, none, none, none] [] h Q := by
  have m0 := x.1
  simp only [rX12_goerAt_0, rX12_goerAt_1, rX12_goerAt_2, rX12_goerAt_3, Md_K280 m0, Md_R281 m0, Md_K281 m0, Md_R282 m0, Md_K282 m0, Md_R283 m0, Md_K283 m0, Md_R284 m0, Md_K284 m0, Md_R285 m0, Md_K285 m0, Md_R286 m0, Md_K286 m0, Md_R287 m0, Md_K287 m0, Md_R288 m0, Md_K288 m0, Md_R289 m0, Md_K289 m0, Md_R290 m0, Md_K290 m0, Md_R291 m0, Md_K291 m0, Md_R292 m0, Md_K292 m0, Md_R293 m0, Md_K293 m0, Md_R294 m0, Md_K294 m0, Md_R295 m0, Md_K295 m0, Md_R296 m0, Md_K296 m0, Md_R297 m0, Md_K297 m0, Md_R298 m0, Md_K298 m0, Md_R299 m0, Md_K299 m0, Int.toNat_natCast, Int.natCast_nonneg, true_and, and_true, and_self, if_true, if_false, or_true, true_or, or_false, false_or, ne_eq, not_true_eq_false, not_false_eq_true, Nat.reduceLeDiff, Nat.reduceEqDiff, Nat.reduceLT, Nat.reduceAdd, Nat.reduceMul, Nat.reduceSub, Int.reduceLT, Int.reduceLE, Int.reduceEq, Int.reduceToNat, Int.reduceAdd, Int.reduceSub, Int.reduceMul, Int.reduceNeg, Int.cast_ofNat_Int, false_and, and_false]
  refine S_comes x so hset hgl hw ?_
  intro h' f' st
  have k0 := k h' f'
  simp only [psh_some, rX12_goerAt_6, rX12_goerAt_8, rX12_goerAt_9, rX12_goerAt_11]
  by_cases hi : (i : Int) < m
  · rw [if_pos hi] at k0 ⊢
    rcases hw with ⟨e, no⟩ | ⟨ah, by', dv, p, t, hp, e, ew⟩
    · omega
    · subst e
      have hi' : i < dv p := Int.ofNat_lt.1 hi
      rw [ew i hi'] at k0
      have m' := st.1.1
      have rp : RpF h' A := ⟨m', st.1.2.1, x.2.2⟩
      simp only [rX12_goerAt_16, rX12_goerAt_17, rX12_goerAt_20, rX12_goerAt_22, rX12_goerAt_23, Md_K280 m', Md_R281 m', Md_K281 m', Md_R282 m', Md_K282 m', Md_R283 m', Md_K283 m', Md_R284 m', Md_K284 m', Md_R285 m', Md_K285 m', Md_R286 m', Md_K286 m', Md_R287 m', Md_K287 m', Md_R288 m', Md_K288 m', Md_R289 m', Md_K289 m', Md_R290 m', Md_K290 m', Md_R291 m', Md_K291 m', Md_R292 m', Md_K292 m', Md_R293 m', Md_K293 m', Md_R294 m', Md_K294 m', Md_R295 m', Md_K295 m', Md_R296 m', Md_K296 m', Md_R297 m', Md_K297 m', Md_R298 m', Md_K298 m', Md_R299 m', Md_K299 m', S_standNow rp so, psh_some, Int.toNat_natCast, Int.natCast_nonneg, true_and, and_true, and_self, if_true, if_false, or_true, true_or, or_false, false_or, ne_eq, not_true_eq_false, not_false_eq_true, Nat.reduceLeDiff, Nat.reduceEqDiff, Nat.reduceLT, Nat.reduceAdd, Nat.reduceMul, Nat.reduceSub, Int.reduceLT, Int.reduceLE, Int.reduceEq, Int.reduceToNat, Int.reduceAdd, Int.reduceSub, Int.reduceMul, Int.reduceNeg, Int.cast_ofNat_Int, false_and, and_false]
      have := ga_loop (d := d + 5) x.2.2 so hset st t hp hi' k0 i 0 none (Nat.zero_add _)
      rw [Nat.sub_zero, t.anc_0 hp.1, (Lst_0 A (stA A) set).1] at this
      exact this
  · rw [if_neg hi] at k0 ⊢
    simp only [rX12_goerAt_14, rX12_goerAt_15]
    exact k0
