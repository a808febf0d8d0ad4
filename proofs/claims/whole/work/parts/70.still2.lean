theorem dn1 (j : Nat) : ((j + 1 : Nat) : Int) - 1 = (j : Int) := by omega
theorem dn2 {j : Nat} (h : j < 6400) : w32 ((j : Int) + -1) = (j : Int) - 1 := by rw [w32_i (by omega) (by omega)]; omega
theorem dn3 {l : Nat} (h : l ≤ 6400) : w32 ((l : Int) - 1) = (l : Int) - 1 := w32_i (by omega) (by omega)
/-- done: nothing can be lessened -/
def Dwn (h : Hp) (A : Nat → Int) (set : Nat) (lo : Nat) : Prop := ∀ p, lo ≤ p → p < (Lst A (stA A) set).length → hI h 305 ((Lst A (stA A) set).getD p 0) ≤ lbV A (stA A) (hI h 305) set ((Lst A (stA A) set).getD p 0)
set_option maxHeartbeats 1000000 in
theorem st_inner {d : Nat} {Q : Option PV → Hp → Prop} {A : Nat → Int} {set goal : Nat} (po : poolOk A) (so : stOk (stA A)) (hset : set < 2 ^ (A 2).toNat) {h0 : Hp} (x0 : RLs h0 A set)
    (cont : ∀ h' fl x5, Fp siP h0 h' → SI h' A set goal → ((fl = 0 ∧ h' = h0 ∧ Dwn h0 A set 0) ∨ (fl = 1 ∧ sumV (hI h' 305) (Lst A (stA A) set) (Lst A (stA A) set).length < sumV (hI h0 305) (Lst A (stA A) set) (Lst A (stA A) set).length)) → WP (d + 2) mX12_laysStill 129 [some (.inr (.inr 294)), some (.inl (goal : Int)), some (.inl (set : Int)), some (.inl fl), some (.inl (-1)), x5] [] h' Q) :
    ∀ (j : Nat) (h : Hp) (fl : Int) (x5 : Option PV), j ≤ (Lst A (stA A) set).length → Fp siP h0 h → SI h A set goal → ((fl = 0 ∧ h = h0 ∧ Dwn h0 A set j) ∨ (fl = 1 ∧ sumV (hI h 305) (Lst A (stA A) set) (Lst A (stA A) set).length < sumV (hI h0 305) (Lst A (stA A) set) (Lst A (stA A) set).length)) → WP (d + 2) mX12_laysStill 68 [some (.inr (.inr 294)), some (.inl (goal : Int)), some (.inl (set : Int)), some (.inl fl), some (.inl ((j : Int) - 1)), x5] [] h Q := by
  have ok := x0.2.2.2.1
  have ll := ok.len
  intro j
  induction j with
  | zero =>
    intro h fl x5 hj f si c
    rw [rX12_laysStill_68]
    simp only [rX12_laysStill_70, show ((0 : Nat) : Int) - 1 = -1 from rfl, Int.toNat_natCast, Int.natCast_nonneg, true_and, and_true, and_self, if_true, if_false, or_true, true_or, or_false, false_or, ne_eq, not_true_eq_false, not_false_eq_true, Nat.reduceLeDiff, Nat.reduceEqDiff, Nat.reduceLT, Nat.reduceAdd, Nat.reduceMul, Nat.reduceSub, Int.reduceLT, Int.reduceLE, Int.reduceEq, Int.reduceToNat, Int.reduceAdd, Int.reduceSub, Int.reduceMul, Int.reduceNeg, Int.cast_ofNat_Int, false_and, and_false]
    exact cont h fl x5 f si c
  | succ j ih =>
    intro h fl x5 hj f si c
    have jl : j < (Lst A (stA A) set).length := by omega
    have j6 : j < 6400 := by omega
    have j6' := lt64 j6
    have c0 : ¬ ((j : Int) < 0) := by omega
    have x := x0.si f
    have m := x.1
    have od := x.2.2.2.2.1 j jl
    have hs := getD_lt ok jl
    have sl := lt64 hs
    rw [dn1, rX12_laysStill_68]
    simp only [rX12_laysStill_70, rX12_laysStill_73, rX12_laysStill_74, rX12_laysStill_75, rX12_laysStill_78, rX12_laysStill_80, rX12_laysStill_81, rX12_laysStill_82, c0, Md_K280 m, Md_R281 m, Md_K281 m, Md_R282 m, Md_K282 m, Md_R283 m, Md_K283 m, Md_R284 m, Md_K284 m, Md_R285 m, Md_K285 m, Md_R286 m, Md_K286 m, Md_R287 m, Md_K287 m, Md_R288 m, Md_K288 m, Md_R289 m, Md_K289 m, Md_R290 m, Md_K290 m, Md_R291 m, Md_K291 m, Md_R292 m, Md_K292 m, Md_R293 m, Md_K293 m, Md_R294 m, Md_K294 m, Md_R295 m, Md_K295 m, Md_R296 m, Md_K296 m, Md_R297 m, Md_K297 m, Md_R298 m, Md_K298 m, Md_R299 m, Md_K299 m, j6', od, S_leastBy po so hset x si.v jl, psh_some, Int.toNat_natCast, Int.natCast_nonneg, true_and, and_true, and_self, if_true, if_false, or_true, true_or, or_false, false_or, ne_eq, not_true_eq_false, not_false_eq_true, Nat.reduceLeDiff, Nat.reduceEqDiff, Nat.reduceLT, Nat.reduceAdd, Nat.reduceMul, Nat.reduceSub, Int.reduceLT, Int.reduceLE, Int.reduceEq, Int.reduceToNat, Int.reduceAdd, Int.reduceSub, Int.reduceMul, Int.reduceNeg, Int.cast_ofNat_Int, false_and, and_false]
    simp only [rX12_laysStill_85, rX12_laysStill_87, rX12_laysStill_89, rX12_laysStill_90, rX12_laysStill_93, rX12_laysStill_94, rX12_laysStill_97, rX12_laysStill_99, rX12_laysStill_100, rX12_laysStill_101, Md_K280 m, Md_R281 m, Md_K281 m, Md_R282 m, Md_K282 m, Md_R283 m, Md_K283 m, Md_R284 m, Md_K284 m, Md_R285 m, Md_K285 m, Md_R286 m, Md_K286 m, Md_R287 m, Md_K287 m, Md_R288 m, Md_K288 m, Md_R289 m, Md_K289 m, Md_R290 m, Md_K290 m, Md_R291 m, Md_K291 m, Md_R292 m, Md_K292 m, Md_R293 m, Md_K293 m, Md_R294 m, Md_K294 m, Md_R295 m, Md_K295 m, Md_R296 m, Md_K296 m, Md_R297 m, Md_K297 m, Md_R298 m, Md_K298 m, Md_R299 m, Md_K299 m, j6', od, sl, Int.toNat_natCast, Int.natCast_nonneg, true_and, and_true, and_self, if_true, if_false, or_true, true_or, or_false, false_or, ne_eq, not_true_eq_false, not_false_eq_true, Nat.reduceLeDiff, Nat.reduceEqDiff, Nat.reduceLT, Nat.reduceAdd, Nat.reduceMul, Nat.reduceSub, Int.reduceLT, Int.reduceLE, Int.reduceEq, Int.reduceToNat, Int.reduceAdd, Int.reduceSub, Int.reduceMul, Int.reduceNeg, Int.cast_ofNat_Int, false_and, and_false]
    by_cases hlt : lbV A (stA A) (hI h 305) set ((Lst A (stA A) set).getD j 0) < hI h 305 ((Lst A (stA A) set).getD j 0)
    · rw [if_pos hlt]
      simp only [rX12_laysStill_107, rX12_laysStill_108, rX12_laysStill_111, rX12_laysStill_112, rX12_laysStill_115, rX12_laysStill_117, rX12_laysStill_118, rX12_laysStill_120, rX12_laysStill_121, rX12_laysStill_122, rX12_laysStill_123, rX12_laysStill_126, Md_K280 m, Md_R281 m, Md_K281 m, Md_R282 m, Md_K282 m, Md_R283 m, Md_K283 m, Md_R284 m, Md_K284 m, Md_R285 m, Md_K285 m, Md_R286 m, Md_K286 m, Md_R287 m, Md_K287 m, Md_R288 m, Md_K288 m, Md_R289 m, Md_K289 m, Md_R290 m, Md_K290 m, Md_R291 m, Md_K291 m, Md_R292 m, Md_K292 m, Md_R293 m, Md_K293 m, Md_R294 m, Md_K294 m, Md_R295 m, Md_K295 m, Md_R296 m, Md_K296 m, Md_R297 m, Md_K297 m, Md_R298 m, Md_K298 m, Md_R299 m, Md_K299 m, j6', od, sl, dn2 j6, Int.toNat_natCast, Int.natCast_nonneg, true_and, and_true, and_self, if_true, if_false, or_true, true_or, or_false, false_or, ne_eq, not_true_eq_false, not_false_eq_true, Nat.reduceLeDiff, Nat.reduceEqDiff, Nat.reduceLT, Nat.reduceAdd, Nat.reduceMul, Nat.reduceSub, Int.reduceLT, Int.reduceLE, Int.reduceEq, Int.reduceToNat, Int.reduceAdd, Int.reduceSub, Int.reduceMul, Int.reduceNeg, Int.cast_ofNat_Int, false_and, and_false]
      obtain ⟨si2, l0⟩ := si.put po so hset (getD_mem jl) hlt
      refine ih _ 1 _ (by omega) (f.wI (by exact rfl) _) si2 (Or.inr ⟨rfl, ?_⟩)
      have dec : sumV (hI (wI h 305 ((Lst A (stA A) set).getD j 0) (lbV A (stA A) (hI h 305) set ((Lst A (stA A) set).getD j 0))) 305) (Lst A (stA A) set) (Lst A (stA A) set).length < sumV (hI h 305) (Lst A (stA A) set) (Lst A (stA A) set).length := by
        refine sumV_lt ok (k := j) ?_ ?_ ?_ _ jl (Nat.le_refl _)
        · rw [hI_wI, if_pos ⟨rfl, rfl⟩]; exact l0
        · rw [hI_wI, if_pos ⟨rfl, rfl⟩]; exact hlt
        · intro s hne; rw [hI_wI, if_neg (fun q => hne q.2)]
      rcases c with ⟨_, e, _⟩ | ⟨_, e⟩
      · rw [e] at dec ⊢; exact dec
      · exact Nat.lt_trans dec e
    · rw [if_neg hlt]
      simp only [rX12_laysStill_104, rX12_laysStill_123, rX12_laysStill_126, dn2 j6]
      refine ih h fl _ (by omega) f si ?_
      rcases c with ⟨e1, e2, e3⟩ | c
      · refine Or.inl ⟨e1, e2, fun p h1 h2 => ?_⟩
        by_cases he : p = j
        · rw [he, ← e2]; exact Int.not_lt.1 hlt
        · exact e3 p (by omega) h2
      · exact Or.inr c
set_option maxHeartbeats 1000000 in
theorem st_outer {d : Nat} {Q : Option PV → Hp → Prop} {A : Nat → Int} {set goal : Nat} (po : poolOk A) (so : stOk (stA A)) (hset : set < 2 ^ (A 2).toNat) {h0 : Hp} (x0 : RLs h0 A set)
    (cont : ∀ h' x4 x5, Fp siP h0 h' → SI h' A set goal → Dwn h' A set 0 → WP (d + 2) mX12_laysStill 132 [some (.inr (.inr 294)), some (.inl (goal : Int)), some (.inl (set : Int)), some (.inl 0), x4, x5] [] h' Q) :
    ∀ (m : Nat) (h : Hp) (x4 x5 : Option PV), sumV (hI h 305) (Lst A (stA A) set) (Lst A (stA A) set).length ≤ m → Fp siP h0 h → SI h A set goal → WP (d + 2) mX12_laysStill 54 [some (.inr (.inr 294)), some (.inl (goal : Int)), some (.inl (set : Int)), some (.inl 1), x4, x5] [] h Q := by
  have ll := x0.2.2.2.1.len
  have body : ∀ (h : Hp) (x4 x5 : Option PV) (P : Prop), Fp siP h0 h → SI h A set goal → (∀ h', Fp siP h0 h' → SI h' A set goal → sumV (hI h' 305) (Lst A (stA A) set) (Lst A (stA A) set).length < sumV (hI h 305) (Lst A (stA A) set) (Lst A (stA A) set).length → ∀ y4 y5, WP (d + 2) mX12_laysStill 54 [some (.inr (.inr 294)), some (.inl (goal : Int)), some (.inl (set : Int)), some (.inl 1), y4, y5] [] h' Q) → WP (d + 2) mX12_laysStill 54 [some (.inr (.inr 294)), some (.inl (goal : Int)), some (.inl (set : Int)), some (.inl 1), x4, x5] [] h Q := by
    intro h x4 x5 _ f si again
    have x := x0.si f
    have m := x.1
    rw [rX12_laysStill_54]
    simp only [rX12_laysStill_55, rX12_laysStill_58, rX12_laysStill_59, rX12_laysStill_60, rX12_laysStill_61, rX12_laysStill_64, rX12_laysStill_65, rX12_laysStill_66, Md_K280 m, Md_R281 m, Md_K281 m, Md_R282 m, Md_K282 m, Md_R283 m, Md_K283 m, Md_R284 m, Md_K284 m, Md_R285 m, Md_K285 m, Md_R286 m, Md_K286 m, Md_R287 m, Md_K287 m, Md_R288 m, Md_K288 m, Md_R289 m, Md_K289 m, Md_R290 m, Md_K290 m, Md_R291 m, Md_K291 m, Md_R292 m, Md_K292 m, Md_R293 m, Md_K293 m, Md_R294 m, Md_K294 m, Md_R295 m, Md_K295 m, Md_R296 m, Md_K296 m, Md_R297 m, Md_K297 m, Md_R298 m, Md_K298 m, Md_R299 m, Md_K299 m, x.2.2.1, dn3 ll, Int.toNat_natCast, Int.natCast_nonneg, true_and, and_true, and_self, if_true, if_false, or_true, true_or, or_false, false_or, ne_eq, not_true_eq_false, not_false_eq_true, Nat.reduceLeDiff, Nat.reduceEqDiff, Nat.reduceLT, Nat.reduceAdd, Nat.reduceMul, Nat.reduceSub, Int.reduceLT, Int.reduceLE, Int.reduceEq, Int.reduceToNat, Int.reduceAdd, Int.reduceSub, Int.reduceMul, Int.reduceNeg, Int.cast_ofNat_Int, false_and, and_false]
    refine st_inner po so hset x ?_ _ h 0 _ (Nat.le_refl _) (Fp.refl _ h) si (Or.inl ⟨rfl, rfl, fun p h1 h2 => by omega⟩)
    intro h' fl y5 f' si' c
    simp only [rX12_laysStill_129]
    rcases c with ⟨e1, e2, e3⟩ | ⟨e1, e2⟩
    · subst e1 e2
      rw [rX12_laysStill_54]
      simp only [rX12_laysStill_55, Int.toNat_natCast, Int.natCast_nonneg, true_and, and_true, and_self, if_true, if_false, or_true, true_or, or_false, false_or, ne_eq, not_true_eq_false, not_false_eq_true, Nat.reduceLeDiff, Nat.reduceEqDiff, Nat.reduceLT, Nat.reduceAdd, Nat.reduceMul, Nat.reduceSub, Int.reduceLT, Int.reduceLE, Int.reduceEq, Int.reduceToNat, Int.reduceAdd, Int.reduceSub, Int.reduceMul, Int.reduceNeg, Int.cast_ofNat_Int, false_and, and_false]
      exact cont h' _ _ f si' e3
    · subst e1
      exact again h' (f.trans f') si' e2 _ _
  intro m
  induction m with
  | zero => intro h x4 x5 hm f si; exact body h x4 x5 True f si (fun h' _ _ hlt => by omega)
  | succ m ih => intro h x4 x5 hm f si; exact body h x4 x5 True f si (fun h' f' si' hlt y4 y5 => ih h' y4 y5 (by omega) f' si')
/-- how far it still is, from all that can be -/
def Still (h : Hp) (A : Nat → Int) (set goal : Nat) : Prop := RLs h A set ∧ ∀ s, s ∈ Lst A (stA A) set → (hI h 305 s = 268435456 ∨ ∃ n : Nat, hI h 305 s = (n : Int) ∧ n ≤ 268435456 ∧ Pt (nxt A (stA A)) set (A 2).toNat (glB goal) n s) ∧ ∀ n : Nat, n < 268435456 → Pt (nxt A (stA A)) set (A 2).toNat (glB goal) n s → hI h 305 s ≤ (n : Int)
theorem Dwn.still {h : Hp} {A : Nat → Int} {set goal : Nat} (po : poolOk A) (so : stOk (stA A)) (hset : set < 2 ^ (A 2).toNat) (x : RLs h A set) (si : SI h A set goal) (dn : Dwn h A set 0) : Still h A set goal := by
  have G6 := po.2.2.2.1
  refine ⟨x, fun s hs => ⟨(si s hs).1, ?_⟩⟩
  have main : ∀ n : Nat, ∀ s, s ∈ Lst A (stA A) set → n < 268435456 → Pt (nxt A (stA A)) set (A 2).toNat (glB goal) n s → hI h 305 s ≤ (n : Int) := by
    intro n
    induction n with
    | zero => intro s hs _ hp; rw [(si s hs).2 hp]; exact Int.le_refl _
    | succ n ih =>
      intro s hs hn hp
      obtain ⟨g, hg, hb, h2⟩ := hp
      have a := ih _ (Lst_cl po so hg hb hs) (by omega) h2
      obtain ⟨p, hp, e⟩ := mem_getD hs
      have b := dn p (Nat.zero_le _) hp
      rw [e] at b
      have l := (lbN_le (A := A) (F := stA A) (V := hI h 305) (set := set) (s := s) 6).2.1 g (by omega) hb
      unfold lbV at b
      rw [if_neg (by omega)] at b
      omega
  intro n hn hp
  exact main n s hs hn hp
def stP2 (a k : Nat) : Prop := rsP a k ∨ a = 305
set_option maxHeartbeats 1000000 in
theorem S_laysStill {d : Nat} {Q : Option PV → Hp → Prop} {h : Hp} {A : Nat → Int} (x : RpF h A) (so : stOk (stA A)) {set goal : Nat} (hset : set < 2 ^ (A 2).toNat) (hgl : glOk goal)
    (k : ∀ h', Fp stP2 h h' → Still h' A set goal → Q (some (.inl (hI h' 305 (stt (stA A))))) h') : WP (d + 4) mX12_laysStill 0 [some (.inr (.inr 294)), some (.inl (goal : Int)), some (.inl (set : Int)), none, none, none] [] h Q := by
  have m := x.1
  have po := x.2.2
  simp only [rX12_laysStill_0, rX12_laysStill_1, rX12_laysStill_2, Md_K280 m, Md_R281 m, Md_K281 m, Md_R282 m, Md_K282 m, Md_R283 m, Md_K283 m, Md_R284 m, Md_K284 m, Md_R285 m, Md_K285 m, Md_R286 m, Md_K286 m, Md_R287 m, Md_K287 m, Md_R288 m, Md_K288 m, Md_R289 m, Md_K289 m, Md_R290 m, Md_K290 m, Md_R291 m, Md_K291 m, Md_R292 m, Md_K292 m, Md_R293 m, Md_K293 m, Md_R294 m, Md_K294 m, Md_R295 m, Md_K295 m, Md_R296 m, Md_K296 m, Md_R297 m, Md_K297 m, Md_R298 m, Md_K298 m, Md_R299 m, Md_K299 m, Int.toNat_natCast, Int.natCast_nonneg, true_and, and_true, and_self, if_true, if_false, or_true, true_or, or_false, false_or, ne_eq, not_true_eq_false, not_false_eq_true, Nat.reduceLeDiff, Nat.reduceEqDiff, Nat.reduceLT, Nat.reduceAdd, Nat.reduceMul, Nat.reduceSub, Int.reduceLT, Int.reduceLE, Int.reduceEq, Int.reduceToNat, Int.reduceAdd, Int.reduceSub, Int.reduceMul, Int.reduceNeg, Int.cast_ofNat_Int, false_and, and_false]
  refine S_laysStands x so (set64 po hset) ?_
  intro h1 f1 x1
  have ok := x1.2.2.2.1
  have ll := ok.len
  simp only [psh_none, rX12_laysStill_5, rX12_laysStill_6]
  refine wp_for (fun i h' => WP (d + 4) mX12_laysStill 7 [some (.inr (.inr 294)), some (.inl (goal : Int)), some (.inl (set : Int)), some (.inl (i : Int)), none, none] [] h' Q) (fun i h' => Fp siP h1 h' ∧ ∀ p, p < i → hI h' 305 ((Lst A (stA A) set).getD p 0) = if glB goal ((Lst A (stA A) set).getD p 0) = true then 0 else 268435456) (Lst A (stA A) set).length ?_ ?_ 0 h1 (Nat.zero_le _) ⟨Fp.refl _ h1, fun p hp => absurd hp (Nat.not_lt_zero _)⟩
  · rintro i h' hi ⟨f, e⟩ kk
    have i6 : (i : Int) < 6400 := by omega
    have c1 : (i : Int) < ((Lst A (stA A) set).length : Int) := by omega
    have l2 : w32 ((i : Int) + 1) = ((i + 1 : Nat) : Int) := w32_s (by omega)
    have x' := x1.si f
    have m' := x'.1
    have len := x'.2.2.1
    have od := x'.2.2.2.2.1 i hi
    have hs := getD_lt ok hi
    have sl := lt64 hs
    have nx : ∀ v, v = (if glB goal ((Lst A (stA A) set).getD i 0) = true then (0 : Int) else 268435456) → WP (d + 4) mX12_laysStill 7 [some (.inr (.inr 294)), some (.inl (goal : Int)), some (.inl (set : Int)), some (.inl ((i + 1 : Nat) : Int)), none, none] [] (wI h' 305 ((Lst A (stA A) set).getD i 0) v) Q := by
      intro v hv
      refine kk _ ⟨f.wI (by exact rfl) _, fun p hp => ?_⟩
      rw [hI_wI]
      by_cases he : p = i
      · rw [he, if_pos ⟨rfl, rfl⟩, hv]
      · rw [if_neg (fun q => he (getD_inj ok (by omega) hi q.2))]
        exact e p (by omega)
    rw [rX12_laysStill_7]
    simp only [rX12_laysStill_8, rX12_laysStill_9, rX12_laysStill_12, rX12_laysStill_15, rX12_laysStill_16, rX12_laysStill_19, rX12_laysStill_20, rX12_laysStill_23, rX12_laysStill_24, rX12_laysStill_25, rX12_laysStill_26, rX12_laysStill_29, rX12_laysStill_30, rX12_laysStill_31, rX12_laysStill_32, rX12_laysStill_35, Md_K280 m', Md_R281 m', Md_K281 m', Md_R282 m', Md_K282 m', Md_R283 m', Md_K283 m', Md_R284 m', Md_K284 m', Md_R285 m', Md_K285 m', Md_R286 m', Md_K286 m', Md_R287 m', Md_K287 m', Md_R288 m', Md_K288 m', Md_R289 m', Md_K289 m', Md_R290 m', Md_K290 m', Md_R291 m', Md_K291 m', Md_R292 m', Md_K292 m', Md_R293 m', Md_K293 m', Md_R294 m', Md_K294 m', Md_R295 m', Md_K295 m', Md_R296 m', Md_K296 m', Md_R297 m', Md_K297 m', Md_R298 m', Md_K298 m', Md_R299 m', Md_K299 m', len, c1, i6, od, S_goal hs hgl, psh_some, Int.toNat_natCast, Int.natCast_nonneg, true_and, and_true, and_self, if_true, if_false, or_true, true_or, or_false, false_or, ne_eq, not_true_eq_false, not_false_eq_true, Nat.reduceLeDiff, Nat.reduceEqDiff, Nat.reduceLT, Nat.reduceAdd, Nat.reduceMul, Nat.reduceSub, Int.reduceLT, Int.reduceLE, Int.reduceEq, Int.reduceToNat, Int.reduceAdd, Int.reduceSub, Int.reduceMul, Int.reduceNeg, Int.cast_ofNat_Int, false_and, and_false]
    by_cases hg : glB goal ((Lst A (stA A) set).getD i 0) = true
    · rw [if_pos hg] at nx ⊢
      rw [if_neg (by decide)]
      simp only [rX12_laysStill_38, rX12_laysStill_39, rX12_laysStill_45, rX12_laysStill_46, rX12_laysStill_49, Md_K280 m', Md_R281 m', Md_K281 m', Md_R282 m', Md_K282 m', Md_R283 m', Md_K283 m', Md_R284 m', Md_K284 m', Md_R285 m', Md_K285 m', Md_R286 m', Md_K286 m', Md_R287 m', Md_K287 m', Md_R288 m', Md_K288 m', Md_R289 m', Md_K289 m', Md_R290 m', Md_K290 m', Md_R291 m', Md_K291 m', Md_R292 m', Md_K292 m', Md_R293 m', Md_K293 m', Md_R294 m', Md_K294 m', Md_R295 m', Md_K295 m', Md_R296 m', Md_K296 m', Md_R297 m', Md_K297 m', Md_R298 m', Md_K298 m', Md_R299 m', Md_K299 m', sl, l2, Int.toNat_natCast, Int.natCast_nonneg, true_and, and_true, and_self, if_true, if_false, or_true, true_or, or_false, false_or, ne_eq, not_true_eq_false, not_false_eq_true, Nat.reduceLeDiff, Nat.reduceEqDiff, Nat.reduceLT, Nat.reduceAdd, Nat.reduceMul, Nat.reduceSub, Int.reduceLT, Int.reduceLE, Int.reduceEq, Int.reduceToNat, Int.reduceAdd, Int.reduceSub, Int.reduceMul, Int.reduceNeg, Int.cast_ofNat_Int, false_and, and_false]
      exact nx 0 rfl
    · rw [if_neg hg] at nx ⊢
      rw [if_pos (by trivial)]
      simp only [rX12_laysStill_42, rX12_laysStill_45, rX12_laysStill_46, rX12_laysStill_49, Md_K280 m', Md_R281 m', Md_K281 m', Md_R282 m', Md_K282 m', Md_R283 m', Md_K283 m', Md_R284 m', Md_K284 m', Md_R285 m', Md_K285 m', Md_R286 m', Md_K286 m', Md_R287 m', Md_K287 m', Md_R288 m', Md_K288 m', Md_R289 m', Md_K289 m', Md_R290 m', Md_K290 m', Md_R291 m', Md_K291 m', Md_R292 m', Md_K292 m', Md_R293 m', Md_K293 m', Md_R294 m', Md_K294 m', Md_R295 m', Md_K295 m', Md_R296 m', Md_K296 m', Md_R297 m', Md_K297 m', Md_R298 m', Md_K298 m', Md_R299 m', Md_K299 m', sl, l2, Int.toNat_natCast, Int.natCast_nonneg, true_and, and_true, and_self, if_true, if_false, or_true, true_or, or_false, false_or, ne_eq, not_true_eq_false, not_false_eq_true, Nat.reduceLeDiff, Nat.reduceEqDiff, Nat.reduceLT, Nat.reduceAdd, Nat.reduceMul, Nat.reduceSub, Int.reduceLT, Int.reduceLE, Int.reduceEq, Int.reduceToNat, Int.reduceAdd, Int.reduceSub, Int.reduceMul, Int.reduceNeg, Int.cast_ofNat_Int, false_and, and_false]
      exact nx _ rfl
  · rintro h' ⟨f, e⟩
    have x' := x1.si f
    have m' := x'.1
    have len := x'.2.2.1
    rw [rX12_laysStill_7]
    simp only [rX12_laysStill_8, rX12_laysStill_9, rX12_laysStill_12, rX12_laysStill_52, rX12_laysStill_53, Md_K280 m', Md_R281 m', Md_K281 m', Md_R282 m', Md_K282 m', Md_R283 m', Md_K283 m', Md_R284 m', Md_K284 m', Md_R285 m', Md_K285 m', Md_R286 m', Md_K286 m', Md_R287 m', Md_K287 m', Md_R288 m', Md_K288 m', Md_R289 m', Md_K289 m', Md_R290 m', Md_K290 m', Md_R291 m', Md_K291 m', Md_R292 m', Md_K292 m', Md_R293 m', Md_K293 m', Md_R294 m', Md_K294 m', Md_R295 m', Md_K295 m', Md_R296 m', Md_K296 m', Md_R297 m', Md_K297 m', Md_R298 m', Md_K298 m', Md_R299 m', Md_K299 m', len, Int.lt_irrefl, Int.toNat_natCast, Int.natCast_nonneg, true_and, and_true, and_self, if_true, if_false, or_true, true_or, or_false, false_or, ne_eq, not_true_eq_false, not_false_eq_true, Nat.reduceLeDiff, Nat.reduceEqDiff, Nat.reduceLT, Nat.reduceAdd, Nat.reduceMul, Nat.reduceSub, Int.reduceLT, Int.reduceLE, Int.reduceEq, Int.reduceToNat, Int.reduceAdd, Int.reduceSub, Int.reduceMul, Int.reduceNeg, Int.cast_ofNat_Int, false_and, and_false]
    have si : SI h' A set goal := fun s hs => by
      obtain ⟨p, hp, es⟩ := mem_getD hs
      have := e p hp
      rw [es] at this
      rw [this]
      by_cases hg : glB goal s = true
      · rw [if_pos hg]; exact ⟨Or.inr ⟨0, rfl, by decide, hg⟩, fun _ => rfl⟩
      · rw [if_neg hg]; exact ⟨Or.inl rfl, fun q => absurd q hg⟩
    refine st_outer (d := d + 2) po so hset x' ?_ _ h' _ _ (Nat.le_refl _) (Fp.refl _ h') si
    intro h2 y4 y5 f2 si2 dn2
    have x2 := x'.si f2
    have m2 := x2.1
    have sl := lt64 (stt_lt so)
    have rp2 : RpF h2 A := ⟨m2, x2.2.1, po⟩
    simp only [rX12_laysStill_132, rX12_laysStill_133, rX12_laysStill_136, rX12_laysStill_137, rX12_laysStill_140, rX12_laysStill_141, Md_K280 m2, Md_R281 m2, Md_K281 m2, Md_R282 m2, Md_K282 m2, Md_R283 m2, Md_K283 m2, Md_R284 m2, Md_K284 m2, Md_R285 m2, Md_K285 m2, Md_R286 m2, Md_K286 m2, Md_R287 m2, Md_K287 m2, Md_R288 m2, Md_K288 m2, Md_R289 m2, Md_K289 m2, Md_R290 m2, Md_K290 m2, Md_R291 m2, Md_K291 m2, Md_R292 m2, Md_K292 m2, Md_R293 m2, Md_K293 m2, Md_R294 m2, Md_K294 m2, Md_R295 m2, Md_K295 m2, Md_R296 m2, Md_K296 m2, Md_R297 m2, Md_K297 m2, Md_R298 m2, Md_K298 m2, Md_R299 m2, Md_K299 m2, S_standNow rp2 so, psh_some, sl, Int.toNat_natCast, Int.natCast_nonneg, true_and, and_true, and_self, if_true, if_false, or_true, true_or, or_false, false_or, ne_eq, not_true_eq_false, not_false_eq_true, Nat.reduceLeDiff, Nat.reduceEqDiff, Nat.reduceLT, Nat.reduceAdd, Nat.reduceMul, Nat.reduceSub, Int.reduceLT, Int.reduceLE, Int.reduceEq, Int.reduceToNat, Int.reduceAdd, Int.reduceSub, Int.reduceMul, Int.reduceNeg, Int.cast_ofNat_Int, false_and, and_false]
    exact k h2 (((f1.mono (fun a k q => Or.inl q)).trans (f.mono (fun a k q => Or.inr q))).trans (f2.mono (fun a k q => Or.inr q))) (dn2.still po so hset x2 si2)
