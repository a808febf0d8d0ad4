/-! the reference: how far it still is to a goal -/
def glB (goal s : Nat) : Bool := if goal < 100 then (s / 100).testBit goal else decide (s % 100 = goal - 100)
def glOk (goal : Nat) : Prop := goal < 6 ∨ (100 ≤ goal ∧ goal < 200)
theorem S_goal {d : Nat} {h : Hp} {Q : Option PV → Hp → Prop} {s goal : Nat} (hs : s < 6400) (hg : glOk goal) : WP (d + 1) mX12_isGoal 0 [some (.inl (s : Int)), some (.inl (goal : Int))] [] h Q = Q (some (.inl (if glB goal s = true then 1 else 0))) h := by
  unfold glB
  rcases hg with h6 | ⟨h1, h2⟩
  · rw [S_isGoal hs h6, if_pos (show goal < 100 by omega)]
  · have c : ¬ ((goal : Int) < 100) := by omega
    have e : w32 ((goal : Int) - 100) = ((goal - 100 : Nat) : Int) := by rw [w32_i (by omega) (by omega)]; omega
    rw [if_neg (show ¬ goal < 100 by omega)]
    simp only [rX12_isGoal_0, rX12_isGoal_1, rX12_isGoal_3, rX12_isGoal_6, rX12_isGoal_7, rX12_isGoal_9, rX12_isGoal_10, rX12_isGoal_11, rX12_isGoal_12, rX12_isGoal_15, rX12_isGoal_18, rX12_isGoal_19, rX12_isGoal_21, rX12_isGoal_22, rX12_isGoal_23, rX12_isGoal_25, rX12_isGoal_26, rX12_isGoal_29, rX12_isGoal_30, rX12_isGoal_33, rX12_isGoal_34, c, mod100, e, eq_n, Int.toNat_natCast, Int.natCast_nonneg, true_and, and_true, and_self, if_true, if_false, or_true, true_or, or_false, false_or, ne_eq, not_true_eq_false, not_false_eq_true, Nat.reduceLeDiff, Nat.reduceEqDiff, Nat.reduceLT, Nat.reduceAdd, Nat.reduceMul, Nat.reduceSub, Int.reduceLT, Int.reduceLE, Int.reduceEq, Int.reduceToNat, Int.reduceAdd, Int.reduceSub, Int.reduceMul, Int.reduceNeg, Int.cast_ofNat_Int, false_and, and_false]
    by_cases hq : s % 100 = goal - 100
    · simp [hq]
    · simp [hq]
def lbN (A F : Nat → Int) (V : Nat → Int) (set s : Nat) : Nat → Int
  | 0 => 268435456
  | g + 1 => if set.testBit g = true ∧ V (nxt A F g s) < lbN A F V set s g then V (nxt A F g s) else lbN A F V set s g
theorem lbN_le {A F V : Nat → Int} {set s : Nat} : ∀ n, (lbN A F V set s n ≤ 268435456) ∧ (∀ g, g < n → set.testBit g = true → lbN A F V set s n ≤ V (nxt A F g s)) ∧ (lbN A F V set s n = 268435456 ∨ ∃ g, g < n ∧ set.testBit g = true ∧ lbN A F V set s n = V (nxt A F g s)) := by
  intro n
  induction n with
  | zero => exact ⟨Int.le_refl _, fun g hg => absurd hg (Nat.not_lt_zero _), Or.inl rfl⟩
  | succ n ih =>
    obtain ⟨a, b, c⟩ := ih
    unfold lbN
    by_cases h : set.testBit n = true ∧ V (nxt A F n s) < lbN A F V set s n
    · rw [if_pos h]
      refine ⟨by omega, fun g hg hb => ?_, Or.inr ⟨n, by omega, h.1, rfl⟩⟩
      by_cases he : g = n
      · rw [he]; exact Int.le_refl _
      · have := b g (by omega) hb; omega
    · rw [if_neg h]
      refine ⟨a, fun g hg hb => ?_, ?_⟩
      · by_cases he : g = n
        · subst he
          by_cases q : V (nxt A F g s) < lbN A F V set s g
          · exact absurd ⟨hb, q⟩ h
          · omega
        · exact b g (by omega) hb
      · rcases c with c | ⟨g, h1, h2, h3⟩
        · exact Or.inl c
        · exact Or.inr ⟨g, by omega, h2, h3⟩
def lbV (A F : Nat → Int) (V : Nat → Int) (set s : Nat) : Int := if lbN A F V set s 6 = 268435456 then 268435456 else lbN A F V set s 6 + 1
theorem bit_G {set G g : Nat} (hs : set < 2 ^ G) (hb : set.testBit g = true) : g < G := by
  by_cases h : g < G
  · exact h
  · rw [Nat.testBit_lt_two_pow (Nat.lt_of_lt_of_le hs (Nat.pow_le_pow_right (by decide) (by omega)))] at hb
    exact absurd hb (by decide)
/-- the row of steps still to go holds numbers that are no larger than FAR -/
def VOk (h : Hp) (L : List Nat) : Prop := ∀ s, s ∈ L → 0 ≤ hI h 305 s ∧ hI h 305 s ≤ 268435456
theorem RW.then {h : Hp} {A : Nat → Int} {set : Nat} (x : RLs h A set) {p g : Nat} (hp : p < (Lst A (stA A) set).length) (hg : (g : Int) < A 2) (hb : set.testBit g = true) : hI h 304 (6 * (Lst A (stA A) set).getD p 0 + g) = (nxt A (stA A) g ((Lst A (stA A) set).getD p 0) : Int) := x.2.2.2.2.2.2.2 p g hp hg hb (Or.inl hp)
theorem lt64 {n : Nat} (h : n < 6400) : (n : Int) < 6400 := Int.ofNat_lt.2 h
theorem w_lb {z : Int} (h0 : 0 ≤ z) (h1 : z ≤ 268435456) : w32 (z + 1) = z + 1 := w32_i (by omega) (by omega)
set_option maxHeartbeats 1000000 in
theorem S_leastBy {d : Nat} {Q : Option PV → Hp → Prop} {h : Hp} {A : Nat → Int} {set : Nat} (po : poolOk A) (so : stOk (stA A)) (hset : set < 2 ^ (A 2).toNat) (x : RLs h A set) (v : VOk h (Lst A (stA A) set)) {p : Nat} (hp : p < (Lst A (stA A) set).length) :
    WP (d + 1) mX12_leastBy 0 [some (.inr (.inr 294)), some (.inl ((Lst A (stA A) set).getD p 0 : Int)), some (.inl (set : Int)), none, none] [] h Q = Q (some (.inl (lbV A (stA A) (hI h 305) set ((Lst A (stA A) set).getD p 0)))) h := by
  have m := x.1
  have s64 := set64 po hset
  have ok := x.2.2.2.1
  have hs := getD_lt ok hp
  simp only [rX12_leastBy_0, rX12_leastBy_3, rX12_leastBy_4, rX12_leastBy_5]
  have fin : Q (some (.inl (lbV A (stA A) (hI h 305) set ((Lst A (stA A) set).getD p 0)))) h = WP (d + 1) mX12_leastBy 69 [some (.inr (.inr 294)), some (.inl ((Lst A (stA A) set).getD p 0 : Int)), some (.inl (set : Int)), some (.inl (lbN A (stA A) (hI h 305) set ((Lst A (stA A) set).getD p 0) 6)), some (.inl 6)] [] h Q := by
    have l := lbN_le (A := A) (F := stA A) (V := hI h 305) (set := set) (s := (Lst A (stA A) set).getD p 0) 6
    unfold lbV
    simp only [rX12_leastBy_69, rX12_leastBy_70, rX12_leastBy_73, rX12_leastBy_76, rX12_leastBy_79, rX12_leastBy_82, rX12_leastBy_83, rX12_leastBy_84, rX12_leastBy_85]
    by_cases hq : lbN A (stA A) (hI h 305) set ((Lst A (stA A) set).getD p 0) 6 = 268435456
    · rw [if_pos hq, if_pos hq]
    · rw [if_neg hq, if_neg hq]
      rcases l.2.2 with c | ⟨g, h1, h2, h3⟩
      · exact absurd c hq
      · have gG := bit_G hset h2
        have := v _ (Lst_cl po so gG h2 (getD_mem hp))
        rw [w_lb (by rw [h3]; exact this.1) (by rw [h3]; exact this.2)]
  rw [fin]
  have main : ∀ n g, g + n = 6 → WP (d + 1) mX12_leastBy 7 [some (.inr (.inr 294)), some (.inl ((Lst A (stA A) set).getD p 0 : Int)), some (.inl (set : Int)), some (.inl (lbN A (stA A) (hI h 305) set ((Lst A (stA A) set).getD p 0) g)), some (.inl (g : Int))] [] h Q = WP (d + 1) mX12_leastBy 69 [some (.inr (.inr 294)), some (.inl ((Lst A (stA A) set).getD p 0 : Int)), some (.inl (set : Int)), some (.inl (lbN A (stA A) (hI h 305) set ((Lst A (stA A) set).getD p 0) 6)), some (.inl 6)] [] h Q := by
    intro n
    induction n with
    | zero =>
      intro g hg
      have : g = 6 := by omega
      subst this
      rw [rX12_leastBy_7]
      simp only [rX12_leastBy_9, rX12_leastBy_11, Int.toNat_natCast, Int.natCast_nonneg, true_and, and_true, and_self, if_true, if_false, or_true, true_or, or_false, false_or, ne_eq, not_true_eq_false, not_false_eq_true, Nat.reduceLeDiff, Nat.reduceEqDiff, Nat.reduceLT, Nat.reduceAdd, Nat.reduceMul, Nat.reduceSub, Int.reduceLT, Int.reduceLE, Int.reduceEq, Int.reduceToNat, Int.reduceAdd, Int.reduceSub, Int.reduceMul, Int.reduceNeg, Int.cast_ofNat_Int, false_and, and_false]
    | succ n ih =>
      intro g hg
      have l1 : (g : Int) < 6 := by omega
      have g6 : g < 6 := by omega
      have l2 : w32 ((g : Int) + 1) = ((g + 1 : Nat) : Int) := w32_s (by omega)
      obtain ⟨i1, i2, i3, i4, i5, i6, i7, i8⟩ := ix6 g6 hs
      have go := ih (g + 1) (by omega)
      unfold lbN at go
      rw [rX12_leastBy_7]
      simp only [rX12_leastBy_9, rX12_leastBy_11, rX12_leastBy_14, rX12_leastBy_15, rX12_leastBy_16, rX12_leastBy_18, rX12_leastBy_21, l1, S_isIn s64 g6, psh_some, Int.toNat_natCast, Int.natCast_nonneg, true_and, and_true, and_self, if_true, if_false, or_true, true_or, or_false, false_or, ne_eq, not_true_eq_false, not_false_eq_true, Nat.reduceLeDiff, Nat.reduceEqDiff, Nat.reduceLT, Nat.reduceAdd, Nat.reduceMul, Nat.reduceSub, Int.reduceLT, Int.reduceLE, Int.reduceEq, Int.reduceToNat, Int.reduceAdd, Int.reduceSub, Int.reduceMul, Int.reduceNeg, Int.cast_ofNat_Int, false_and, and_false]
      by_cases hb : set.testBit g = true
      · have gG := bit_G hset hb
        have gA : (g : Int) < A 2 := by omega
        have e := RW.then x hp gA hb
        have nl := lt64 (nxt_lt po.2.2.2.2.1 hs (g := g) (F := stA A))
        rw [if_pos hb, if_neg (by decide)]
        simp only [rX12_leastBy_24, rX12_leastBy_25, rX12_leastBy_28, rX12_leastBy_29, rX12_leastBy_32, rX12_leastBy_34, rX12_leastBy_35, rX12_leastBy_36, rX12_leastBy_38, rX12_leastBy_39, rX12_leastBy_40, rX12_leastBy_41, rX12_leastBy_42, Md_K280 m, Md_R281 m, Md_K281 m, Md_R282 m, Md_K282 m, Md_R283 m, Md_K283 m, Md_R284 m, Md_K284 m, Md_R285 m, Md_K285 m, Md_R286 m, Md_K286 m, Md_R287 m, Md_K287 m, Md_R288 m, Md_K288 m, Md_R289 m, Md_K289 m, Md_R290 m, Md_K290 m, Md_R291 m, Md_K291 m, Md_R292 m, Md_K292 m, Md_R293 m, Md_K293 m, Md_R294 m, Md_K294 m, Md_R295 m, Md_K295 m, Md_R296 m, Md_K296 m, Md_R297 m, Md_K297 m, Md_R298 m, Md_K298 m, Md_R299 m, Md_K299 m, i1, i2, i3, e, nl, Int.toNat_natCast, Int.natCast_nonneg, true_and, and_true, and_self, if_true, if_false, or_true, true_or, or_false, false_or, ne_eq, not_true_eq_false, not_false_eq_true, Nat.reduceLeDiff, Nat.reduceEqDiff, Nat.reduceLT, Nat.reduceAdd, Nat.reduceMul, Nat.reduceSub, Int.reduceLT, Int.reduceLE, Int.reduceEq, Int.reduceToNat, Int.reduceAdd, Int.reduceSub, Int.reduceMul, Int.reduceNeg, Int.cast_ofNat_Int, false_and, and_false]
        by_cases hlt : hI h 305 (nxt A (stA A) g ((Lst A (stA A) set).getD p 0)) < lbN A (stA A) (hI h 305) set ((Lst A (stA A) set).getD p 0) g
        · rw [if_pos ⟨hb, hlt⟩] at go
          rw [if_pos hlt]
          simp only [rX12_leastBy_45, rX12_leastBy_46, rX12_leastBy_49, rX12_leastBy_50, rX12_leastBy_53, rX12_leastBy_55, rX12_leastBy_56, rX12_leastBy_57, rX12_leastBy_59, rX12_leastBy_60, rX12_leastBy_61, rX12_leastBy_62, rX12_leastBy_63, rX12_leastBy_66, Md_K280 m, Md_R281 m, Md_K281 m, Md_R282 m, Md_K282 m, Md_R283 m, Md_K283 m, Md_R284 m, Md_K284 m, Md_R285 m, Md_K285 m, Md_R286 m, Md_K286 m, Md_R287 m, Md_K287 m, Md_R288 m, Md_K288 m, Md_R289 m, Md_K289 m, Md_R290 m, Md_K290 m, Md_R291 m, Md_K291 m, Md_R292 m, Md_K292 m, Md_R293 m, Md_K293 m, Md_R294 m, Md_K294 m, Md_R295 m, Md_K295 m, Md_R296 m, Md_K296 m, Md_R297 m, Md_K297 m, Md_R298 m, Md_K298 m, Md_R299 m, Md_K299 m, i1, i2, i3, e, nl, l2, Int.toNat_natCast, Int.natCast_nonneg, true_and, and_true, and_self, if_true, if_false, or_true, true_or, or_false, false_or, ne_eq, not_true_eq_false, not_false_eq_true, Nat.reduceLeDiff, Nat.reduceEqDiff, Nat.reduceLT, Nat.reduceAdd, Nat.reduceMul, Nat.reduceSub, Int.reduceLT, Int.reduceLE, Int.reduceEq, Int.reduceToNat, Int.reduceAdd, Int.reduceSub, Int.reduceMul, Int.reduceNeg, Int.cast_ofNat_Int, false_and, and_false]
          exact go
        · rw [if_neg (fun q => hlt q.2)] at go
          rw [if_neg hlt]
          simp only [rX12_leastBy_63, rX12_leastBy_66, l2]
          exact go
      · rw [if_neg (fun q => hb q.1)] at go
        rw [if_neg hb, if_pos (by trivial)]
        simp only [rX12_leastBy_63, rX12_leastBy_66, l2]
        exact go
  exact main 6 0 rfl
/-- what the row of steps still to go tells, at any time -/
def SI (h : Hp) (A : Nat → Int) (set goal : Nat) : Prop := ∀ s, s ∈ Lst A (stA A) set → (hI h 305 s = 268435456 ∨ ∃ n : Nat, hI h 305 s = (n : Int) ∧ n ≤ 268435456 ∧ Pt (nxt A (stA A)) set (A 2).toNat (glB goal) n s) ∧ (glB goal s = true → hI h 305 s = 0)
theorem SI.v {h : Hp} {A : Nat → Int} {set goal : Nat} (x : SI h A set goal) : VOk h (Lst A (stA A) set) := fun s hs => by
  rcases (x s hs).1 with q | ⟨n, e, hn, _⟩
  · rw [q]; exact ⟨by decide, by decide⟩
  · rw [e]; omega
def sumV (V : Nat → Int) (L : List Nat) : Nat → Nat
  | 0 => 0
  | n + 1 => sumV V L n + (V (L.getD n 0)).toNat
theorem sumV_E {V W : Nat → Int} {L : List Nat} : ∀ n, (∀ p, p < n → W (L.getD p 0) = V (L.getD p 0)) → sumV W L n = sumV V L n := by
  intro n
  induction n with
  | zero => intro _; rfl
  | succ n ih =>
    intro h
    unfold sumV
    rw [ih (fun p hp => h p (by omega)), h n (by omega)]
theorem sumV_lt {V W : Nat → Int} {L : List Nat} (o : lsOk L) {k : Nat} (h0 : 0 ≤ W (L.getD k 0)) (hlt : W (L.getD k 0) < V (L.getD k 0)) (he : ∀ s, s ≠ L.getD k 0 → W s = V s) : ∀ n, k < n → n ≤ L.length → sumV W L n < sumV V L n := by
  intro n
  induction n with
  | zero => intro h; omega
  | succ n ih =>
    intro hk hn
    unfold sumV
    by_cases e : k = n
    · subst e
      rw [sumV_E k (fun p hp => he _ (fun q => by have := getD_inj o (by omega) (by omega) q; omega))]
      omega
    · have := ih (by omega) (by omega)
      rw [he _ (fun q => by have := getD_inj o (by omega) (by omega) q; omega)]
      omega
def siP (a _k : Nat) : Prop := a = 305
theorem RW.si {h h' : Hp} {A : Nat → Int} {set : Nat} {L : List Nat} {k g : Nat} (f : Fp siP h h') (x : RW h A set L k g) : RW h' A set L k g := by
  obtain ⟨x1, x2, x3, x4, x5, x6, x7, x8⟩ := x
  have n : ∀ a k, a ≠ 305 → ¬ siP a k := fun a k h1 => h1
  exact ⟨x1.fr f, x2.fr f (fun k => n _ _ (by decide)), by rw [f.I (n _ _ (by decide))]; exact x3, x4, fun p hp => by rw [f.I (n _ _ (by decide))]; exact x5 p hp, fun p hp => by rw [f.I (n _ _ (by decide))]; exact x6 p hp, fun s hs hn => by rw [f.I (n _ _ (by decide))]; exact x7 s hs hn, fun k' g' h1 h2 h3 h4 => by rw [f.I (n _ _ (by decide))]; exact x8 k' g' h1 h2 h3 h4⟩
theorem SI.put {h : Hp} {A : Nat → Int} {set goal : Nat} (po : poolOk A) (so : stOk (stA A)) (hset : set < 2 ^ (A 2).toNat) (x : SI h A set goal) {s : Nat} (hs : s ∈ Lst A (stA A) set) (hlt : lbV A (stA A) (hI h 305) set s < hI h 305 s) : SI (wI h 305 s (lbV A (stA A) (hI h 305) set s)) A set goal ∧ 0 ≤ lbV A (stA A) (hI h 305) set s := by
  have hv := (x.v s hs).2
  have l := lbN_le (A := A) (F := stA A) (V := hI h 305) (set := set) (s := s) 6
  unfold lbV at hlt ⊢
  by_cases hq : lbN A (stA A) (hI h 305) set s 6 = 268435456
  · rw [if_pos hq] at hlt; omega
  · rw [if_neg hq] at hlt ⊢
    rcases l.2.2 with c | ⟨g, h1, h2, h3⟩
    · exact absurd c hq
    · have gG := bit_G hset h2
      have hn := Lst_cl po so gG h2 hs
      rcases (x _ hn).1 with q | ⟨n, e, hn2, pt⟩
      · rw [h3, q] at hq; exact absurd rfl hq
      · rw [e] at h3
        rw [h3] at hlt ⊢
        refine ⟨fun s' hs' => ?_, by omega⟩
        rw [hI_wI]
        by_cases he : s' = s
        · subst he
          rw [if_pos ⟨rfl, rfl⟩]
          refine ⟨Or.inr ⟨n + 1, by omega, by omega, ⟨g, gG, h2, pt⟩⟩, fun hg => ?_⟩
          have := (x s' hs').2 hg
          omega
        · rw [if_neg (fun q => he q.2)]
          exact x s' hs'
