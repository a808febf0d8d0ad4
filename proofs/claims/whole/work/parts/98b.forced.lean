/-! what one side can force: the reference -/
/-- within n turns, m moves -/
def Wn (f : Nat → Nat → Nat) (gl : Nat → Bool) (one other : Nat) : Nat → Nat → Nat → Prop
  | 0, _, s => gl s = true
  | n + 1, m, s => gl s = true ∨ (if m = 0 then (if one = 0 then Wn f gl one other n 1 s else ∃ g, one.testBit g = true ∧ Wn f gl one other n 1 (f g s)) else (if other = 0 then Wn f gl one other n 0 s else ∀ g, other.testBit g = true → Wn f gl one other n 0 (f g s)))
theorem Wn_s {f : Nat → Nat → Nat} {gl : Nat → Bool} {one other : Nat} : ∀ n m s, Wn f gl one other n m s → Wn f gl one other (n + 1) m s := by
  intro n
  induction n with
  | zero => intro m s h; exact Or.inl h
  | succ n ih =>
    intro m s h
    rcases h with h | h
    · exact Or.inl h
    · refine Or.inr ?_
      by_cases hm : m = 0
      · rw [if_pos hm] at h ⊢
        by_cases h1 : one = 0
        · rw [if_pos h1] at h ⊢; exact ih _ _ h
        · rw [if_neg h1] at h ⊢
          obtain ⟨g, h2, h3⟩ := h
          exact ⟨g, h2, ih _ _ h3⟩
      · rw [if_neg hm] at h ⊢
        by_cases h1 : other = 0
        · rw [if_pos h1] at h ⊢; exact ih _ _ h
        · rw [if_neg h1] at h ⊢
          exact fun g hg => ih _ _ (h g hg)
theorem Wn_le {f : Nat → Nat → Nat} {gl : Nat → Bool} {one other n n' m s : Nat} (h : n ≤ n') (w : Wn f gl one other n m s) : Wn f gl one other n' m s := by
  obtain ⟨k, rfl⟩ := Nat.exists_eq_add_of_le h
  clear h
  induction k with
  | zero => exact w
  | succ k ih => exact Wn_s _ _ _ ih
/-- the least or the greatest of some -/
def mnN (V : Nat → Int) (f : Nat → Nat → Nat) (s set : Nat) (z : Int) : Nat → Int
  | 0 => z
  | n + 1 => if set.testBit n = true ∧ V (f n s) < mnN V f s set z n then V (f n s) else mnN V f s set z n
def mxN (V : Nat → Int) (f : Nat → Nat → Nat) (s set : Nat) (z : Int) : Nat → Int
  | 0 => z
  | n + 1 => if set.testBit n = true ∧ mxN V f s set z n < V (f n s) then V (f n s) else mxN V f s set z n
theorem mnN_le {V : Nat → Int} {f : Nat → Nat → Nat} {s set : Nat} {z : Int} : ∀ n, mnN V f s set z n ≤ z ∧ (∀ g, g < n → set.testBit g = true → mnN V f s set z n ≤ V (f g s)) ∧ (mnN V f s set z n = z ∨ ∃ g, g < n ∧ set.testBit g = true ∧ mnN V f s set z n = V (f g s)) := by
  intro n
  induction n with
  | zero => exact ⟨Int.le_refl _, fun g hg => absurd hg (Nat.not_lt_zero _), Or.inl rfl⟩
  | succ n ih =>
    obtain ⟨a, b, c⟩ := ih
    unfold mnN
    by_cases h : set.testBit n = true ∧ V (f n s) < mnN V f s set z n
    · rw [if_pos h]
      refine ⟨by omega, fun g hg hb => ?_, Or.inr ⟨n, by omega, h.1, rfl⟩⟩
      by_cases he : g = n
      · rw [he]; exact Int.le_refl _
      · have := b g (by omega) hb; omega
    · rw [if_neg h]
      refine ⟨a, fun g hg hb => ?_, ?_⟩
      · by_cases he : g = n
        · subst he
          by_cases q : V (f g s) < mnN V f s set z g
          · exact absurd ⟨hb, q⟩ h
          · omega
        · exact b g (by omega) hb
      · rcases c with c | ⟨g, h1, h2, h3⟩
        · exact Or.inl c
        · exact Or.inr ⟨g, by omega, h2, h3⟩
theorem mxN_ge {V : Nat → Int} {f : Nat → Nat → Nat} {s set : Nat} {z : Int} : ∀ n, z ≤ mxN V f s set z n ∧ (∀ g, g < n → set.testBit g = true → V (f g s) ≤ mxN V f s set z n) ∧ (mxN V f s set z n = z ∨ ∃ g, g < n ∧ set.testBit g = true ∧ mxN V f s set z n = V (f g s)) := by
  intro n
  induction n with
  | zero => exact ⟨Int.le_refl _, fun g hg => absurd hg (Nat.not_lt_zero _), Or.inl rfl⟩
  | succ n ih =>
    obtain ⟨a, b, c⟩ := ih
    unfold mxN
    by_cases h : set.testBit n = true ∧ mxN V f s set z n < V (f n s)
    · rw [if_pos h]
      refine ⟨by omega, fun g hg hb => ?_, Or.inr ⟨n, by omega, h.1, rfl⟩⟩
      by_cases he : g = n
      · rw [he]; exact Int.le_refl _
      · have := b g (by omega) hb; omega
    · rw [if_neg h]
      refine ⟨a, fun g hg hb => ?_, ?_⟩
      · by_cases he : g = n
        · subst he
          by_cases q : mxN V f s set z g < V (f g s)
          · exact absurd ⟨hb, q⟩ h
          · omega
        · exact b g (by omega) hb
      · rcases c with c | ⟨g, h1, h2, h3⟩
        · exact Or.inl c
        · exact Or.inr ⟨g, by omega, h2, h3⟩
def up1 (z : Int) : Int := if z = 268435456 then 268435456 else z + 1
def oneV (V : Nat → Int) (f : Nat → Nat → Nat) (s set : Nat) : Int := up1 (mnN V f s set (if set = 0 then V s else 268435456) 6)
def othV (V : Nat → Int) (f : Nat → Nat → Nat) (s set : Nat) : Int := up1 (mxN V f s set (if set = 0 then V s else 0) 6)
/-- numbers up to FAR, at all states -/
def VK (V : Nat → Int) (L : List Nat) : Prop := ∀ s, s ∈ L → 0 ≤ V s ∧ V s ≤ 268435456
theorem up1_w {z : Int} (h0 : 0 ≤ z) (h1 : z ≤ 268435456) : (if z = 268435456 then (268435456 : Int) else w32 (z + 1)) = up1 z := by
  unfold up1
  split
  · rfl
  · exact w32_i (by omega) (by omega)
theorem bit6 {set g : Nat} (h : set < 64) (hb : set.testBit g = true) : g < 6 := bit_G (G := 6) h hb
theorem set_ne {set : Nat} (h : set ≠ 0) : ∃ g, set.testBit g = true := by
  apply Classical.byContradiction
  intro hn
  refine h (Nat.eq_of_testBit_eq (fun g => ?_))
  rw [Nat.zero_testBit]
  exact Bool.eq_false_iff.2 (fun c => hn ⟨g, c⟩)
theorem mn_in {V : Nat → Int} {L : List Nat} (v : VK V L) {f : Nat → Nat → Nat} {s set : Nat} (hs : s ∈ L) (hc : ∀ g, set.testBit g = true → f g s ∈ L) (n : Nat) : 0 ≤ mnN V f s set (if set = 0 then V s else 268435456) n ∧ mnN V f s set (if set = 0 then V s else 268435456) n ≤ 268435456 := by
  obtain ⟨a, b, c⟩ := mnN_le (V := V) (f := f) (s := s) (set := set) (z := if set = 0 then V s else 268435456) n
  have z0 : (0 : Int) ≤ (if set = 0 then V s else 268435456) ∧ (if set = 0 then V s else 268435456) ≤ (268435456 : Int) := by
    split
    · exact v s hs
    · exact ⟨by decide, by decide⟩
  rcases c with c | ⟨g, _, h2, h3⟩
  · rw [c]; exact z0
  · rw [h3]; exact v _ (hc g h2)
theorem mx_in {V : Nat → Int} {L : List Nat} (v : VK V L) {f : Nat → Nat → Nat} {s set : Nat} (hs : s ∈ L) (hc : ∀ g, set.testBit g = true → f g s ∈ L) (n : Nat) : 0 ≤ mxN V f s set (if set = 0 then V s else 0) n ∧ mxN V f s set (if set = 0 then V s else 0) n ≤ 268435456 := by
  obtain ⟨a, b, c⟩ := mxN_ge (V := V) (f := f) (s := s) (set := set) (z := if set = 0 then V s else 0) n
  have z0 : (0 : Int) ≤ (if set = 0 then V s else 0) ∧ (if set = 0 then V s else 0) ≤ (268435456 : Int) := by
    split
    · exact v s hs
    · exact ⟨by decide, by decide⟩
  rcases c with c | ⟨g, _, h2, h3⟩
  · rw [c]; exact z0
  · rw [h3]; exact v _ (hc g h2)
/-- the reference's reads, for these two -/
def RG (h : Hp) (A : Nat → Int) (f : Nat → Nat → Nat) (one other : Nat) (L : List Nat) : Prop := RQ h A f (one ||| other) L ∧ one < 2 ^ (A 2).toNat ∧ other < 2 ^ (A 2).toNat
theorem RG.fr {P : Nat → Nat → Prop} {h h' : Hp} {A : Nat → Int} {f : Nat → Nat → Nat} {one other : Nat} {L : List Nat} (fp : Fp P h h') (n : ∀ a k, a = 295 ∨ a = 302 ∨ a = 303 ∨ a = 304 ∨ (a = 294 ∧ k = 27) → ¬ P a k) (x : RG h A f one other L) : RG h' A f one other L := ⟨x.1.fr fp n, x.2⟩
theorem or_l {a b g : Nat} (h : a.testBit g = true) : (a ||| b).testBit g = true := by rw [Nat.testBit_or, h]; rfl
theorem or_r {a b g : Nat} (h : b.testBit g = true) : (a ||| b).testBit g = true := by rw [Nat.testBit_or, h, Bool.or_true]
theorem g_A {set g : Nat} {z : Int} (hs : set < 2 ^ z.toNat) (hb : set.testBit g = true) : (g : Int) < z := by
  have := bit_G hs hb
  omega
theorem g6_n {g n : Nat} (h : g + (n + 1) = 6) : (g : Int) < 6 ∧ g < 6 ∧ w32 ((g : Int) + 1) = ((g + 1 : Nat) : Int) ∧ g + 1 + n = 6 := ⟨by omega, by omega, w32_s (by omega), by omega⟩
set_option maxHeartbeats 1000000 in
theorem S_oneTurn {d : Nat} {Q : Option PV → Hp → Prop} {h : Hp} {A : Nat → Int} {f : Nat → Nat → Nat} {one other : Nat} {L : List Nat} (x : RG h A f one other L) (v : VK (hI h 306) L) {p : Nat} (hp : p < L.length) :
    WP (d + 1) mX12_oneTurn 0 [some (.inr (.inr 294)), some (.inl (L.getD p 0 : Int)), some (.inl (one : Int)), none, none] [] h Q = Q (some (.inl (oneV (hI h 306) f (L.getD p 0) one))) h := by
  obtain ⟨xq, hs1, hs2⟩ := x
  have m := xq.1
  have ok := xq.2.2.2.1
  have po := xq.2.2.2.2.2.2
  have s64 := set64 po hs1
  have sl := getD_lt ok hp
  have sl' := lt64 sl
  have hc : ∀ g, one.testBit g = true → hI h 304 (6 * L.getD p 0 + g) = (f g (L.getD p 0) : Int) ∧ f g (L.getD p 0) ∈ L := fun g hb => xq.2.2.2.2.2.1 p g hp (g_A hs1 hb) (or_l hb)
  have main : ∀ n g, g + n = 6 → WP (d + 1) mX12_oneTurn 20 [some (.inr (.inr 294)), some (.inl (L.getD p 0 : Int)), some (.inl (one : Int)), some (.inl (mnN (hI h 306) f (L.getD p 0) one (if one = 0 then hI h 306 (L.getD p 0) else 268435456) g)), some (.inl (g : Int))] [] h Q = Q (some (.inl (oneV (hI h 306) f (L.getD p 0) one))) h := by
    intro n
    induction n with
    | zero =>
      intro g hg
      have eg : g = 6 := hg
      subst eg
      have b := mn_in v (f := f) (s := L.getD p 0) (set := one) (getD_mem hp) (fun g hb => (hc g hb).2) 6
      rw [rX12_oneTurn_20]
      simp only [rX12_oneTurn_22, rX12_oneTurn_24, rX12_oneTurn_82, rX12_oneTurn_83, rX12_oneTurn_86, rX12_oneTurn_89, rX12_oneTurn_92, rX12_oneTurn_95, rX12_oneTurn_96, rX12_oneTurn_97, rX12_oneTurn_98, Int.toNat_natCast, Int.natCast_nonneg, true_and, and_true, and_self, if_true, if_false, or_true, true_or, or_false, false_or, ne_eq, not_true_eq_false, not_false_eq_true, Nat.reduceLeDiff, Nat.reduceEqDiff, Nat.reduceLT, Nat.reduceAdd, Nat.reduceMul, Nat.reduceSub, Int.reduceLT, Int.reduceLE, Int.reduceEq, Int.reduceToNat, Int.reduceAdd, Int.reduceSub, Int.reduceMul, Int.reduceNeg, Int.cast_ofNat_Int, false_and, and_false]
      unfold oneV
      rw [← up1_w b.1 b.2]
      by_cases hq : mnN (hI h 306) f (L.getD p 0) one (if one = 0 then hI h 306 (L.getD p 0) else 268435456) 6 = 268435456
      · rw [if_pos hq, if_pos hq]
      · rw [if_neg hq, if_neg hq]
    | succ n ih =>
      intro g hg
      obtain ⟨l1, g6, l2, hn⟩ := g6_n hg
      obtain ⟨i1, i2, i3, i4, i5, i6, i7, i8⟩ := ix6 g6 sl
      have go := ih (g + 1) hn
      unfold mnN at go
      rw [rX12_oneTurn_20]
      simp only [rX12_oneTurn_22, rX12_oneTurn_24, rX12_oneTurn_27, rX12_oneTurn_28, rX12_oneTurn_29, rX12_oneTurn_31, rX12_oneTurn_34, l1, S_isIn s64 g6, psh_some, Int.toNat_natCast, Int.natCast_nonneg, true_and, and_true, and_self, if_true, if_false, or_true, true_or, or_false, false_or, ne_eq, not_true_eq_false, not_false_eq_true, Nat.reduceLeDiff, Nat.reduceEqDiff, Nat.reduceLT, Nat.reduceAdd, Nat.reduceMul, Nat.reduceSub, Int.reduceLT, Int.reduceLE, Int.reduceEq, Int.reduceToNat, Int.reduceAdd, Int.reduceSub, Int.reduceMul, Int.reduceNeg, Int.cast_ofNat_Int, false_and, and_false]
      by_cases hb : one.testBit g = true
      · obtain ⟨e, em⟩ := hc g hb
        have nl := lt64 (ok.2.1 _ em)
        rw [if_pos hb, if_neg (by decide)]
        simp only [rX12_oneTurn_37, rX12_oneTurn_38, rX12_oneTurn_41, rX12_oneTurn_42, rX12_oneTurn_45, rX12_oneTurn_47, rX12_oneTurn_48, rX12_oneTurn_49, rX12_oneTurn_51, rX12_oneTurn_52, rX12_oneTurn_53, rX12_oneTurn_54, rX12_oneTurn_55, Md_K280 m, Md_R281 m, Md_K281 m, Md_R282 m, Md_K282 m, Md_R283 m, Md_K283 m, Md_R284 m, Md_K284 m, Md_R285 m, Md_K285 m, Md_R286 m, Md_K286 m, Md_R287 m, Md_K287 m, Md_R288 m, Md_K288 m, Md_R289 m, Md_K289 m, Md_R290 m, Md_K290 m, Md_R291 m, Md_K291 m, Md_R292 m, Md_K292 m, Md_R293 m, Md_K293 m, Md_R294 m, Md_K294 m, Md_R295 m, Md_K295 m, Md_R296 m, Md_K296 m, Md_R297 m, Md_K297 m, Md_R298 m, Md_K298 m, Md_R299 m, Md_K299 m, i1, i2, i3, e, nl, Int.toNat_natCast, Int.natCast_nonneg, true_and, and_true, and_self, if_true, if_false, or_true, true_or, or_false, false_or, ne_eq, not_true_eq_false, not_false_eq_true, Nat.reduceLeDiff, Nat.reduceEqDiff, Nat.reduceLT, Nat.reduceAdd, Nat.reduceMul, Nat.reduceSub, Int.reduceLT, Int.reduceLE, Int.reduceEq, Int.reduceToNat, Int.reduceAdd, Int.reduceSub, Int.reduceMul, Int.reduceNeg, Int.cast_ofNat_Int, false_and, and_false]
        by_cases hlt : hI h 306 (f g (L.getD p 0)) < mnN (hI h 306) f (L.getD p 0) one (if one = 0 then hI h 306 (L.getD p 0) else 268435456) g
        · rw [if_pos ⟨hb, hlt⟩] at go
          rw [if_pos hlt]
          simp only [rX12_oneTurn_58, rX12_oneTurn_59, rX12_oneTurn_62, rX12_oneTurn_63, rX12_oneTurn_66, rX12_oneTurn_68, rX12_oneTurn_69, rX12_oneTurn_70, rX12_oneTurn_72, rX12_oneTurn_73, rX12_oneTurn_74, rX12_oneTurn_75, rX12_oneTurn_76, rX12_oneTurn_79, Md_K280 m, Md_R281 m, Md_K281 m, Md_R282 m, Md_K282 m, Md_R283 m, Md_K283 m, Md_R284 m, Md_K284 m, Md_R285 m, Md_K285 m, Md_R286 m, Md_K286 m, Md_R287 m, Md_K287 m, Md_R288 m, Md_K288 m, Md_R289 m, Md_K289 m, Md_R290 m, Md_K290 m, Md_R291 m, Md_K291 m, Md_R292 m, Md_K292 m, Md_R293 m, Md_K293 m, Md_R294 m, Md_K294 m, Md_R295 m, Md_K295 m, Md_R296 m, Md_K296 m, Md_R297 m, Md_K297 m, Md_R298 m, Md_K298 m, Md_R299 m, Md_K299 m, i1, i2, i3, e, nl, l2, Int.toNat_natCast, Int.natCast_nonneg, true_and, and_true, and_self, if_true, if_false, or_true, true_or, or_false, false_or, ne_eq, not_true_eq_false, not_false_eq_true, Nat.reduceLeDiff, Nat.reduceEqDiff, Nat.reduceLT, Nat.reduceAdd, Nat.reduceMul, Nat.reduceSub, Int.reduceLT, Int.reduceLE, Int.reduceEq, Int.reduceToNat, Int.reduceAdd, Int.reduceSub, Int.reduceMul, Int.reduceNeg, Int.cast_ofNat_Int, false_and, and_false]
          exact go
        · rw [if_neg (fun q => hlt q.2)] at go
          rw [if_neg hlt]
          simp only [rX12_oneTurn_76, rX12_oneTurn_79, l2]
          exact go
      · rw [if_neg (fun q => hb q.1)] at go
        rw [if_neg hb, if_pos (by trivial)]
        simp only [rX12_oneTurn_76, rX12_oneTurn_79, l2]
        exact go
  have go := main 6 0 rfl
  rw [rX12_oneTurn_0, rX12_oneTurn_1]
  by_cases h0 : one = 0
  · have h0' : (one : Int) = 0 := by rw [h0]; rfl
    rw [if_pos h0']
    simp only [rX12_oneTurn_4, rX12_oneTurn_5, rX12_oneTurn_8, rX12_oneTurn_9, rX12_oneTurn_10, rX12_oneTurn_16, rX12_oneTurn_17, rX12_oneTurn_18, Md_K280 m, Md_R281 m, Md_K281 m, Md_R282 m, Md_K282 m, Md_R283 m, Md_K283 m, Md_R284 m, Md_K284 m, Md_R285 m, Md_K285 m, Md_R286 m, Md_K286 m, Md_R287 m, Md_K287 m, Md_R288 m, Md_K288 m, Md_R289 m, Md_K289 m, Md_R290 m, Md_K290 m, Md_R291 m, Md_K291 m, Md_R292 m, Md_K292 m, Md_R293 m, Md_K293 m, Md_R294 m, Md_K294 m, Md_R295 m, Md_K295 m, Md_R296 m, Md_K296 m, Md_R297 m, Md_K297 m, Md_R298 m, Md_K298 m, Md_R299 m, Md_K299 m, sl', Int.toNat_natCast, Int.natCast_nonneg, true_and, and_true, and_self, if_true, if_false, or_true, true_or, or_false, false_or, ne_eq, not_true_eq_false, not_false_eq_true, Nat.reduceLeDiff, Nat.reduceEqDiff, Nat.reduceLT, Nat.reduceAdd, Nat.reduceMul, Nat.reduceSub, Int.reduceLT, Int.reduceLE, Int.reduceEq, Int.reduceToNat, Int.reduceAdd, Int.reduceSub, Int.reduceMul, Int.reduceNeg, Int.cast_ofNat_Int, false_and, and_false]
    unfold mnN at go
    rw [if_pos h0] at go
    exact go
  · have h0' : ¬ ((one : Int) = 0) := fun c => h0 (Int.ofNat_eq_zero.1 c)
    rw [if_neg h0']
    simp only [rX12_oneTurn_13, rX12_oneTurn_16, rX12_oneTurn_17, rX12_oneTurn_18]
    unfold mnN at go
    rw [if_neg h0] at go
    exact go
set_option maxHeartbeats 1000000 in
theorem S_otherTurn {d : Nat} {Q : Option PV → Hp → Prop} {h : Hp} {A : Nat → Int} {f : Nat → Nat → Nat} {one other : Nat} {L : List Nat} (x : RG h A f one other L) (v : VK (hI h 305) L) {p : Nat} (hp : p < L.length) :
    WP (d + 1) mX12_otherTurn 0 [some (.inr (.inr 294)), some (.inl (L.getD p 0 : Int)), some (.inl (other : Int)), none, none] [] h Q = Q (some (.inl (othV (hI h 305) f (L.getD p 0) other))) h := by
  obtain ⟨xq, hs1, hs2⟩ := x
  have m := xq.1
  have ok := xq.2.2.2.1
  have po := xq.2.2.2.2.2.2
  have s64 := set64 po hs2
  have sl := getD_lt ok hp
  have sl' := lt64 sl
  have hc : ∀ g, other.testBit g = true → hI h 304 (6 * L.getD p 0 + g) = (f g (L.getD p 0) : Int) ∧ f g (L.getD p 0) ∈ L := fun g hb => xq.2.2.2.2.2.1 p g hp (g_A hs2 hb) (or_r hb)
  have main : ∀ n g, g + n = 6 → WP (d + 1) mX12_otherTurn 18 [some (.inr (.inr 294)), some (.inl (L.getD p 0 : Int)), some (.inl (other : Int)), some (.inl (mxN (hI h 305) f (L.getD p 0) other (if other = 0 then hI h 305 (L.getD p 0) else 0) g)), some (.inl (g : Int))] [] h Q = Q (some (.inl (othV (hI h 305) f (L.getD p 0) other))) h := by
    intro n
    induction n with
    | zero =>
      intro g hg
      have eg : g = 6 := hg
      subst eg
      have b := mx_in v (f := f) (s := L.getD p 0) (set := other) (getD_mem hp) (fun g hb => (hc g hb).2) 6
      rw [rX12_otherTurn_18]
      simp only [rX12_otherTurn_20, rX12_otherTurn_22, rX12_otherTurn_80, rX12_otherTurn_81, rX12_otherTurn_84, rX12_otherTurn_87, rX12_otherTurn_90, rX12_otherTurn_93, rX12_otherTurn_94, rX12_otherTurn_95, rX12_otherTurn_96, Int.toNat_natCast, Int.natCast_nonneg, true_and, and_true, and_self, if_true, if_false, or_true, true_or, or_false, false_or, ne_eq, not_true_eq_false, not_false_eq_true, Nat.reduceLeDiff, Nat.reduceEqDiff, Nat.reduceLT, Nat.reduceAdd, Nat.reduceMul, Nat.reduceSub, Int.reduceLT, Int.reduceLE, Int.reduceEq, Int.reduceToNat, Int.reduceAdd, Int.reduceSub, Int.reduceMul, Int.reduceNeg, Int.cast_ofNat_Int, false_and, and_false]
      unfold othV
      rw [← up1_w b.1 b.2]
      by_cases hq : mxN (hI h 305) f (L.getD p 0) other (if other = 0 then hI h 305 (L.getD p 0) else 0) 6 = 268435456
      · rw [if_pos hq, if_pos hq]
      · rw [if_neg hq, if_neg hq]
    | succ n ih =>
      intro g hg
      obtain ⟨l1, g6, l2, hn⟩ := g6_n hg
      obtain ⟨i1, i2, i3, i4, i5, i6, i7, i8⟩ := ix6 g6 sl
      have go := ih (g + 1) hn
      unfold mxN at go
      rw [rX12_otherTurn_18]
      simp only [rX12_otherTurn_20, rX12_otherTurn_22, rX12_otherTurn_25, rX12_otherTurn_26, rX12_otherTurn_27, rX12_otherTurn_29, rX12_otherTurn_32, l1, S_isIn s64 g6, psh_some, Int.toNat_natCast, Int.natCast_nonneg, true_and, and_true, and_self, if_true, if_false, or_true, true_or, or_false, false_or, ne_eq, not_true_eq_false, not_false_eq_true, Nat.reduceLeDiff, Nat.reduceEqDiff, Nat.reduceLT, Nat.reduceAdd, Nat.reduceMul, Nat.reduceSub, Int.reduceLT, Int.reduceLE, Int.reduceEq, Int.reduceToNat, Int.reduceAdd, Int.reduceSub, Int.reduceMul, Int.reduceNeg, Int.cast_ofNat_Int, false_and, and_false]
      by_cases hb : other.testBit g = true
      · obtain ⟨e, em⟩ := hc g hb
        have nl := lt64 (ok.2.1 _ em)
        rw [if_pos hb, if_neg (by decide)]
        simp only [rX12_otherTurn_35, rX12_otherTurn_36, rX12_otherTurn_39, rX12_otherTurn_40, rX12_otherTurn_43, rX12_otherTurn_45, rX12_otherTurn_46, rX12_otherTurn_47, rX12_otherTurn_49, rX12_otherTurn_50, rX12_otherTurn_51, rX12_otherTurn_52, rX12_otherTurn_53, Md_K280 m, Md_R281 m, Md_K281 m, Md_R282 m, Md_K282 m, Md_R283 m, Md_K283 m, Md_R284 m, Md_K284 m, Md_R285 m, Md_K285 m, Md_R286 m, Md_K286 m, Md_R287 m, Md_K287 m, Md_R288 m, Md_K288 m, Md_R289 m, Md_K289 m, Md_R290 m, Md_K290 m, Md_R291 m, Md_K291 m, Md_R292 m, Md_K292 m, Md_R293 m, Md_K293 m, Md_R294 m, Md_K294 m, Md_R295 m, Md_K295 m, Md_R296 m, Md_K296 m, Md_R297 m, Md_K297 m, Md_R298 m, Md_K298 m, Md_R299 m, Md_K299 m, i1, i2, i3, e, nl, Int.toNat_natCast, Int.natCast_nonneg, true_and, and_true, and_self, if_true, if_false, or_true, true_or, or_false, false_or, ne_eq, not_true_eq_false, not_false_eq_true, Nat.reduceLeDiff, Nat.reduceEqDiff, Nat.reduceLT, Nat.reduceAdd, Nat.reduceMul, Nat.reduceSub, Int.reduceLT, Int.reduceLE, Int.reduceEq, Int.reduceToNat, Int.reduceAdd, Int.reduceSub, Int.reduceMul, Int.reduceNeg, Int.cast_ofNat_Int, false_and, and_false]
        by_cases hlt : mxN (hI h 305) f (L.getD p 0) other (if other = 0 then hI h 305 (L.getD p 0) else 0) g < hI h 305 (f g (L.getD p 0))
        · rw [if_pos ⟨hb, hlt⟩] at go
          rw [if_pos hlt]
          simp only [rX12_otherTurn_56, rX12_otherTurn_57, rX12_otherTurn_60, rX12_otherTurn_61, rX12_otherTurn_64, rX12_otherTurn_66, rX12_otherTurn_67, rX12_otherTurn_68, rX12_otherTurn_70, rX12_otherTurn_71, rX12_otherTurn_72, rX12_otherTurn_73, rX12_otherTurn_74, rX12_otherTurn_77, Md_K280 m, Md_R281 m, Md_K281 m, Md_R282 m, Md_K282 m, Md_R283 m, Md_K283 m, Md_R284 m, Md_K284 m, Md_R285 m, Md_K285 m, Md_R286 m, Md_K286 m, Md_R287 m, Md_K287 m, Md_R288 m, Md_K288 m, Md_R289 m, Md_K289 m, Md_R290 m, Md_K290 m, Md_R291 m, Md_K291 m, Md_R292 m, Md_K292 m, Md_R293 m, Md_K293 m, Md_R294 m, Md_K294 m, Md_R295 m, Md_K295 m, Md_R296 m, Md_K296 m, Md_R297 m, Md_K297 m, Md_R298 m, Md_K298 m, Md_R299 m, Md_K299 m, i1, i2, i3, e, nl, l2, Int.toNat_natCast, Int.natCast_nonneg, true_and, and_true, and_self, if_true, if_false, or_true, true_or, or_false, false_or, ne_eq, not_true_eq_false, not_false_eq_true, Nat.reduceLeDiff, Nat.reduceEqDiff, Nat.reduceLT, Nat.reduceAdd, Nat.reduceMul, Nat.reduceSub, Int.reduceLT, Int.reduceLE, Int.reduceEq, Int.reduceToNat, Int.reduceAdd, Int.reduceSub, Int.reduceMul, Int.reduceNeg, Int.cast_ofNat_Int, false_and, and_false]
          exact go
        · rw [if_neg (fun q => hlt q.2)] at go
          rw [if_neg hlt]
          simp only [rX12_otherTurn_74, rX12_otherTurn_77, l2]
          exact go
      · rw [if_neg (fun q => hb q.1)] at go
        rw [if_neg hb, if_pos (by trivial)]
        simp only [rX12_otherTurn_74, rX12_otherTurn_77, l2]
        exact go
  have go := main 6 0 rfl
  rw [rX12_otherTurn_0, rX12_otherTurn_1]
  by_cases h0 : other = 0
  · have h0' : (other : Int) = 0 := by rw [h0]; rfl
    rw [if_pos h0']
    simp only [rX12_otherTurn_4, rX12_otherTurn_5, rX12_otherTurn_8, rX12_otherTurn_9, rX12_otherTurn_10, rX12_otherTurn_14, rX12_otherTurn_15, rX12_otherTurn_16, Md_K280 m, Md_R281 m, Md_K281 m, Md_R282 m, Md_K282 m, Md_R283 m, Md_K283 m, Md_R284 m, Md_K284 m, Md_R285 m, Md_K285 m, Md_R286 m, Md_K286 m, Md_R287 m, Md_K287 m, Md_R288 m, Md_K288 m, Md_R289 m, Md_K289 m, Md_R290 m, Md_K290 m, Md_R291 m, Md_K291 m, Md_R292 m, Md_K292 m, Md_R293 m, Md_K293 m, Md_R294 m, Md_K294 m, Md_R295 m, Md_K295 m, Md_R296 m, Md_K296 m, Md_R297 m, Md_K297 m, Md_R298 m, Md_K298 m, Md_R299 m, Md_K299 m, sl', Int.toNat_natCast, Int.natCast_nonneg, true_and, and_true, and_self, if_true, if_false, or_true, true_or, or_false, false_or, ne_eq, not_true_eq_false, not_false_eq_true, Nat.reduceLeDiff, Nat.reduceEqDiff, Nat.reduceLT, Nat.reduceAdd, Nat.reduceMul, Nat.reduceSub, Int.reduceLT, Int.reduceLE, Int.reduceEq, Int.reduceToNat, Int.reduceAdd, Int.reduceSub, Int.reduceMul, Int.reduceNeg, Int.cast_ofNat_Int, false_and, and_false]
    unfold mxN at go
    rw [if_pos h0] at go
    exact go
  · have h0' : ¬ ((other : Int) = 0) := fun c => h0 (Int.ofNat_eq_zero.1 c)
    rw [if_neg h0']
    simp only [rX12_otherTurn_13, rX12_otherTurn_14, rX12_otherTurn_15, rX12_otherTurn_16]
    unfold mxN at go
    rw [if_neg h0] at go
    exact go
