/-! what one side can force: the reference's rounds -/
def FI (V0 V1 : Nat → Int) (f : Nat → Nat → Nat) (gl : Nat → Bool) (one other : Nat) (L : List Nat) : Prop := ∀ s, s ∈ L → (V0 s = 268435456 ∨ ∃ n : Nat, V0 s = (n : Int) ∧ n < 268435456 ∧ Wn f gl one other n 0 s) ∧ (V1 s = 268435456 ∨ ∃ n : Nat, V1 s = (n : Int) ∧ n < 268435456 ∧ Wn f gl one other n 1 s) ∧ (gl s = true → V0 s = 0 ∧ V1 s = 0)
theorem FI.v {V0 V1 : Nat → Int} {f : Nat → Nat → Nat} {gl : Nat → Bool} {one other : Nat} {L : List Nat} (x : FI V0 V1 f gl one other L) : VK V0 L ∧ VK V1 L := by
  refine ⟨fun s hs => ?_, fun s hs => ?_⟩
  · rcases (x s hs).1 with q | ⟨n, e, h, _⟩
    · rw [q]; exact ⟨by decide, by decide⟩
    · rw [e]; omega
  · rcases (x s hs).2.1 with q | ⟨n, e, h, _⟩
    · rw [q]; exact ⟨by decide, by decide⟩
    · rw [e]; omega
theorem one_fin {V0 V1 : Nat → Int} {f : Nat → Nat → Nat} {gl : Nat → Bool} {one other : Nat} {L : List Nat} (x : FI V0 V1 f gl one other L) {s : Nat} (hs : s ∈ L) (hc : ∀ g, one.testBit g = true → f g s ∈ L) (hlt : oneV V1 f s one < V0 s) : ∃ n : Nat, oneV V1 f s one = (n : Int) ∧ n < 268435456 ∧ Wn f gl one other n 0 s := by
  have v0 := (x.v.1 s hs).2
  obtain ⟨a, b, c⟩ := mnN_le (V := V1) (f := f) (s := s) (set := one) (z := if one = 0 then V1 s else 268435456) 6
  unfold oneV up1 at hlt ⊢
  by_cases hq : mnN V1 f s one (if one = 0 then V1 s else 268435456) 6 = 268435456
  · rw [if_pos hq] at hlt; omega
  · rw [if_neg hq] at hlt ⊢
    rcases c with c | ⟨g, h1, h2, h3⟩
    · by_cases h0 : one = 0
      · rw [if_pos h0] at c hq hlt ⊢
        rcases (x s hs).2.1 with q | ⟨n, e, hn, w⟩
        · rw [c] at hq; exact absurd q hq
        · rw [c, e] at hlt ⊢
          exact ⟨n + 1, by omega, by omega, Or.inr (by rw [if_pos rfl, if_pos h0]; exact w)⟩
      · rw [if_neg h0] at c hq; exact absurd c hq
    · rcases (x _ (hc g h2)).2.1 with q | ⟨n, e, hn, w⟩
      · rw [h3] at hq; exact absurd q hq
      · rw [h3, e] at hlt ⊢
        have h0 : one ≠ 0 := fun z => by rw [z, Nat.zero_testBit] at h2; exact absurd h2 (by decide)
        exact ⟨n + 1, by omega, by omega, Or.inr (by rw [if_pos rfl, if_neg h0]; exact ⟨g, h2, w⟩)⟩
theorem oth_fin {V0 V1 : Nat → Int} {f : Nat → Nat → Nat} {gl : Nat → Bool} {one other : Nat} {L : List Nat} (x : FI V0 V1 f gl one other L) (o64 : other < 64) {s : Nat} (hs : s ∈ L) (hc : ∀ g, other.testBit g = true → f g s ∈ L) (hlt : othV V0 f s other < V1 s) : ∃ n : Nat, othV V0 f s other = (n : Int) ∧ n < 268435456 ∧ Wn f gl one other n 1 s := by
  have v0 := (x.v.2 s hs).2
  have bi := mx_in x.v.1 (f := f) (s := s) (set := other) hs hc 6
  obtain ⟨a, b, c⟩ := mxN_ge (V := V0) (f := f) (s := s) (set := other) (z := if other = 0 then V0 s else 0) 6
  unfold othV up1 at hlt ⊢
  by_cases hq : mxN V0 f s other (if other = 0 then V0 s else 0) 6 = 268435456
  · rw [if_pos hq] at hlt; omega
  · rw [if_neg hq] at hlt ⊢
    obtain ⟨j, ej⟩ := Int.eq_ofNat_of_zero_le bi.1
    rw [ej] at hlt hq a b ⊢
    have fin : ∀ t, t ∈ L → V0 t ≤ (j : Int) → Wn f gl one other j 0 t := fun t ht hle => by
      rcases (x t ht).1 with q | ⟨n, e, hn, w⟩
      · omega
      · exact Wn_le (by omega) w
    refine ⟨j + 1, by omega, by omega, Or.inr ?_⟩
    rw [if_neg (by decide)]
    by_cases h0 : other = 0
    · rw [if_pos h0] at a ⊢; exact fin s hs a
    · rw [if_neg h0]
      exact fun g hg => fin _ (hc g hg) (b g (bit6 o64 hg) hg)
def lsV2 (a b : Int) : Int := if a < b then a else b
theorem FI.put {V0 V1 : Nat → Int} {f : Nat → Nat → Nat} {gl : Nat → Bool} {one other : Nat} {L : List Nat} (x : FI V0 V1 f gl one other L) (o64 : other < 64) {s : Nat} (hs : s ∈ L) (ng : ¬ gl s = true) (hc1 : ∀ g, one.testBit g = true → f g s ∈ L) (hc2 : ∀ g, other.testBit g = true → f g s ∈ L) {W0 W1 : Nat → Int} (e0 : ∀ t, W0 t = if t = s then lsV2 (oneV V1 f s one) (V0 s) else V0 t) (e1 : ∀ t, W1 t = if t = s then lsV2 (othV V0 f s other) (V1 s) else V1 t) : FI W0 W1 f gl one other L := by
  intro t ht
  rw [e0, e1]
  by_cases h : t = s
  · rw [if_pos h, if_pos h, h]
    obtain ⟨x1, x2, _⟩ := x s hs
    refine ⟨?_, ?_, fun q => absurd q ng⟩
    · unfold lsV2
      by_cases hlt : oneV V1 f s one < V0 s
      · rw [if_pos hlt]; exact Or.inr (one_fin x hs hc1 hlt)
      · rw [if_neg hlt]; exact x1
    · unfold lsV2
      by_cases hlt : othV V0 f s other < V1 s
      · rw [if_pos hlt]; exact Or.inr (oth_fin x o64 hs hc2 hlt)
      · rw [if_neg hlt]; exact x2
  · rw [if_neg h, if_neg h]; exact x t ht
/-- nothing can be lessened from place lo on -/
def DN (V0 V1 : Nat → Int) (f : Nat → Nat → Nat) (gl : Nat → Bool) (one other : Nat) (L : List Nat) (lo : Nat) : Prop := ∀ p, lo ≤ p → p < L.length → ¬ gl (L.getD p 0) = true → V0 (L.getD p 0) ≤ oneV V1 f (L.getD p 0) one ∧ V1 (L.getD p 0) ≤ othV V0 f (L.getD p 0) other
theorem up1_le {z : Int} {n : Nat} (h : z ≤ (n : Int)) (hn : n < 268435456) : up1 z ≤ ((n + 1 : Nat) : Int) := by
  unfold up1
  rw [if_neg (by omega)]
  omega
theorem FI.done {V0 V1 : Nat → Int} {f : Nat → Nat → Nat} {gl : Nat → Bool} {one other : Nat} {L : List Nat} (x : FI V0 V1 f gl one other L) (o1 : one < 64) (o64 : other < 64) (hc1 : ∀ s g, s ∈ L → one.testBit g = true → f g s ∈ L) (hc2 : ∀ s g, s ∈ L → other.testBit g = true → f g s ∈ L) (dn : DN V0 V1 f gl one other L 0) : ∀ (n m s : Nat), s ∈ L → n < 268435456 → Wn f gl one other n m s → (if m = 0 then V0 s else V1 s) ≤ (n : Int) := by
  intro n
  induction n with
  | zero =>
    intro m s hs _ w
    have := (x s hs).2.2 w
    split
    · rw [this.1]; exact Int.le_refl _
    · rw [this.2]; exact Int.le_refl _
  | succ n ih =>
    intro m s hs hn w
    by_cases hg : gl s = true
    · have := (x s hs).2.2 hg
      split <;> omega
    · have w' := w.resolve_left hg
      obtain ⟨p, hp, ep⟩ := mem_getD hs
      obtain ⟨d1, d2⟩ := dn p (Nat.zero_le _) hp (by rw [ep]; exact hg)
      rw [ep] at d1 d2
      by_cases hm : m = 0
      · rw [if_pos hm] at w' ⊢
        refine Int.le_trans d1 (up1_le ?_ (by omega))
        obtain ⟨a, b, c⟩ := mnN_le (V := V1) (f := f) (s := s) (set := one) (z := if one = 0 then V1 s else 268435456) 6
        by_cases h0 : one = 0
        · rw [if_pos h0] at w'
          have := ih 1 s hs (by omega) w'
          rw [if_neg (by decide)] at this
          refine Int.le_trans a ?_
          rw [if_pos h0]; exact this
        · rw [if_neg h0] at w'
          obtain ⟨g, h1, h2⟩ := w'
          have := ih 1 _ (hc1 s g hs h1) (by omega) h2
          rw [if_neg (by decide)] at this
          exact Int.le_trans (b g (bit6 o1 h1) h1) this
      · rw [if_neg hm] at w' ⊢
        refine Int.le_trans d2 (up1_le ?_ (by omega))
        obtain ⟨a, b, c⟩ := mxN_ge (V := V0) (f := f) (s := s) (set := other) (z := if other = 0 then V0 s else 0) 6
        rcases c with c | ⟨g, h1, h2, h3⟩
        · by_cases h0 : other = 0
          · rw [if_pos h0] at w' c
            have := ih 0 s hs (by omega) w'
            rw [if_pos rfl] at this
            rw [if_pos h0, c]; exact this
          · rw [if_neg h0] at c
            rw [if_neg h0, c]; omega
        · have h0 : other ≠ 0 := fun z => by rw [z, Nat.zero_testBit] at h2; exact absurd h2 (by decide)
          rw [if_neg h0] at w'
          have := ih 0 _ (hc2 s g hs h2) (by omega) (w' g h2)
          rw [if_pos rfl] at this
          rw [h3]; exact this
def frP (a _k : Nat) : Prop := a = 305 ∨ a = 306
theorem fr_no {a k : Nat} (h : a = 295 ∨ a = 302 ∨ a = 303 ∨ a = 304 ∨ (a = 294 ∧ k = 27)) : ¬ frP a k := by unfold frP; omega
theorem RG.cl {h : Hp} {A : Nat → Int} {f : Nat → Nat → Nat} {one other : Nat} {L : List Nat} (x : RG h A f one other L) : (∀ s g, s ∈ L → one.testBit g = true → f g s ∈ L) ∧ (∀ s g, s ∈ L → other.testBit g = true → f g s ∈ L) := by
  refine ⟨fun s g hs hb => ?_, fun s g hs hb => ?_⟩
  · obtain ⟨p, hp, e⟩ := mem_getD hs
    rw [← e]
    exact (x.1.2.2.2.2.2.1 p g hp (g_A x.2.1 hb) (or_l hb)).2
  · obtain ⟨p, hp, e⟩ := mem_getD hs
    rw [← e]
    exact (x.1.2.2.2.2.2.1 p g hp (g_A x.2.2 hb) (or_r hb)).2
theorem orF (fl : Int) (h : fl = 0 ∨ fl = 1) : ior fl 1 = 1 ∧ ior fl 0 = fl := by
  rcases h with rfl | rfl <;> decide
set_option maxHeartbeats 1000000 in
/-- one state -/
theorem fr_step {d : Nat} {Q : Option PV → Hp → Prop} {h : Hp} {A : Nat → Int} {f : Nat → Nat → Nat} {one other t : Nat} {L : List Nat} (x : RG h A f one other L) (v0 : VK (hI h 305) L) (v1 : VK (hI h 306) L) (t6 : t < 6) {j : Nat} (jl : j < L.length) (ng : ¬ (L.getD j 0 / 100).testBit t = true) {fl : Int} (hfl : fl = 0 ∨ fl = 1) {x6 x7 x8 : Option PV}
    (k : ∀ y6 y7 y8, WP (d + 2) mX12_laysForced 241 [some (.inr (.inr 294)), some (.inl (t : Int)), some (.inl (one : Int)), some (.inl (other : Int)), some (.inl (if oneV (hI h 306) f (L.getD j 0) one < hI h 305 (L.getD j 0) ∨ othV (hI h 305) f (L.getD j 0) other < hI h 306 (L.getD j 0) then 1 else fl)), some (.inl (j : Int)), y6, y7, y8] [] (wI (wI h 305 (L.getD j 0) (lsV2 (oneV (hI h 306) f (L.getD j 0) one) (hI h 305 (L.getD j 0)))) 306 (L.getD j 0) (lsV2 (othV (hI h 305) f (L.getD j 0) other) (hI h 306 (L.getD j 0)))) Q) :
    WP (d + 2) mX12_laysForced 101 [some (.inr (.inr 294)), some (.inl (t : Int)), some (.inl (one : Int)), some (.inl (other : Int)), some (.inl fl), some (.inl (j : Int)), x6, x7, x8] [] h Q := by
  have m := x.1.1
  have ok := x.1.2.2.2.1
  obtain ⟨j1, j2, j3, j4⟩ := i_64 ok jl
  have c0 : ¬ ((j : Int) < 0) := Int.not_lt.2 (Int.natCast_nonneg j)
  have oj := x.1.2.2.2.2.1 j jl
  have sl := getD_lt ok jl
  have sl' := lt64 sl
  obtain ⟨o1, o0⟩ := orF fl hfl
  have n12 : ¬ (306 = 305 ∧ L.getD j 0 = L.getD j 0) := fun c => absurd c.1 (by decide)
  rw [rX12_laysForced_101]
  simp only [rX12_laysForced_103, rX12_laysForced_106, rX12_laysForced_107, rX12_laysForced_110, rX12_laysForced_112, rX12_laysForced_113, rX12_laysForced_115, rX12_laysForced_117, rX12_laysForced_118, rX12_laysForced_121, c0, Md_K280 m, Md_R281 m, Md_K281 m, Md_R282 m, Md_K282 m, Md_R283 m, Md_K283 m, Md_R284 m, Md_K284 m, Md_R285 m, Md_K285 m, Md_R286 m, Md_K286 m, Md_R287 m, Md_K287 m, Md_R288 m, Md_K288 m, Md_R289 m, Md_K289 m, Md_R290 m, Md_K290 m, Md_R291 m, Md_K291 m, Md_R292 m, Md_K292 m, Md_R293 m, Md_K293 m, Md_R294 m, Md_K294 m, Md_R295 m, Md_K295 m, Md_R296 m, Md_K296 m, Md_R297 m, Md_K297 m, Md_R298 m, Md_K298 m, Md_R299 m, Md_K299 m, j2, oj, S_isGoal sl t6, psh_some, Int.toNat_natCast, Int.natCast_nonneg, true_and, and_true, and_self, if_true, if_false, or_true, true_or, or_false, false_or, ne_eq, not_true_eq_false, not_false_eq_true, Nat.reduceLeDiff, Nat.reduceEqDiff, Nat.reduceLT, Nat.reduceAdd, Nat.reduceMul, Nat.reduceSub, Int.reduceLT, Int.reduceLE, Int.reduceEq, Int.reduceToNat, Int.reduceAdd, Int.reduceSub, Int.reduceMul, Int.reduceNeg, Int.cast_ofNat_Int, false_and, and_false]
  simp only [if_neg ng]
  rw [if_pos (by trivial)]
  simp only [rX12_laysForced_127, rX12_laysForced_128, rX12_laysForced_130, rX12_laysForced_131, rX12_laysForced_134, rX12_laysForced_136, rX12_laysForced_137, rX12_laysForced_139, rX12_laysForced_140, Md_K280 m, Md_R281 m, Md_K281 m, Md_R282 m, Md_K282 m, Md_R283 m, Md_K283 m, Md_R284 m, Md_K284 m, Md_R285 m, Md_K285 m, Md_R286 m, Md_K286 m, Md_R287 m, Md_K287 m, Md_R288 m, Md_K288 m, Md_R289 m, Md_K289 m, Md_R290 m, Md_K290 m, Md_R291 m, Md_K291 m, Md_R292 m, Md_K292 m, Md_R293 m, Md_K293 m, Md_R294 m, Md_K294 m, Md_R295 m, Md_K295 m, Md_R296 m, Md_K296 m, Md_R297 m, Md_K297 m, Md_R298 m, Md_K298 m, Md_R299 m, Md_K299 m, S_oneTurn x v1 jl, S_otherTurn x v0 jl, psh_some, Int.toNat_natCast, Int.natCast_nonneg, true_and, and_true, and_self, if_true, if_false, or_true, true_or, or_false, false_or, ne_eq, not_true_eq_false, not_false_eq_true, Nat.reduceLeDiff, Nat.reduceEqDiff, Nat.reduceLT, Nat.reduceAdd, Nat.reduceMul, Nat.reduceSub, Int.reduceLT, Int.reduceLE, Int.reduceEq, Int.reduceToNat, Int.reduceAdd, Int.reduceSub, Int.reduceMul, Int.reduceNeg, Int.cast_ofNat_Int, false_and, and_false]
  generalize oneV (hI h 306) f (L.getD j 0) one = mi at k ⊢
  generalize othV (hI h 305) f (L.getD j 0) other = it at k ⊢
  unfold lsV2 at k
  simp only [rX12_laysForced_143, rX12_laysForced_145, rX12_laysForced_147, rX12_laysForced_149, rX12_laysForced_150, rX12_laysForced_153, rX12_laysForced_155, rX12_laysForced_156, Md_K280 m, Md_R281 m, Md_K281 m, Md_R282 m, Md_K282 m, Md_R283 m, Md_K283 m, Md_R284 m, Md_K284 m, Md_R285 m, Md_K285 m, Md_R286 m, Md_K286 m, Md_R287 m, Md_K287 m, Md_R288 m, Md_K288 m, Md_R289 m, Md_K289 m, Md_R290 m, Md_K290 m, Md_R291 m, Md_K291 m, Md_R292 m, Md_K292 m, Md_R293 m, Md_K293 m, Md_R294 m, Md_K294 m, Md_R295 m, Md_K295 m, Md_R296 m, Md_K296 m, Md_R297 m, Md_K297 m, Md_R298 m, Md_K298 m, Md_R299 m, Md_K299 m, sl', Int.toNat_natCast, Int.natCast_nonneg, true_and, and_true, and_self, if_true, if_false, or_true, true_or, or_false, false_or, ne_eq, not_true_eq_false, not_false_eq_true, Nat.reduceLeDiff, Nat.reduceEqDiff, Nat.reduceLT, Nat.reduceAdd, Nat.reduceMul, Nat.reduceSub, Int.reduceLT, Int.reduceLE, Int.reduceEq, Int.reduceToNat, Int.reduceAdd, Int.reduceSub, Int.reduceMul, Int.reduceNeg, Int.cast_ofNat_Int, false_and, and_false]
  by_cases h1 : mi < hI h 305 (L.getD j 0)
  · rw [if_pos h1]
    rw [if_pos h1, if_pos (Or.inl h1)] at k
    simp only [rX12_laysForced_171, rX12_laysForced_172, rX12_laysForced_176, rX12_laysForced_177, rX12_laysForced_179, rX12_laysForced_180, rX12_laysForced_183, rX12_laysForced_185, rX12_laysForced_187, rX12_laysForced_188, rX12_laysForced_191, rX12_laysForced_193, rX12_laysForced_194, Md_K280 m, Md_R281 m, Md_K281 m, Md_R282 m, Md_K282 m, Md_R283 m, Md_K283 m, Md_R284 m, Md_K284 m, Md_R285 m, Md_K285 m, Md_R286 m, Md_K286 m, Md_R287 m, Md_K287 m, Md_R288 m, Md_K288 m, Md_R289 m, Md_K289 m, Md_R290 m, Md_K290 m, Md_R291 m, Md_K291 m, Md_R292 m, Md_K292 m, Md_R293 m, Md_K293 m, Md_R294 m, Md_K294 m, Md_R295 m, Md_K295 m, Md_R296 m, Md_K296 m, Md_R297 m, Md_K297 m, Md_R298 m, Md_K298 m, Md_R299 m, Md_K299 m, sl', o1, h1, if_true, Int.toNat_natCast, Int.natCast_nonneg, true_and, and_true, and_self, if_true, if_false, or_true, true_or, or_false, false_or, ne_eq, not_true_eq_false, not_false_eq_true, Nat.reduceLeDiff, Nat.reduceEqDiff, Nat.reduceLT, Nat.reduceAdd, Nat.reduceMul, Nat.reduceSub, Int.reduceLT, Int.reduceLE, Int.reduceEq, Int.reduceToNat, Int.reduceAdd, Int.reduceSub, Int.reduceMul, Int.reduceNeg, Int.cast_ofNat_Int, false_and, and_false]
    simp only [rX12_laysForced_197, rX12_laysForced_199, rX12_laysForced_209, rX12_laysForced_210, rX12_laysForced_211, rX12_laysForced_214, rX12_laysForced_216, rX12_laysForced_218, rX12_laysForced_219, rX12_laysForced_222, rX12_laysForced_224, rX12_laysForced_225, hN_wI, hN_wJ, hN_wR, hS_wI, hS_wJ, hS_wR, hK_wI, hK_wJ, hK_wR, hI_wI, hI_wJ, hI_wR, hJ_wI, hJ_wJ, hJ_wR, hR_wI, hR_wJ, hR_wR, hN_nw, hS_nw, hK_nw, hI_nw, hJ_nw, hR_nw, psh_some, psh_none, Md_K280 m, Md_R281 m, Md_K281 m, Md_R282 m, Md_K282 m, Md_R283 m, Md_K283 m, Md_R284 m, Md_K284 m, Md_R285 m, Md_K285 m, Md_R286 m, Md_K286 m, Md_R287 m, Md_K287 m, Md_R288 m, Md_K288 m, Md_R289 m, Md_K289 m, Md_R290 m, Md_K290 m, Md_R291 m, Md_K291 m, Md_R292 m, Md_K292 m, Md_R293 m, Md_K293 m, Md_R294 m, Md_K294 m, Md_R295 m, Md_K295 m, Md_R296 m, Md_K296 m, Md_R297 m, Md_K297 m, Md_R298 m, Md_K298 m, Md_R299 m, Md_K299 m, sl', Int.toNat_natCast, Int.natCast_nonneg, true_and, and_true, and_self, if_true, if_false, or_true, true_or, or_false, false_or, ne_eq, not_true_eq_false, not_false_eq_true, Nat.reduceLeDiff, Nat.reduceEqDiff, Nat.reduceLT, Nat.reduceAdd, Nat.reduceMul, Nat.reduceSub, Int.reduceLT, Int.reduceLE, Int.reduceEq, Int.reduceToNat, Int.reduceAdd, Int.reduceSub, Int.reduceMul, Int.reduceNeg, Int.cast_ofNat_Int, false_and, and_false]
    by_cases h2 : it < hI h 306 (L.getD j 0)
    · rw [if_pos h2] at k ⊢
      simp only [rX12_laysForced_228, rX12_laysForced_230, rX12_laysForced_240, hN_wI, hN_wJ, hN_wR, hS_wI, hS_wJ, hS_wR, hK_wI, hK_wJ, hK_wR, hI_wI, hI_wJ, hI_wR, hJ_wI, hJ_wJ, hJ_wR, hR_wI, hR_wJ, hR_wR, hN_nw, hS_nw, hK_nw, hI_nw, hJ_nw, hR_nw, psh_some, psh_none, Md_K280 m, Md_R281 m, Md_K281 m, Md_R282 m, Md_K282 m, Md_R283 m, Md_K283 m, Md_R284 m, Md_K284 m, Md_R285 m, Md_K285 m, Md_R286 m, Md_K286 m, Md_R287 m, Md_K287 m, Md_R288 m, Md_K288 m, Md_R289 m, Md_K289 m, Md_R290 m, Md_K290 m, Md_R291 m, Md_K291 m, Md_R292 m, Md_K292 m, Md_R293 m, Md_K293 m, Md_R294 m, Md_K294 m, Md_R295 m, Md_K295 m, Md_R296 m, Md_K296 m, Md_R297 m, Md_K297 m, Md_R298 m, Md_K298 m, Md_R299 m, Md_K299 m, sl', Int.toNat_natCast, Int.natCast_nonneg, true_and, and_true, and_self, if_true, if_false, or_true, true_or, or_false, false_or, ne_eq, not_true_eq_false, not_false_eq_true, Nat.reduceLeDiff, Nat.reduceEqDiff, Nat.reduceLT, Nat.reduceAdd, Nat.reduceMul, Nat.reduceSub, Int.reduceLT, Int.reduceLE, Int.reduceEq, Int.reduceToNat, Int.reduceAdd, Int.reduceSub, Int.reduceMul, Int.reduceNeg, Int.cast_ofNat_Int, false_and, and_false]
      exact k _ _ _
    · rw [if_neg h2] at k ⊢
      simp only [rX12_laysForced_233, rX12_laysForced_234, rX12_laysForced_237, rX12_laysForced_239, rX12_laysForced_240, hN_wI, hN_wJ, hN_wR, hS_wI, hS_wJ, hS_wR, hK_wI, hK_wJ, hK_wR, hI_wI, hI_wJ, hI_wR, hJ_wI, hJ_wJ, hJ_wR, hR_wI, hR_wJ, hR_wR, hN_nw, hS_nw, hK_nw, hI_nw, hJ_nw, hR_nw, psh_some, psh_none, Md_K280 m, Md_R281 m, Md_K281 m, Md_R282 m, Md_K282 m, Md_R283 m, Md_K283 m, Md_R284 m, Md_K284 m, Md_R285 m, Md_K285 m, Md_R286 m, Md_K286 m, Md_R287 m, Md_K287 m, Md_R288 m, Md_K288 m, Md_R289 m, Md_K289 m, Md_R290 m, Md_K290 m, Md_R291 m, Md_K291 m, Md_R292 m, Md_K292 m, Md_R293 m, Md_K293 m, Md_R294 m, Md_K294 m, Md_R295 m, Md_K295 m, Md_R296 m, Md_K296 m, Md_R297 m, Md_K297 m, Md_R298 m, Md_K298 m, Md_R299 m, Md_K299 m, sl', Int.toNat_natCast, Int.natCast_nonneg, true_and, and_true, and_self, if_true, if_false, or_true, true_or, or_false, false_or, ne_eq, not_true_eq_false, not_false_eq_true, Nat.reduceLeDiff, Nat.reduceEqDiff, Nat.reduceLT, Nat.reduceAdd, Nat.reduceMul, Nat.reduceSub, Int.reduceLT, Int.reduceLE, Int.reduceEq, Int.reduceToNat, Int.reduceAdd, Int.reduceSub, Int.reduceMul, Int.reduceNeg, Int.cast_ofNat_Int, false_and, and_false]
      exact k _ _ _
  · rw [if_neg h1]
    rw [if_neg h1] at k
    simp only [rX12_laysForced_159, rX12_laysForced_161, rX12_laysForced_162, rX12_laysForced_165, rX12_laysForced_167, rX12_laysForced_168, Md_K280 m, Md_R281 m, Md_K281 m, Md_R282 m, Md_K282 m, Md_R283 m, Md_K283 m, Md_R284 m, Md_K284 m, Md_R285 m, Md_K285 m, Md_R286 m, Md_K286 m, Md_R287 m, Md_K287 m, Md_R288 m, Md_K288 m, Md_R289 m, Md_K289 m, Md_R290 m, Md_K290 m, Md_R291 m, Md_K291 m, Md_R292 m, Md_K292 m, Md_R293 m, Md_K293 m, Md_R294 m, Md_K294 m, Md_R295 m, Md_K295 m, Md_R296 m, Md_K296 m, Md_R297 m, Md_K297 m, Md_R298 m, Md_K298 m, Md_R299 m, Md_K299 m, sl', Int.toNat_natCast, Int.natCast_nonneg, true_and, and_true, and_self, if_true, if_false, or_true, true_or, or_false, false_or, ne_eq, not_true_eq_false, not_false_eq_true, Nat.reduceLeDiff, Nat.reduceEqDiff, Nat.reduceLT, Nat.reduceAdd, Nat.reduceMul, Nat.reduceSub, Int.reduceLT, Int.reduceLE, Int.reduceEq, Int.reduceToNat, Int.reduceAdd, Int.reduceSub, Int.reduceMul, Int.reduceNeg, Int.cast_ofNat_Int, false_and, and_false]
    by_cases h2 : it < hI h 306 (L.getD j 0)
    · rw [if_pos h2]
      rw [if_pos h2, if_pos (Or.inr h2)] at k
      simp only [rX12_laysForced_171, rX12_laysForced_172, rX12_laysForced_176, rX12_laysForced_177, rX12_laysForced_179, rX12_laysForced_180, rX12_laysForced_183, rX12_laysForced_185, rX12_laysForced_187, rX12_laysForced_188, rX12_laysForced_191, rX12_laysForced_193, rX12_laysForced_194, Md_K280 m, Md_R281 m, Md_K281 m, Md_R282 m, Md_K282 m, Md_R283 m, Md_K283 m, Md_R284 m, Md_K284 m, Md_R285 m, Md_K285 m, Md_R286 m, Md_K286 m, Md_R287 m, Md_K287 m, Md_R288 m, Md_K288 m, Md_R289 m, Md_K289 m, Md_R290 m, Md_K290 m, Md_R291 m, Md_K291 m, Md_R292 m, Md_K292 m, Md_R293 m, Md_K293 m, Md_R294 m, Md_K294 m, Md_R295 m, Md_K295 m, Md_R296 m, Md_K296 m, Md_R297 m, Md_K297 m, Md_R298 m, Md_K298 m, Md_R299 m, Md_K299 m, sl', o1, h1, if_false, Int.toNat_natCast, Int.natCast_nonneg, true_and, and_true, and_self, if_true, if_false, or_true, true_or, or_false, false_or, ne_eq, not_true_eq_false, not_false_eq_true, Nat.reduceLeDiff, Nat.reduceEqDiff, Nat.reduceLT, Nat.reduceAdd, Nat.reduceMul, Nat.reduceSub, Int.reduceLT, Int.reduceLE, Int.reduceEq, Int.reduceToNat, Int.reduceAdd, Int.reduceSub, Int.reduceMul, Int.reduceNeg, Int.cast_ofNat_Int, false_and, and_false]
      simp only [rX12_laysForced_202, rX12_laysForced_203, rX12_laysForced_206, rX12_laysForced_208, rX12_laysForced_209, rX12_laysForced_210, rX12_laysForced_211, rX12_laysForced_214, rX12_laysForced_216, rX12_laysForced_218, rX12_laysForced_219, rX12_laysForced_222, rX12_laysForced_224, rX12_laysForced_225, hN_wI, hN_wJ, hN_wR, hS_wI, hS_wJ, hS_wR, hK_wI, hK_wJ, hK_wR, hI_wI, hI_wJ, hI_wR, hJ_wI, hJ_wJ, hJ_wR, hR_wI, hR_wJ, hR_wR, hN_nw, hS_nw, hK_nw, hI_nw, hJ_nw, hR_nw, psh_some, psh_none, Md_K280 m, Md_R281 m, Md_K281 m, Md_R282 m, Md_K282 m, Md_R283 m, Md_K283 m, Md_R284 m, Md_K284 m, Md_R285 m, Md_K285 m, Md_R286 m, Md_K286 m, Md_R287 m, Md_K287 m, Md_R288 m, Md_K288 m, Md_R289 m, Md_K289 m, Md_R290 m, Md_K290 m, Md_R291 m, Md_K291 m, Md_R292 m, Md_K292 m, Md_R293 m, Md_K293 m, Md_R294 m, Md_K294 m, Md_R295 m, Md_K295 m, Md_R296 m, Md_K296 m, Md_R297 m, Md_K297 m, Md_R298 m, Md_K298 m, Md_R299 m, Md_K299 m, sl', h2, Int.toNat_natCast, Int.natCast_nonneg, true_and, and_true, and_self, if_true, if_false, or_true, true_or, or_false, false_or, ne_eq, not_true_eq_false, not_false_eq_true, Nat.reduceLeDiff, Nat.reduceEqDiff, Nat.reduceLT, Nat.reduceAdd, Nat.reduceMul, Nat.reduceSub, Int.reduceLT, Int.reduceLE, Int.reduceEq, Int.reduceToNat, Int.reduceAdd, Int.reduceSub, Int.reduceMul, Int.reduceNeg, Int.cast_ofNat_Int, false_and, and_false]
      simp only [rX12_laysForced_228, rX12_laysForced_230, rX12_laysForced_240, hN_wI, hN_wJ, hN_wR, hS_wI, hS_wJ, hS_wR, hK_wI, hK_wJ, hK_wR, hI_wI, hI_wJ, hI_wR, hJ_wI, hJ_wJ, hJ_wR, hR_wI, hR_wJ, hR_wR, hN_nw, hS_nw, hK_nw, hI_nw, hJ_nw, hR_nw, psh_some, psh_none, Md_K280 m, Md_R281 m, Md_K281 m, Md_R282 m, Md_K282 m, Md_R283 m, Md_K283 m, Md_R284 m, Md_K284 m, Md_R285 m, Md_K285 m, Md_R286 m, Md_K286 m, Md_R287 m, Md_K287 m, Md_R288 m, Md_K288 m, Md_R289 m, Md_K289 m, Md_R290 m, Md_K290 m, Md_R291 m, Md_K291 m, Md_R292 m, Md_K292 m, Md_R293 m, Md_K293 m, Md_R294 m, Md_K294 m, Md_R295 m, Md_K295 m, Md_R296 m, Md_K296 m, Md_R297 m, Md_K297 m, Md_R298 m, Md_K298 m, Md_R299 m, Md_K299 m, sl', Int.toNat_natCast, Int.natCast_nonneg, true_and, and_true, and_self, if_true, if_false, or_true, true_or, or_false, false_or, ne_eq, not_true_eq_false, not_false_eq_true, Nat.reduceLeDiff, Nat.reduceEqDiff, Nat.reduceLT, Nat.reduceAdd, Nat.reduceMul, Nat.reduceSub, Int.reduceLT, Int.reduceLE, Int.reduceEq, Int.reduceToNat, Int.reduceAdd, Int.reduceSub, Int.reduceMul, Int.reduceNeg, Int.cast_ofNat_Int, false_and, and_false]
      exact k _ _ _
    · rw [if_neg h2]
      rw [if_neg h2, if_neg (fun c => c.elim h1 h2)] at k
      simp only [rX12_laysForced_175, rX12_laysForced_176, rX12_laysForced_177, rX12_laysForced_179, rX12_laysForced_180, rX12_laysForced_183, rX12_laysForced_185, rX12_laysForced_187, rX12_laysForced_188, rX12_laysForced_191, rX12_laysForced_193, rX12_laysForced_194, Md_K280 m, Md_R281 m, Md_K281 m, Md_R282 m, Md_K282 m, Md_R283 m, Md_K283 m, Md_R284 m, Md_K284 m, Md_R285 m, Md_K285 m, Md_R286 m, Md_K286 m, Md_R287 m, Md_K287 m, Md_R288 m, Md_K288 m, Md_R289 m, Md_K289 m, Md_R290 m, Md_K290 m, Md_R291 m, Md_K291 m, Md_R292 m, Md_K292 m, Md_R293 m, Md_K293 m, Md_R294 m, Md_K294 m, Md_R295 m, Md_K295 m, Md_R296 m, Md_K296 m, Md_R297 m, Md_K297 m, Md_R298 m, Md_K298 m, Md_R299 m, Md_K299 m, sl', o0, h1, if_false, Int.toNat_natCast, Int.natCast_nonneg, true_and, and_true, and_self, if_true, if_false, or_true, true_or, or_false, false_or, ne_eq, not_true_eq_false, not_false_eq_true, Nat.reduceLeDiff, Nat.reduceEqDiff, Nat.reduceLT, Nat.reduceAdd, Nat.reduceMul, Nat.reduceSub, Int.reduceLT, Int.reduceLE, Int.reduceEq, Int.reduceToNat, Int.reduceAdd, Int.reduceSub, Int.reduceMul, Int.reduceNeg, Int.cast_ofNat_Int, false_and, and_false]
      simp only [rX12_laysForced_202, rX12_laysForced_203, rX12_laysForced_206, rX12_laysForced_208, rX12_laysForced_209, rX12_laysForced_210, rX12_laysForced_211, rX12_laysForced_214, rX12_laysForced_216, rX12_laysForced_218, rX12_laysForced_219, rX12_laysForced_222, rX12_laysForced_224, rX12_laysForced_225, hN_wI, hN_wJ, hN_wR, hS_wI, hS_wJ, hS_wR, hK_wI, hK_wJ, hK_wR, hI_wI, hI_wJ, hI_wR, hJ_wI, hJ_wJ, hJ_wR, hR_wI, hR_wJ, hR_wR, hN_nw, hS_nw, hK_nw, hI_nw, hJ_nw, hR_nw, psh_some, psh_none, Md_K280 m, Md_R281 m, Md_K281 m, Md_R282 m, Md_K282 m, Md_R283 m, Md_K283 m, Md_R284 m, Md_K284 m, Md_R285 m, Md_K285 m, Md_R286 m, Md_K286 m, Md_R287 m, Md_K287 m, Md_R288 m, Md_K288 m, Md_R289 m, Md_K289 m, Md_R290 m, Md_K290 m, Md_R291 m, Md_K291 m, Md_R292 m, Md_K292 m, Md_R293 m, Md_K293 m, Md_R294 m, Md_K294 m, Md_R295 m, Md_K295 m, Md_R296 m, Md_K296 m, Md_R297 m, Md_K297 m, Md_R298 m, Md_K298 m, Md_R299 m, Md_K299 m, sl', h2, Int.toNat_natCast, Int.natCast_nonneg, true_and, and_true, and_self, if_true, if_false, or_true, true_or, or_false, false_or, ne_eq, not_true_eq_false, not_false_eq_true, Nat.reduceLeDiff, Nat.reduceEqDiff, Nat.reduceLT, Nat.reduceAdd, Nat.reduceMul, Nat.reduceSub, Int.reduceLT, Int.reduceLE, Int.reduceEq, Int.reduceToNat, Int.reduceAdd, Int.reduceSub, Int.reduceMul, Int.reduceNeg, Int.cast_ofNat_Int, false_and, and_false]
      simp only [rX12_laysForced_233, rX12_laysForced_234, rX12_laysForced_237, rX12_laysForced_239, rX12_laysForced_240, hN_wI, hN_wJ, hN_wR, hS_wI, hS_wJ, hS_wR, hK_wI, hK_wJ, hK_wR, hI_wI, hI_wJ, hI_wR, hJ_wI, hJ_wJ, hJ_wR, hR_wI, hR_wJ, hR_wR, hN_nw, hS_nw, hK_nw, hI_nw, hJ_nw, hR_nw, psh_some, psh_none, Md_K280 m, Md_R281 m, Md_K281 m, Md_R282 m, Md_K282 m, Md_R283 m, Md_K283 m, Md_R284 m, Md_K284 m, Md_R285 m, Md_K285 m, Md_R286 m, Md_K286 m, Md_R287 m, Md_K287 m, Md_R288 m, Md_K288 m, Md_R289 m, Md_K289 m, Md_R290 m, Md_K290 m, Md_R291 m, Md_K291 m, Md_R292 m, Md_K292 m, Md_R293 m, Md_K293 m, Md_R294 m, Md_K294 m, Md_R295 m, Md_K295 m, Md_R296 m, Md_K296 m, Md_R297 m, Md_K297 m, Md_R298 m, Md_K298 m, Md_R299 m, Md_K299 m, sl', Int.toNat_natCast, Int.natCast_nonneg, true_and, and_true, and_self, if_true, if_false, or_true, true_or, or_false, false_or, ne_eq, not_true_eq_false, not_false_eq_true, Nat.reduceLeDiff, Nat.reduceEqDiff, Nat.reduceLT, Nat.reduceAdd, Nat.reduceMul, Nat.reduceSub, Int.reduceLT, Int.reduceLE, Int.reduceEq, Int.reduceToNat, Int.reduceAdd, Int.reduceSub, Int.reduceMul, Int.reduceNeg, Int.cast_ofNat_Int, false_and, and_false]
      exact k _ _ _
