/-! two sides by turns, worked out backwards -/
def sd (one other m : Nat) : Nat := if m = 0 then one else other
/-- what position P becomes by e -/
def ScR (f : Nat → Nat → Nat) (one other : Nat) (L : List Nat) (P e S : Nat) : Prop := (sd one other (P % 2) = 0 ∧ e = 0 ∧ S = 2 * (P / 2) + (1 - P % 2)) ∨ (sd one other (P % 2) ≠ 0 ∧ (sd one other (P % 2)).testBit e = true ∧ S % 2 = 1 - P % 2 ∧ L.getD (S / 2) 0 = f e (L.getD (P / 2) 0))
theorem ScR.uniq {f : Nat → Nat → Nat} {one other : Nat} {L : List Nat} (o : lsOk L) {P e S S' : Nat} (h : ScR f one other L P e S) (h' : ScR f one other L P e S') (hS : S < 2 * L.length) (hS' : S' < 2 * L.length) : S = S' := by
  rcases h with ⟨a, b, c⟩ | ⟨a, b, c, d⟩
  · rcases h' with ⟨a', b', c'⟩ | ⟨a', _⟩
    · rw [c, c']
    · exact absurd a a'
  · rcases h' with ⟨a', _⟩ | ⟨a', b', c', d'⟩
    · exact absurd a' a
    · have := getD_inj o (p := S / 2) (q := S' / 2) (by omega) (by omega) (by rw [d, d'])
      omega
theorem bt1' : ∀ m : Nat, m < 64 → ∀ e : Nat, e < 6 → m.testBit e = false → bits (m ||| 2 ^ e) = bits m + 1 := by decide +kernel
theorem bt1 (s : Nat) (hs : s < 64) (m : Nat) (hm : m < 64) (h : m &&& s = m) (e : Nat) (he : e < 6) (h1 : s.testBit e = true) (h2 : m.testBit e = false) : bits (m ||| 2 ^ e) = bits m + 1 ∧ (m ||| 2 ^ e) &&& s = m ||| 2 ^ e := by
  refine ⟨bt1' m hm e he h2, Nat.eq_of_testBit_eq (fun i => ?_)⟩
  rw [Nat.testBit_and, or_bit]
  have hi : (m.testBit i && s.testBit i) = m.testBit i := by rw [← Nat.testBit_and, h]
  by_cases q : i = e
  · rw [q, h1, Bool.and_true]
  · rw [decide_eq_false q, Bool.or_false, hi]
theorem bt2 : ∀ s : Nat, s < 64 → ∀ m : Nat, m < 64 → m &&& s = m → bits m ≤ bits s ∧ (bits m = bits s → m = s) := by decide +kernel
theorem bt3 : ∀ s : Nat, s < 64 → s ≠ 0 → 1 ≤ bits s := by decide +kernel
def GI (f : Nat → Nat → Nat) (gl : Nat → Bool) (one other : Nat) (L : List Nat) (T O : Nat → Int) (Qu : List Nat) (Em : Nat → Nat) (lv : Nat) : Prop :=
  (∀ P, P < 2 * L.length → T P = -1 ∨ ∃ n : Nat, T P = (n : Int) ∧ n ≤ lv + 1 ∧ Wn f gl one other n (P % 2) (L.getD (P / 2) 0)) ∧
  (∀ P, P < 2 * L.length → (T P ≠ -1 ↔ P ∈ Qu)) ∧ Qu.Nodup ∧ (∀ P, P ∈ Qu → P < 2 * L.length) ∧
  (∀ P, P < 2 * L.length → T P = -1 → (P % 2 = 0 ∨ other = 0 → O P = 1 ∧ Em P = 0) ∧ (P % 2 = 1 → other ≠ 0 → O P = (bits other : Int) - (bits (Em P) : Int) ∧ 1 ≤ O P ∧ Em P &&& other = Em P)) ∧
  (∀ P, P < 2 * L.length → gl (L.getD (P / 2) 0) = true → T P = 0) ∧
  (∀ P e S, P < 2 * L.length → S < 2 * L.length → (Em P).testBit e = true → ScR f one other L P e S → ∃ k : Nat, T S = (k : Int) ∧ k ≤ lv ∧ (P % 2 = 0 → T P ≤ (k : Int) + 1)) ∧
  (∀ P, P < 2 * L.length → P % 2 = 1 → T P ≠ -1 → gl (L.getD (P / 2) 0) = true ∨ ∃ e S, S < 2 * L.length ∧ ScR f one other L P e S ∧ T S ≠ -1 ∧ T P ≤ T S + 1) ∧
  (∀ a b, a ≤ b → b < Qu.length → T (Qu.getD a 0) ≤ T (Qu.getD b 0)) ∧ (∀ a, a < Qu.length → T (Qu.getD a 0) ≤ (a : Int)) ∧ (∀ P, Em P < 64)
theorem ScR.e6 {f : Nat → Nat → Nat} {one other : Nat} {L : List Nat} (o1 : one < 64) (o2 : other < 64) {P e S : Nat} (h : ScR f one other L P e S) : e < 6 := by
  rcases h with ⟨_, b, _⟩ | ⟨_, b, _⟩
  · omega
  · refine bit6 ?_ b
    unfold sd
    split
    · exact o1
    · exact o2
theorem GI.old {f : Nat → Nat → Nat} {gl : Nat → Bool} {one other : Nat} {L : List Nat} {T O : Nat → Int} {Qu : List Nat} {Em : Nat → Nat} {lv : Nat} (o : lsOk L) (o1 : one < 64) (o2 : other < 64) (x : GI f gl one other L T O Qu Em lv) {P e S : Nat} (hP : P < 2 * L.length) (hS : S < 2 * L.length) (sc : ScR f one other L P e S) (ts : T S = (lv : Int)) (tp : T P ≠ -1) : GI f gl one other L T O Qu (upN Em P (Em P ||| 2 ^ e)) lv := by
  obtain ⟨x1, x2, x3, x4, x5, x6, x7, x8, x9, x10, x11⟩ := x
  have e6 := sc.e6 o1 o2
  refine ⟨x1, x2, x3, x4, fun R hR hT => ?_, x6, fun R e' S' hR hS' hb sc' => ?_, x8, x9, x10, fun R => ?_⟩
  · have hne : R ≠ P := fun c => by rw [c] at hT; exact tp hT
    rw [upN_ne _ _ hne]; exact x5 R hR hT
  · by_cases hne : R = P
    · subst hne
      rw [upN_eq, or_bit, Bool.or_eq_true, decide_eq_true_eq] at hb
      rcases hb with hb | hb
      · exact x7 R e' S' hR hS' hb sc'
      · subst hb
        have := sc'.uniq o sc hS' hS
        subst this
        refine ⟨lv, ts, Nat.le_refl _, fun _ => ?_⟩
        rcases x1 R hR with q | ⟨n, q, hn, _⟩
        · exact absurd q tp
        · rw [q]; omega
    · rw [upN_ne _ _ hne] at hb; exact x7 R e' S' hR hS' hb sc'
  · by_cases hne : R = P
    · rw [hne, upN_eq]; exact Nat.or_lt_two_pow (n := 6) (x11 P) (Nat.pow_lt_pow_right (a := 2) (by decide) e6)
    · rw [upN_ne _ _ hne]; exact x11 R
theorem GI.more {f : Nat → Nat → Nat} {gl : Nat → Bool} {one other : Nat} {L : List Nat} {T O : Nat → Int} {Qu : List Nat} {Em : Nat → Nat} {lv : Nat} (o : lsOk L) (o1 : one < 64) (o2 : other < 64) (x : GI f gl one other L T O Qu Em lv) {P e S : Nat} (hP : P < 2 * L.length) (hS : S < 2 * L.length) (sc : ScR f one other L P e S) (ts : T S = (lv : Int)) (tp : T P = -1) (ne : (Em P).testBit e = false) (op : 0 < O P - 1) : GI f gl one other L T (upI O P (O P - 1)) Qu (upN Em P (Em P ||| 2 ^ e)) lv := by
  obtain ⟨x1, x2, x3, x4, x5, x6, x7, x8, x9, x10, x11⟩ := x
  have e6 := sc.e6 o1 o2
  obtain ⟨y1, y2⟩ := x5 P hP tp
  have pm : P % 2 = 1 ∧ other ≠ 0 := by
    refine ⟨?_, fun c => ?_⟩
    · by_cases h : P % 2 = 0
      · have := (y1 (Or.inl h)).1; omega
      · omega
    · have := (y1 (Or.inr c)).1; omega
  obtain ⟨y3, y4, y5⟩ := y2 pm.1 pm.2
  have sb : other.testBit e = true := by
    have hs : sd one other (P % 2) = other := by unfold sd; rw [if_neg (by omega)]
    rcases sc with ⟨a, _⟩ | ⟨_, b, _⟩
    · rw [hs] at a; exact absurd a pm.2
    · rw [hs] at b; exact b
  obtain ⟨b1, b2⟩ := bt1 other o2 (Em P) (x11 P) y5 e e6 sb ne
  refine ⟨x1, x2, x3, x4, fun R hR hT => ?_, x6, fun R e' S' hR hS' hb sc' => ?_, x8, x9, x10, fun R => ?_⟩
  · by_cases hne : R = P
    · subst hne
      rw [upN_eq, upI_eq]
      refine ⟨fun q => ?_, fun _ _ => ⟨?_, by omega, b2⟩⟩
      · rcases q with q | q
        · omega
        · exact absurd q pm.2
      · rw [b1, y3]; omega
    · rw [upN_ne _ _ hne, upI_ne _ _ hne]; exact x5 R hR hT
  · by_cases hne : R = P
    · subst hne
      rw [upN_eq, or_bit, Bool.or_eq_true, decide_eq_true_eq] at hb
      rcases hb with hb | hb
      · exact x7 R e' S' hR hS' hb sc'
      · subst hb
        have := sc'.uniq o sc hS' hS
        subst this
        exact ⟨lv, ts, Nat.le_refl _, fun q => by omega⟩
    · rw [upN_ne _ _ hne] at hb; exact x7 R e' S' hR hS' hb sc'
  · by_cases hne : R = P
    · rw [hne, upN_eq]; exact Nat.or_lt_two_pow (n := 6) (x11 P) (Nat.pow_lt_pow_right (a := 2) (by decide) e6)
    · rw [upN_ne _ _ hne]; exact x11 R
theorem GI.new {f : Nat → Nat → Nat} {gl : Nat → Bool} {one other : Nat} {L : List Nat} {T O : Nat → Int} {Qu : List Nat} {Em : Nat → Nat} {lv : Nat} (o : lsOk L) (o1 : one < 64) (o2 : other < 64) (x : GI f gl one other L T O Qu Em lv) {P e S : Nat} (hP : P < 2 * L.length) (hS : S < 2 * L.length) (sc : ScR f one other L P e S) (scx : ∀ g, (sd one other (P % 2)).testBit g = true → sd one other (P % 2) ≠ 0 → ∃ S', S' < 2 * L.length ∧ ScR f one other L P g S') (ts : T S = (lv : Int)) (tp : T P = -1) (ne : (Em P).testBit e = false) (op : ¬ 0 < O P - 1) (lq : lv + 1 ≤ Qu.length) : GI f gl one other L (upI T P ((lv : Int) + 1)) (upI O P (O P - 1)) (Qu ++ [P]) (upN Em P (Em P ||| 2 ^ e)) lv := by
  obtain ⟨x1, x2, x3, x4, x5, x6, x7, x8, x9, x10, x11⟩ := x
  have e6 := sc.e6 o1 o2
  obtain ⟨y1, y2⟩ := x5 P hP tp
  have nq : ¬ P ∈ Qu := fun c => (x2 P hP).2 c tp
  have sP : S ≠ P := fun c => by rw [c, tp] at ts; omega
  have tS : upI T P ((lv : Int) + 1) S = (lv : Int) := by rw [upI_ne _ _ sP]; exact ts
  have wS : Wn f gl one other lv (S % 2) (L.getD (S / 2) 0) := by
    rcases x1 S hS with q | ⟨n, q, hn, w⟩
    · rw [q] at ts; omega
    · have : n = lv := by omega
      rw [← this]; exact w
  have ng : ¬ gl (L.getD (P / 2) 0) = true := fun c => by rw [x6 P hP c] at tp; omega
  have eg : ∀ a, a < Qu.length → (Qu ++ [P]).getD a 0 = Qu.getD a 0 := fun a ha => getD_app ha
  have tq : ∀ a, a < Qu.length → upI T P ((lv : Int) + 1) (Qu.getD a 0) = T (Qu.getD a 0) := fun a ha => upI_ne _ _ (fun c => nq (by rw [← c]; exact getD_mem ha))
  have mono : ∀ R, R < 2 * L.length → T R ≠ -1 → upI T P ((lv : Int) + 1) R = T R := fun R hR hT => upI_ne _ _ (fun c => by rw [c] at hT; exact hT tp)
  have wP : Wn f gl one other (lv + 1) (P % 2) (L.getD (P / 2) 0) := by
    refine Or.inr ?_
    by_cases hm : P % 2 = 0
    · rw [if_pos hm]
      have hs : sd one other (P % 2) = one := by unfold sd; rw [if_pos hm]
      rcases sc with ⟨a, b, c⟩ | ⟨a, b, c, dd⟩
      · rw [hs] at a
        rw [if_pos a]
        have e1 : S % 2 = 1 := by omega
        have e2 : S / 2 = P / 2 := by omega
        rw [e1, e2] at wS; exact wS
      · rw [hs] at a b
        rw [if_neg a]
        have e1 : S % 2 = 1 := by omega
        rw [e1, dd] at wS
        exact ⟨e, b, wS⟩
    · rw [if_neg hm]
      have hm1 : P % 2 = 1 := by omega
      have hs : sd one other (P % 2) = other := by unfold sd; rw [if_neg hm]
      rcases sc with ⟨a, b, c⟩ | ⟨a, b, c, dd⟩
      · rw [hs] at a
        rw [if_pos a]
        have e1 : S % 2 = 0 := by omega
        have e2 : S / 2 = P / 2 := by omega
        rw [e1, e2] at wS; exact wS
      · rw [hs] at a b
        rw [if_neg a]
        intro g hg
        obtain ⟨y3, y4, y5⟩ := y2 hm1 a
        obtain ⟨b1, b2⟩ := bt1 other o2 (Em P) (x11 P) y5 e e6 b ne
        have m64 : Em P ||| 2 ^ e < 64 := Nat.or_lt_two_pow (n := 6) (x11 P) (Nat.pow_lt_pow_right (a := 2) (by decide) e6)
        have full := (bt2 other o2 _ m64 b2).2 (by have := (bt2 other o2 _ m64 b2).1; omega)
        have hg2 : (Em P ||| 2 ^ e).testBit g = true := by rw [full]; exact hg
        rw [or_bit, Bool.or_eq_true, decide_eq_true_eq] at hg2
        have e1 : S % 2 = 0 := by omega
        rcases hg2 with hg2 | hg2
        · obtain ⟨S', hS', sc'⟩ := scx g (by rw [hs]; exact hg) (by rw [hs]; exact a)
          obtain ⟨k, tk, kl, _⟩ := x7 P g S' hP hS' hg2 sc'
          rcases x1 S' hS' with q | ⟨n, q, hn, w⟩
          · rw [q] at tk; omega
          · have en : n = k := by omega
            rcases sc' with ⟨a', _⟩ | ⟨a', b', c', d'⟩
            · rw [hs] at a'; exact absurd a' a
            · have e3 : S' % 2 = 0 := by omega
              rw [e3, d'] at w
              exact Wn_le (by omega) w
        · rw [e1, dd, ← hg2] at wS; exact wS
  have len : (Qu ++ [P]).length = Qu.length + 1 := by rw [List.length_append]; rfl
  have top : ∀ R, R < 2 * L.length → T R ≤ (lv : Int) + 1 := fun R hR => by
    rcases x1 R hR with q | ⟨n, q, hn, _⟩
    · rw [q]; omega
    · rw [q]; omega
  refine ⟨fun R hR => ?_, fun R hR => ?_, ?_, fun R hR => ?_, fun R hR hT => ?_, fun R hR hg => ?_, fun R e' S' hR hS' hb sc' => ?_, fun R hR hm hT => ?_, fun a b hab hb => ?_, fun a ha => ?_, fun R => ?_⟩
  · by_cases hne : R = P
    · subst hne
      rw [upI_eq]
      exact Or.inr ⟨lv + 1, by omega, Nat.le_refl _, wP⟩
    · rw [upI_ne _ _ hne]; exact x1 R hR
  · by_cases hne : R = P
    · subst hne
      rw [upI_eq]
      exact ⟨fun _ => List.mem_append_right _ (List.mem_singleton.2 rfl), fun _ => by omega⟩
    · rw [upI_ne _ _ hne, x2 R hR]
      exact ⟨fun q => List.mem_append_left _ q, fun q => (List.mem_append.1 q).elim id (fun q => absurd (List.mem_singleton.1 q) hne)⟩
  · rw [List.nodup_append]
    exact ⟨x3, by simp, fun a ha b hb c => nq (by rw [List.mem_singleton] at hb; rw [← hb, ← c]; exact ha)⟩
  · rcases List.mem_append.1 hR with q | q
    · exact x4 R q
    · rw [List.mem_singleton] at q; rw [q]; exact hP
  · have hne : R ≠ P := fun c => by rw [c, upI_eq] at hT; omega
    rw [upI_ne _ _ hne] at hT
    rw [upN_ne _ _ hne, upI_ne _ _ hne]; exact x5 R hR hT
  · have hne : R ≠ P := fun c => by rw [c] at hg; exact ng hg
    rw [upI_ne _ _ hne]; exact x6 R hR hg
  · by_cases hne : R = P
    · subst hne
      rw [upN_eq, or_bit, Bool.or_eq_true, decide_eq_true_eq] at hb
      rcases hb with hb | hb
      · obtain ⟨k, tk, kl, _⟩ := x7 R e' S' hR hS' hb sc'
        have sR : S' ≠ R := fun c => by rw [c, tp] at tk; omega
        refine ⟨k, by rw [upI_ne _ _ sR]; exact tk, kl, fun q => ?_⟩
        rw [(y1 (Or.inl q)).2, Nat.zero_testBit] at hb
        exact absurd hb (by decide)
      · subst hb
        have := sc'.uniq o sc hS' hS
        subst this
        exact ⟨lv, tS, Nat.le_refl _, fun q => by rw [upI_eq]; exact Int.le_refl _⟩
    · rw [upN_ne _ _ hne] at hb
      obtain ⟨k, tk, kl, le⟩ := x7 R e' S' hR hS' hb sc'
      have sR : S' ≠ P := fun c => by rw [c, tp] at tk; omega
      exact ⟨k, by rw [upI_ne _ _ sR]; exact tk, kl, by rw [upI_ne _ _ hne]; exact le⟩
  · by_cases hne : R = P
    · subst hne
      rw [upI_eq]
      exact Or.inr ⟨e, S, hS, sc, by rw [tS]; omega, by rw [tS]; exact Int.le_refl _⟩
    · rw [upI_ne _ _ hne] at hT ⊢
      rcases x8 R hR hm hT with q | ⟨e', S', h1, h2, h3, h4⟩
      · exact Or.inl q
      · exact Or.inr ⟨e', S', h1, h2, by rw [mono S' h1 h3]; exact h3, by rw [mono S' h1 h3]; exact h4⟩
  · rw [len] at hb
    by_cases hbl : b = Qu.length
    · rw [hbl, getD_end, upI_eq]
      by_cases hal : a = Qu.length
      · rw [hal, getD_end, upI_eq]; exact Int.le_refl _
      · rw [eg a (by omega), tq a (by omega)]; exact top _ (x4 _ (getD_mem (by omega)))
    · rw [eg a (by omega), eg b (by omega), tq a (by omega), tq b (by omega)]; exact x9 a b hab (by omega)
  · rw [len] at ha
    by_cases hal : a = Qu.length
    · rw [hal, getD_end, upI_eq]; omega
    · rw [eg a (by omega), tq a (by omega)]; exact x10 a (by omega)
  · by_cases hne : R = P
    · rw [hne, upN_eq]; exact Nat.or_lt_two_pow (n := 6) (x11 P) (Nat.pow_lt_pow_right (a := 2) (by decide) e6)
    · rw [upN_ne _ _ hne]; exact x11 R
/-- the next level -/
theorem GI.lv {f : Nat → Nat → Nat} {gl : Nat → Bool} {one other : Nat} {L : List Nat} {T O : Nat → Int} {Qu : List Nat} {Em : Nat → Nat} {lv lv' : Nat} (x : GI f gl one other L T O Qu Em lv) (h : lv ≤ lv') : GI f gl one other L T O Qu Em lv' := by
  obtain ⟨x1, x2, x3, x4, x5, x6, x7, x8, x9, x10, x11⟩ := x
  refine ⟨fun R hR => ?_, x2, x3, x4, x5, x6, fun R e' S' hR hS' hb sc' => ?_, x8, x9, x10, x11⟩
  · rcases x1 R hR with q | ⟨n, q, hn, w⟩
    · exact Or.inl q
    · exact Or.inr ⟨n, q, by omega, w⟩
  · obtain ⟨k, tk, kl, le⟩ := x7 R e' S' hR hS' hb sc'
    exact ⟨k, tk, by omega, le⟩
/-- at the end nothing is left out -/
theorem GI.done {f : Nat → Nat → Nat} {gl : Nat → Bool} {one other : Nat} {L : List Nat} {T O : Nat → Int} {Qu : List Nat} {Em : Nat → Nat} {lv : Nat} (o2 : other < 64) (x : GI f gl one other L T O Qu Em lv) (all : ∀ P e S, P < 2 * L.length → S < 2 * L.length → ScR f one other L P e S → S ∈ Qu → (Em P).testBit e = true) (scx : ∀ P, P < 2 * L.length → ∀ g, (sd one other (P % 2)).testBit g = true → sd one other (P % 2) ≠ 0 → ∃ S', S' < 2 * L.length ∧ ScR f one other L P g S') : ∀ n P, P < 2 * L.length → Wn f gl one other n (P % 2) (L.getD (P / 2) 0) → T P ≠ -1 ∧ T P ≤ (n : Int) := by
  obtain ⟨x1, x2, x3, x4, x5, x6, x7, x8, x9, x10, x11⟩ := x
  intro n
  induction n with
  | zero =>
    intro P hP w
    rw [x6 P hP w]
    exact ⟨by decide, Int.le_refl _⟩
  | succ n ih =>
    intro P hP w
    by_cases hg : gl (L.getD (P / 2) 0) = true
    · rw [x6 P hP hg]; exact ⟨by decide, by omega⟩
    · have w' := w.resolve_left hg
      by_cases hm : P % 2 = 0
      · rw [if_pos hm] at w'
        have hs : sd one other (P % 2) = one := by unfold sd; rw [if_pos hm]
        have ex : ∃ e S, S < 2 * L.length ∧ ScR f one other L P e S ∧ Wn f gl one other n (S % 2) (L.getD (S / 2) 0) := by
          by_cases h0 : one = 0
          · rw [if_pos h0] at w'
            refine ⟨0, 2 * (P / 2) + (1 - P % 2), by omega, Or.inl ⟨by rw [hs]; exact h0, rfl, rfl⟩, ?_⟩
            rw [show (2 * (P / 2) + (1 - P % 2)) % 2 = 1 by omega, show (2 * (P / 2) + (1 - P % 2)) / 2 = P / 2 by omega]; exact w'
          · rw [if_neg h0] at w'
            obtain ⟨g, h1, h2⟩ := w'
            obtain ⟨S', hS', sc'⟩ := scx P hP g (by rw [hs]; exact h1) (by rw [hs]; exact h0)
            refine ⟨g, S', hS', sc', ?_⟩
            rcases sc' with ⟨a', _⟩ | ⟨a', b', c', d'⟩
            · rw [hs] at a'; exact absurd a' h0
            · rw [show S' % 2 = 1 by omega, d']; exact h2
        obtain ⟨e, S, hS, sc, wS⟩ := ex
        obtain ⟨t1, t2⟩ := ih S hS wS
        have em := all P e S hP hS sc ((x2 S hS).1 t1)
        obtain ⟨k, tk, kl, le⟩ := x7 P e S hP hS em sc
        refine ⟨fun c => ?_, ?_⟩
        · rw [((x5 P hP c).1 (Or.inl hm)).2, Nat.zero_testBit] at em; exact absurd em (by decide)
        · have := le hm; omega
      · rw [if_neg hm] at w'
        have hm1 : P % 2 = 1 := by omega
        have hs : sd one other (P % 2) = other := by unfold sd; rw [if_neg hm]
        have sw : ∀ e S, S < 2 * L.length → ScR f one other L P e S → Wn f gl one other n (S % 2) (L.getD (S / 2) 0) := by
          intro e S hS sc
          rcases sc with ⟨a', b', c'⟩ | ⟨a', b', c', d'⟩
          · rw [hs] at a'
            rw [if_pos a'] at w'
            rw [show S % 2 = 0 by omega, show S / 2 = P / 2 by omega]; exact w'
          · rw [hs] at a' b'
            rw [if_neg a'] at w'
            rw [show S % 2 = 0 by omega, d']; exact w' e b'
        have as : T P ≠ -1 := fun c => by
          obtain ⟨z1, z2⟩ := x5 P hP c
          by_cases h0 : other = 0
          · have sc : ScR f one other L P 0 (2 * (P / 2) + (1 - P % 2)) := Or.inl ⟨by rw [hs]; exact h0, rfl, rfl⟩
            have hS : 2 * (P / 2) + (1 - P % 2) < 2 * L.length := by omega
            have em := all P 0 _ hP hS sc ((x2 _ hS).1 (ih _ hS (sw 0 _ hS sc)).1)
            rw [(z1 (Or.inr h0)).2, Nat.zero_testBit] at em; exact absurd em (by decide)
          · obtain ⟨z3, z4, z5⟩ := z2 hm1 h0
            have full : Em P = other := by
              apply Nat.eq_of_testBit_eq
              intro g
              cases hb : other.testBit g with
              | true =>
                obtain ⟨S', hS', sc'⟩ := scx P hP g (by rw [hs]; exact hb) (by rw [hs]; exact h0)
                exact all P g S' hP hS' sc' ((x2 S' hS').1 (ih S' hS' (sw g S' hS' sc')).1)
              | false => rw [← z5, Nat.testBit_and, hb, Bool.and_false]
            rw [full] at z3
            omega
        refine ⟨as, ?_⟩
        rcases x8 P hP hm1 as with q | ⟨e, S, hS, sc, h3, h4⟩
        · exact absurd q hg
        · have := (ih S hS (sw e S hS sc)).2
          omega
