/-! the game is played -/
theorem GI_0 {f : Nat → Nat → Nat} {gl : Nat → Bool} {one other : Nat} {L : List Nat} (o2 : other < 64) : GI f gl one other L (T0 gl L) (O0 gl L (chI other)) (Q0 gl L (2 * L.length)) (fun _ => 0) 0 := by
  obtain ⟨q1, q2, q3⟩ := Q0_m (gl := gl) (L := L) (2 * L.length)
  have tz : ∀ P, P ∈ Q0 gl L (2 * L.length) → T0 gl L P = 0 := fun P hP => if_pos ((q3 P).1 hP).2
  refine ⟨fun P hP => ?_, fun P hP => ?_, q2, fun P hP => ((q3 P).1 hP).1, fun P hP hT => ?_, fun P hP hg => if_pos hg, fun P e S _ _ hb => ?_, fun P hP hm hT => ?_, fun a b hab hb => ?_, fun a ha => ?_, fun _ => (by decide : (0 : Nat) < 64)⟩
  · unfold T0
    by_cases h : gl (L.getD (P / 2) 0) = true
    · rw [if_pos h]; exact Or.inr ⟨0, rfl, by omega, h⟩
    · rw [if_neg h]; exact Or.inl rfl
  · rw [q3]
    unfold T0
    by_cases h : gl (L.getD (P / 2) 0) = true
    · rw [if_pos h]; exact ⟨fun _ => ⟨hP, h⟩, fun _ => by decide⟩
    · rw [if_neg h]; exact ⟨fun c => absurd rfl c, fun c => absurd c.2 h⟩
  · have ng : ¬ gl (L.getD (P / 2) 0) = true := fun c => by unfold T0 at hT; rw [if_pos c] at hT; exact absurd hT (by decide)
    unfold O0
    rw [if_neg ng]
    refine ⟨fun q => ⟨?_, rfl⟩, fun hm h0 => ?_⟩
    · by_cases hm : P % 2 = 0
      · rw [if_pos hm]
      · rw [if_neg hm, (q.resolve_left hm)]; decide
    · rw [if_neg (by omega)]
      have b1 := bt3 other o2 h0
      unfold chI
      refine ⟨?_, ?_, Nat.zero_and _⟩
      · have b0 : bits 0 = 0 := by decide
        show _ = (bits other : Int) - (bits 0 : Int)
        rw [b0]
        split <;> omega
      · split <;> omega
  · have hb' : Nat.testBit 0 e = true := hb
    rw [Nat.zero_testBit] at hb'; exact absurd hb' (by decide)
  · refine Or.inl ?_
    unfold T0 at hT
    by_cases h : gl (L.getD (P / 2) 0) = true
    · exact h
    · rw [if_neg h] at hT; exact absurd rfl hT
  · rw [tz _ (getD_mem (by omega)), tz _ (getD_mem hb)]; exact Int.le_refl _
  · rw [tz _ (getD_mem ha)]; omega
/-- what a list has grown to -/
def Grw (T T' : Nat → Int) (Qu Qu' : List Nat) : Prop := Qu.length ≤ Qu'.length ∧ (∀ a, a < Qu.length → Qu'.getD a 0 = Qu.getD a 0) ∧ ∀ P, T P ≠ -1 → T' P = T P
theorem Grw.refl (T : Nat → Int) (Qu : List Nat) : Grw T T Qu Qu := ⟨Nat.le_refl _, fun _ _ => rfl, fun _ _ => rfl⟩
theorem Grw.trans {T T1 T2 : Nat → Int} {Qu Q1 Q2 : List Nat} (a : Grw T T1 Qu Q1) (b : Grw T1 T2 Q1 Q2) : Grw T T2 Qu Q2 := ⟨Nat.le_trans a.1 b.1, fun i hi => (b.2.1 i (Nat.lt_of_lt_of_le hi a.1)).trans (a.2.1 i hi), fun P hP => (b.2.2 P (by rw [a.2.2 P hP]; exact hP)).trans (a.2.2 P hP)⟩
theorem GI.len {f : Nat → Nat → Nat} {gl : Nat → Bool} {one other : Nat} {L : List Nat} {T O : Nat → Int} {Qu : List Nat} {Em : Nat → Nat} {lv : Nat} (x : GI f gl one other L T O Qu Em lv) : Qu.length ≤ 2 * L.length ∧ ∀ P, P < 2 * L.length → T P = -1 → Qu.length < 2 * L.length := by
  obtain ⟨x1, x2, x3, x4, _⟩ := x
  have a : Qu.length ≤ 2 * L.length := by
    have := List.Nodup.length_le_of_subset x3 (fun y hy => List.mem_range.2 (x4 y hy))
    rwa [List.length_range] at this
  refine ⟨a, fun P hP hT => ?_⟩
  have nq : ¬ P ∈ Qu := fun c => (x2 P hP).2 c hT
  have nd : (P :: Qu).Nodup := List.nodup_cons.2 ⟨nq, x3⟩
  have := List.Nodup.length_le_of_subset (l₂ := List.range (2 * L.length)) nd (fun y hy => by
    rcases List.mem_cons.1 hy with q | q
    · rw [q]; exact List.mem_range.2 hP
    · exact List.mem_range.2 (x4 y q))
  rw [List.length_range, List.length_cons] at this
  omega
theorem GI.ob {f : Nat → Nat → Nat} {gl : Nat → Bool} {one other : Nat} {L : List Nat} {T O : Nat → Int} {Qu : List Nat} {Em : Nat → Nat} {lv : Nat} (x : GI f gl one other L T O Qu Em lv) {P : Nat} (hP : P < 2 * L.length) (hT : T P = -1) : 1 ≤ O P ∧ O P ≤ 64 := by
  obtain ⟨a, b⟩ := x.2.2.2.2.1 P hP hT
  by_cases h : P % 2 = 0 ∨ other = 0
  · have := (a h).1; omega
  · have h1 : P % 2 = 1 := by omega
    have h2 : other ≠ 0 := fun c => h (Or.inr c)
    obtain ⟨c1, c2, _⟩ := b h1 h2
    have := bits_le other
    omega
def scX (f : Nat → Nat → Nat) (one other : Nat) (L : List Nat) : Prop := ∀ P, P < 2 * L.length → ∀ g, (sd one other (P % 2)).testBit g = true → sd one other (P % 2) ≠ 0 → ∃ S', S' < 2 * L.length ∧ ScR f one other L P g S'
theorem N_12 {l : Nat} (h : l ≤ 1600) : 2 * l ≤ 3200 := by omega
set_option maxHeartbeats 1000000 in
theorem S_deliver {d : Nat} {Q : Option PV → Hp → Prop} {h0 h : Hp} {A : Nat → Int} {f : Nat → Nat → Nat} {set : Nat} {gl : Nat → Bool} {L : List Nat} {ga se one other : Nat} (x : GW h0 h A f set L ga se) (o1 : one < 64) (o2 : other < 64) (scx : scX f one other L) {T O : Nat → Int} {Qu : List Nat} {Em : Nat → Nat} {lv P e S : Nat} (gr : GR h ga T O Qu (2 * L.length)) (gi : GI f gl one other L T O Qu Em lv) (hP : P < 2 * L.length) (hS : S < 2 * L.length) (sc : ScR f one other L P e S) (ts : T S = (lv : Int)) (ne : (Em P).testBit e = false) (lq : lv + 1 ≤ Qu.length)
    (k : ∀ h' T' O' Qu', Fp (gqP ga) h h' → GR h' ga T' O' Qu' (2 * L.length) → GI f gl one other L T' O' Qu' (upN Em P (Em P ||| 2 ^ e)) lv → Grw T T' Qu Qu' → Q none h') :
    WP d mX1_reachedFrom 0 [some (.inr (.inr ga)), some (.inl (P : Int)), some (.inl ((lv : Int) + 1))] [] h Q := by
  have ok := x.2.2.1.2.2.2.1
  have lk := x.2.2.1.le
  have ll := lk
  have len := gi.len
  have N12 : 2 * L.length ≤ 3200 := N_12 ll
  refine S_reachedFrom x gr hP N12 (fun hT => gi.ob hP hT) (fun hT => Nat.lt_of_lt_of_le (len.2 P hP hT) N12) (fun hT => ?_) (fun hT hO h' f' g' => ?_) (fun hT hO h' f' g' => ?_)
  · exact k h T O Qu (Fp.refl _ h) gr (gi.old ok o1 o2 hP hS sc ts hT) (Grw.refl T Qu)
  · exact k h' T _ Qu f' g' (gi.more ok o1 o2 hP hS sc ts hT ne hO) (Grw.refl T Qu)
  · refine k h' _ _ _ f' g' (gi.new ok o1 o2 hP hS sc (scx P hP) ts hT ne hO lq) ⟨by rw [List.length_append]; exact Nat.le_add_right _ _, fun a ha => getD_app ha, fun R hR => upI_ne _ _ (fun c => by rw [c] at hR; exact hR hT)⟩
/-- which moves have been counted -/
def EI (f : Nat → Nat → Nat) (one other : Nat) (L : List Nat) (Em : Nat → Nat) (Pr : List Nat) (S : Nat) (pre : List Nat) : Prop := ∀ R e S', R < 2 * L.length → S' < 2 * L.length → ScR f one other L R e S' → ((Em R).testBit e = true ↔ S' ∈ Pr ∨ (S' = S ∧ 6 * (R / 2) + e ∈ pre))
theorem d6_n {p g : Nat} (hp : p < 1600) (hg : g < 6) : ((6 * p + g : Nat) : Int).tmod 6 = (g : Int) ∧ w32 (((6 * p + g : Nat) : Int).tdiv 6) = (p : Int) ∧ w32 (2 * (p : Int)) = ((2 * p : Nat) : Int) := by
  refine ⟨?_, ?_, ?_⟩
  · rw [tmod_n (by omega)]; omega
  · rw [tdiv_n (by omega), w32_i (by omega) (by omega)]; omega
  · rw [w32_i (by omega) (by omega)]; omega
theorem pm_n {p m : Nat} (hp : p < 1600) (hm : m < 2) : w32 (((2 * p : Nat) : Int) + (m : Int)) = ((2 * p + m : Nat) : Int) ∧ (2 * p + m) % 2 = m ∧ (2 * p + m) / 2 = p := ⟨w32_ll (by omega), by omega, by omega⟩
theorem dne {d : Nat} : ¬ ((d : Int) = -1) := by omega
theorem d6_u {R p g e' dd : Nat} (e1 : dd = 6 * p + g) (hg : g < 6) (h1 : e' < 6) (h2 : 6 * (R / 2) + e' = dd) : R / 2 = p ∧ e' = g := by omega
theorem pre_l {a b c : Nat} (h : a + (b + 1) = c) (hc : c ≤ 9600) : a < 9600 := by omega
theorem hP_n {p m l : Nat} (hp : p < l) (hm : m < 2) : 2 * p + m < 2 * l := by omega
theorem sm_n {S m : Nat} (h : m = 1 - S % 2) : S % 2 = 1 - m ∧ m < 2 := by omega
theorem sR_n {S R : Nat} (h : S = 2 * (R / 2) + (1 - R % 2)) : S % 2 = 1 - R % 2 := by omega
theorem Rm_n {S R m : Nat} (h : S % 2 = 1 - R % 2) (hm : m = 1 - S % 2) : R % 2 = m := by omega
theorem RP_n {R p m : Nat} (h1 : R / 2 = p) (h2 : R % 2 = m) : R = 2 * p + m := by omega
theorem ScR.par {f : Nat → Nat → Nat} {one other : Nat} {L : List Nat} {P e S : Nat} (h : ScR f one other L P e S) : S % 2 = 1 - P % 2 := by
  rcases h with ⟨_, _, c⟩ | ⟨_, _, c, _⟩
  · exact sR_n c
  · exact c
set_option maxHeartbeats 1000000 in
theorem S_reachedBy {d : Nat} {Q : Option PV → Hp → Prop} {h0 : Hp} {A : Nat → Int} {f : Nat → Nat → Nat} {gl : Nat → Bool} {L : List Nat} {ga se one other G S lv m : Nat} (hG : A 2 = (G : Int)) (o1 : one < 64) (o2 : other < 64) (scx : scX f one other L) (hS : S < 2 * L.length) (hm : m = 1 - S % 2) (hs0 : sd one other m ≠ 0) {Pr : List Nat} (nPr : ¬ S ∈ Pr) {l : List Nat} (lnd : l.Nodup) (lm : ∀ dd, dd ∈ l ↔ CHm f (one ||| other) G L L.length 0 (S / 2) dd) {T1 : Nat → Int} {Qu1 : List Nat} {h : Hp} {T O : Nat → Int} {Qu : List Nat} {Em : Nat → Nat} (x : GW h0 h A f (one ||| other) L ga se) (gr : GR h ga T O Qu (2 * L.length)) (gi : GI f gl one other L T O Qu Em lv) (ts : T S = (lv : Int)) (lq : lv + 1 ≤ Qu.length) (ei : EI f one other L Em Pr S []) (ch : ChL h ga (hI h (ga + 1) (S / 2)) l)
    (k : ∀ h' T' O' Qu' Em', Fp (gqP ga) h h' → GR h' ga T' O' Qu' (2 * L.length) → GI f gl one other L T' O' Qu' Em' lv → Grw T T' Qu Qu' → EI f one other L Em' Pr S l → Q none h') :
    WP (d + 1) mX1_reachedBy 0 [some (.inr (.inr ga)), some (.inl ((S / 2 : Nat) : Int)), some (.inl (sd one other m : Int)), some (.inl (m : Int)), some (.inl ((lv : Int) + 1)), none, none] [] h Q := by
  have ok := x.2.2.1.2.2.2.1
  have lk := x.2.2.1.le
  have ll := lk
  have G6 : G ≤ 6 := by have := x.2.2.1.2.2.2.2.2.2.2.1.2.2.2.1; omega
  have m2 : m < 2 := by omega
  have S2 : S / 2 < L.length := by omega
  have s64 : sd one other m < 64 := by unfold sd; split <;> assumption
  have lb : ∀ dd, dd ∈ l → ∃ p g, dd = 6 * p + g ∧ p < L.length ∧ p < 1600 ∧ g < 6 ∧ f g (L.getD p 0) = L.getD (S / 2) 0 := fun dd hd => by
    obtain ⟨p, g, e1, _, e3, e4, _, e6⟩ := (lm dd).1 hd
    exact ⟨p, g, e1, e3, by omega, by omega, e6⟩
  have llen : l.length ≤ 9600 := by
    have := List.Nodup.length_le_of_subset (l₂ := List.range 9600) lnd (fun y hy => by
      obtain ⟨p, g, e1, e2, e3, e4, _⟩ := lb y hy
      exact List.mem_range.2 (by omega))
    rwa [List.length_range] at this
  obtain ⟨K0, R0, R1, R2, R3, R4, R5, K1, K2, _⟩ := x.2.1.ks
  have c64 : ((S / 2 : Nat) : Int) < 1600 := Int.ofNat_lt.2 (Nat.lt_of_lt_of_le S2 ll)
  simp only [rX1_reachedBy_0, rX1_reachedBy_1, rX1_reachedBy_4, rX1_reachedBy_5, rX1_reachedBy_6, rX1_reachedBy_8, rX1_reachedBy_9, K0, R1, K1, c64, Int.toNat_natCast, Int.natCast_nonneg, true_and, and_true, and_self, if_true, if_false, or_true, true_or, or_false, false_or, ne_eq, not_true_eq_false, not_false_eq_true, Nat.reduceLeDiff, Nat.reduceEqDiff, Nat.reduceLT, Nat.reduceAdd, Nat.reduceMul, Nat.reduceSub, Int.reduceLT, Int.reduceLE, Int.reduceEq, Int.reduceToNat, Int.reduceAdd, Int.reduceSub, Int.reduceMul, Int.reduceNeg, Int.cast_ofNat_Int, false_and, and_false]
  have main : ∀ (l2 pre : List Nat) (e : Hp) (T' O' : Nat → Int) (Qu' : List Nat) (Em' : Nat → Nat) (v : Int), pre ++ l2 = l → ChL e ga v l2 → Fp (gqP ga) h e → GR e ga T' O' Qu' (2 * L.length) → GI f gl one other L T' O' Qu' Em' lv → Grw T T' Qu Qu' → EI f one other L Em' Pr S pre → WP (d + 1) mX1_reachedBy 11 [some (.inr (.inr ga)), some (.inl ((S / 2 : Nat) : Int)), some (.inl (sd one other m : Int)), some (.inl (m : Int)), some (.inl ((lv : Int) + 1)), some (.inl v), some (.inl (pre.length : Int))] [] e Q := by
    intro l2
    induction l2 with
    | nil =>
      intro pre e T' O' Qu' Em' v el cl fe ge gie gre eie
      rw [List.append_nil] at el
      have xe := x.fp fe (fun a k q => gq_ga q)
      obtain ⟨K0, R0, R1, R2, R3, R4, R5, K1, K2, _⟩ := xe.2.1.ks
      have ev : v = -1 := cl
      have fin := k e T' O' Qu' Em' fe ge gie gre (by rw [← el]; exact eie)
      rw [rX1_reachedBy_11]
      by_cases hc : (pre.length : Int) < 9600
      · simp only [rX1_reachedBy_13, rX1_reachedBy_14, rX1_reachedBy_17, rX1_reachedBy_18, rX1_reachedBy_21, rX1_reachedBy_23, rX1_reachedBy_24, rX1_reachedBy_69, K0, R2, K2, hc, ev, Int.toNat_natCast, Int.natCast_nonneg, true_and, and_true, and_self, if_true, if_false, or_true, true_or, or_false, false_or, ne_eq, not_true_eq_false, not_false_eq_true, Nat.reduceLeDiff, Nat.reduceEqDiff, Nat.reduceLT, Nat.reduceAdd, Nat.reduceMul, Nat.reduceSub, Int.reduceLT, Int.reduceLE, Int.reduceEq, Int.reduceToNat, Int.reduceAdd, Int.reduceSub, Int.reduceMul, Int.reduceNeg, Int.cast_ofNat_Int, false_and, and_false]
        exact fin
      · simp only [rX1_reachedBy_13, rX1_reachedBy_14, rX1_reachedBy_17, rX1_reachedBy_18, rX1_reachedBy_69, K0, R2, K2, hc, Int.toNat_natCast, Int.natCast_nonneg, true_and, and_true, and_self, if_true, if_false, or_true, true_or, or_false, false_or, ne_eq, not_true_eq_false, not_false_eq_true, Nat.reduceLeDiff, Nat.reduceEqDiff, Nat.reduceLT, Nat.reduceAdd, Nat.reduceMul, Nat.reduceSub, Int.reduceLT, Int.reduceLE, Int.reduceEq, Int.reduceToNat, Int.reduceAdd, Int.reduceSub, Int.reduceMul, Int.reduceNeg, Int.cast_ofNat_Int, false_and, and_false]
        exact fin
    | cons dd l2 ih =>
      intro pre e T' O' Qu' Em' v el cl fe ge gie gre eie
      obtain ⟨ev, d38, cl2⟩ := cl
      have dl : dd ∈ l := by rw [← el]; exact List.mem_append_right _ List.mem_cons_self
      have np : ¬ dd ∈ pre := fun c => by
        rw [← el, List.nodup_append] at lnd
        exact lnd.2.2 dd c dd List.mem_cons_self rfl
      obtain ⟨p, g, e1, pl, p6, g6, ef⟩ := lb dd dl
      have el2 : (pre ++ [dd]) ++ l2 = l := by rw [List.append_assoc]; exact el
      have plen : (pre ++ [dd]).length = pre.length + 1 := by rw [List.length_append]; rfl
      have pll : pre.length < 9600 := by
        have := congrArg List.length el
        rw [List.length_append, List.length_cons] at this
        exact pre_l this llen
      have c38 : (pre.length : Int) < 9600 := Int.ofNat_lt.2 pll
      have c1 : w32 ((pre.length : Int) + 1) = ((pre.length + 1 : Nat) : Int) := w32_s (Nat.lt_trans pll (by decide))
      have d38' : (dd : Int) < 9600 := Int.ofNat_lt.2 d38
      have xe := x.fp fe (fun a k q => gq_ga q)
      obtain ⟨K0, R0, R1, R2, R3, R4, R5, K1, K2, _⟩ := xe.2.1.ks
      obtain ⟨a1, a2, a3⟩ := d6_n p6 g6
      obtain ⟨b1, b2, b3⟩ := pm_n p6 m2
      rw [← e1] at a1 a2
      have g31 : g < 31 := Nat.lt_trans g6 (by decide)
      rw [rX1_reachedBy_11]
      simp only [rX1_reachedBy_13, rX1_reachedBy_14, rX1_reachedBy_17, rX1_reachedBy_18, rX1_reachedBy_21, rX1_reachedBy_23, rX1_reachedBy_24, rX1_reachedBy_27, rX1_reachedBy_28, rX1_reachedBy_30, rX1_reachedBy_32, rX1_reachedBy_33, rX1_reachedBy_36, K0, R2, K2, c38, ev, dne, a1, S_has (b := sd one other m) (i := g) (v_31 s64) g31, psh_some, Int.toNat_natCast, Int.natCast_nonneg, true_and, and_true, and_self, if_true, if_false, or_true, true_or, or_false, false_or, ne_eq, not_true_eq_false, not_false_eq_true, Nat.reduceLeDiff, Nat.reduceEqDiff, Nat.reduceLT, Nat.reduceAdd, Nat.reduceMul, Nat.reduceSub, Int.reduceLT, Int.reduceLE, Int.reduceEq, Int.reduceToNat, Int.reduceAdd, Int.reduceSub, Int.reduceMul, Int.reduceNeg, Int.cast_ofNat_Int, false_and, and_false]
      have d6 : ∀ R e', e' < 6 → 6 * (R / 2) + e' = dd → R / 2 = p ∧ e' = g := fun R e' h1 h2 => d6_u e1 g6 h1 h2
      by_cases hb : (sd one other m).testBit g = true
      · simp only [if_pos hb]
        rw [if_neg (by decide)]
        have hP : 2 * p + m < 2 * L.length := hP_n pl m2
        have sc : ScR f one other L (2 * p + m) g S := Or.inr ⟨by rw [b2]; exact hs0, by rw [b2]; exact hb, by rw [b2]; exact (sm_n hm).1, by rw [b3]; exact ef.symm⟩
        have ne : (Em' (2 * p + m)).testBit g = false := by
          refine Bool.eq_false_iff.2 (fun c => ?_)
          rcases (eie _ _ _ hP hS sc).1 c with q | ⟨_, q⟩
          · exact nPr q
          · rw [b3, ← e1] at q; exact np q
        have ts' : T' S = (lv : Int) := by rw [gre.2.2 S (by rw [ts]; exact dne)]; exact ts
        simp only [rX1_reachedBy_39, rX1_reachedBy_40, rX1_reachedBy_41, rX1_reachedBy_43, rX1_reachedBy_45, rX1_reachedBy_46, rX1_reachedBy_47, rX1_reachedBy_48, rX1_reachedBy_49, rX1_reachedBy_51, K0, a2, a3, b1, Int.toNat_natCast, Int.natCast_nonneg, true_and, and_true, and_self, if_true, if_false, or_true, true_or, or_false, false_or, ne_eq, not_true_eq_false, not_false_eq_true, Nat.reduceLeDiff, Nat.reduceEqDiff, Nat.reduceLT, Nat.reduceAdd, Nat.reduceMul, Nat.reduceSub, Int.reduceLT, Int.reduceLE, Int.reduceEq, Int.reduceToNat, Int.reduceAdd, Int.reduceSub, Int.reduceMul, Int.reduceNeg, Int.cast_ofNat_Int, false_and, and_false]
        refine S_deliver xe o1 o2 scx ge gie hP hS sc ts' ne (Nat.le_trans lq gre.1) ?_
        intro e2 T2 O2 Qu2 f2 gr2 gi2 g2
        have fe2 := fe.trans f2
        have xe2 := x.fp fe2 (fun a k q => gq_ga q)
        obtain ⟨K0, R0, R1, R2, R3, R4, R5, K1, K2, _⟩ := xe2.2.1.ks
        simp only [psh_none, rX1_reachedBy_54, rX1_reachedBy_55, rX1_reachedBy_58, rX1_reachedBy_60, rX1_reachedBy_61, rX1_reachedBy_63, rX1_reachedBy_66, K0, R2, K2, d38', c1, Int.toNat_natCast, Int.natCast_nonneg, true_and, and_true, and_self, if_true, if_false, or_true, true_or, or_false, false_or, ne_eq, not_true_eq_false, not_false_eq_true, Nat.reduceLeDiff, Nat.reduceEqDiff, Nat.reduceLT, Nat.reduceAdd, Nat.reduceMul, Nat.reduceSub, Int.reduceLT, Int.reduceLE, Int.reduceEq, Int.reduceToNat, Int.reduceAdd, Int.reduceSub, Int.reduceMul, Int.reduceNeg, Int.cast_ofNat_Int, false_and, and_false]
        have go := ih (pre ++ [dd]) e2 T2 O2 Qu2 _ _ el2 (ChL.cg l2 _ (fun c _ => f2.I (gq_no (Or.inr (Or.inl rfl)))) cl2) fe2 gr2 gi2 (gre.trans g2) ?_
        · rw [plen] at go
          rw [f2.I (gq_no (Or.inr (Or.inl rfl)))]
          exact go
        · intro R e' S' hR hS' sc'
          have e'6 := sc'.e6 o1 o2
          rw [List.mem_append, List.mem_singleton]
          by_cases hRP : R = 2 * p + m
          · rw [hRP, upN_eq, or_bit, Bool.or_eq_true, decide_eq_true_eq]
            rw [hRP] at sc' hR
            rw [eie _ _ _ hR hS' sc']
            constructor
            · rintro ((q | q) | q)
              · exact Or.inl q
              · exact Or.inr ⟨q.1, Or.inl q.2⟩
              · rw [q] at sc' ⊢
                exact Or.inr ⟨sc'.uniq ok sc hS' hS, Or.inr (by rw [b3]; exact e1.symm)⟩
            · rintro (q | ⟨q1, q2 | q2⟩)
              · exact Or.inl (Or.inl q)
              · exact Or.inl (Or.inr ⟨q1, q2⟩)
              · exact Or.inr (d6 _ _ e'6 q2).2
          · rw [upN_ne _ _ hRP, eie _ _ _ hR hS' sc']
            constructor
            · rintro (q | q)
              · exact Or.inl q
              · exact Or.inr ⟨q.1, Or.inl q.2⟩
            · rintro (q | ⟨q1, q2 | q2⟩)
              · exact Or.inl q
              · exact Or.inr ⟨q1, q2⟩
              · exfalso
                have h1 := (d6 _ _ e'6 q2).1
                rw [q1] at sc'
                exact hRP (RP_n h1 (Rm_n sc'.par hm))
      · simp only [if_neg hb]
        rw [if_pos (by trivial)]
        simp only [rX1_reachedBy_54, rX1_reachedBy_55, rX1_reachedBy_58, rX1_reachedBy_60, rX1_reachedBy_61, rX1_reachedBy_63, rX1_reachedBy_66, K0, R2, K2, d38', c1, Int.toNat_natCast, Int.natCast_nonneg, true_and, and_true, and_self, if_true, if_false, or_true, true_or, or_false, false_or, ne_eq, not_true_eq_false, not_false_eq_true, Nat.reduceLeDiff, Nat.reduceEqDiff, Nat.reduceLT, Nat.reduceAdd, Nat.reduceMul, Nat.reduceSub, Int.reduceLT, Int.reduceLE, Int.reduceEq, Int.reduceToNat, Int.reduceAdd, Int.reduceSub, Int.reduceMul, Int.reduceNeg, Int.cast_ofNat_Int, false_and, and_false]
        have go := ih (pre ++ [dd]) e T' O' Qu' Em' _ el2 cl2 fe ge gie gre ?_
        · rw [plen] at go
          exact go
        · intro R e' S' hR hS' sc'
          have e'6 := sc'.e6 o1 o2
          rw [List.mem_append, List.mem_singleton, eie _ _ _ hR hS' sc']
          constructor
          · rintro (q | q)
            · exact Or.inl q
            · exact Or.inr ⟨q.1, Or.inl q.2⟩
          · rintro (q | ⟨q1, q2 | q2⟩)
            · exact Or.inl q
            · exact Or.inr ⟨q1, q2⟩
            · exfalso
              have h1 := (d6 _ _ e'6 q2).2
              rw [q1] at sc'
              have rm := Rm_n sc'.par hm
              rcases sc' with ⟨c1, _, c⟩ | ⟨_, c2, c, _⟩
              · rw [rm] at c1; exact hs0 c1
              · rw [rm, h1] at c2; exact hb c2
  exact main l [] h T O Qu Em _ rfl ch (Fp.refl _ h) gr gi (Grw.refl T Qu) ei
