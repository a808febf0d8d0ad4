/-! the game is played to its end -/
theorem take_s {Qu Qu' : List Nat} {i : Nat} (h : i < Qu.length) (g : Qu.length ≤ Qu'.length) (e : ∀ a, a < Qu.length → Qu'.getD a 0 = Qu.getD a 0) : ∀ S, S ∈ Qu'.take (i + 1) ↔ S ∈ Qu.take i ∨ S = Qu.getD i 0 := by
  have m : ∀ (l : List Nat) (j : Nat), j ≤ l.length → ∀ S, S ∈ l.take j ↔ ∃ a, a < j ∧ l.getD a 0 = S := by
    intro l j hj S
    rw [List.mem_take_iff_getElem]
    constructor
    · rintro ⟨a, ha, ea⟩
      refine ⟨a, by omega, ?_⟩
      rw [List.getD_eq_getElem?_getD, List.getElem?_eq_getElem (by omega)]; exact ea
    · rintro ⟨a, ha, ea⟩
      refine ⟨a, by omega, ?_⟩
      rw [List.getD_eq_getElem?_getD, List.getElem?_eq_getElem (by omega)] at ea; exact ea
  intro S
  rw [m _ _ (by omega), m _ _ (by omega)]
  constructor
  · rintro ⟨a, ha, ea⟩
    rw [e a (by omega)] at ea
    by_cases hai : a = i
    · rw [hai] at ea; exact Or.inr ea.symm
    · exact Or.inl ⟨a, by omega, ea⟩
  · rintro (⟨a, ha, ea⟩ | ea)
    · exact ⟨a, by omega, by rw [e a (by omega)]; exact ea⟩
    · exact ⟨i, by omega, by rw [e i h]; exact ea.symm⟩
theorem nd_take {Qu : List Nat} (nd : Qu.Nodup) {i : Nat} (h : i < Qu.length) : ¬ Qu.getD i 0 ∈ Qu.take i := by
  intro c
  rw [List.mem_take_iff_getElem] at c
  obtain ⟨a, ha, ea⟩ := c
  rw [List.getD_eq_getElem?_getD, List.getElem?_eq_getElem h] at ea
  have := (List.getElem_inj nd).1 ea
  omega
theorem scX_of {h : Hp} {se : Nat} {A : Nat → Int} {f : Nat → Nat → Nat} {one other : Nat} {L : List Nat} (x : PR h se A f (one ||| other) L) (h1 : one < 2 ^ (A 2).toNat) (h2 : other < 2 ^ (A 2).toNat) : scX f one other L := by
  intro P hP g hb hn
  have hs : (one ||| other).testBit g = true ∧ (g : Int) < A 2 := by
    unfold sd at hb
    split at hb
    · exact ⟨or_l hb, g_A h1 hb⟩
    · exact ⟨or_r hb, g_A h2 hb⟩
  obtain ⟨q, hq, eq, _⟩ := S_placeAfter x (p := P / 2) (by omega) hs.2 hs.1
  exact ⟨2 * q + (1 - P % 2), by omega, Or.inr ⟨hn, hb, by omega, by rw [show (2 * q + (1 - P % 2)) / 2 = q by omega]; exact eq⟩⟩
theorem pl_n {S l : Nat} (h : S < 2 * l) (hl : l ≤ 1600) : (S : Int) < 3200 ∧ S < 2147483648 ∧ w32 (1 - ((S % 2 : Nat) : Int)) = ((1 - S % 2 : Nat) : Int) ∧ w32 (2 * ((S / 2 : Nat) : Int)) = ((2 * (S / 2) : Nat) : Int) ∧ w32 (((2 * (S / 2) : Nat) : Int) + ((1 - S % 2 : Nat) : Int)) = ((2 * (S / 2) + (1 - S % 2) : Nat) : Int) ∧ 2 * (S / 2) + (1 - S % 2) < 2 * l ∧ (2 * (S / 2) + (1 - S % 2)) % 2 = 1 - S % 2 ∧ (2 * (S / 2) + (1 - S % 2)) / 2 = S / 2 ∧ S = 2 * (S / 2) + (1 - (1 - S % 2)) ∧ S / 2 < l := by
  refine ⟨by omega, by omega, by rw [w32_i (by omega) (by omega)]; omega, by rw [w32_i (by omega) (by omega)]; omega, w32_ll (by omega), by omega, by omega, by omega, by omega, by omega⟩
theorem lvb {T : Int} {i : Nat} {n : Nat} (h : T = (n : Int)) (h2 : T ≤ (i : Int)) : n ≤ i := by omega
theorem w_lv {n : Nat} (h : n ≤ 3200) : w32 ((n : Int) + 1) = (n : Int) + 1 := w32_i (by omega) (by omega)
theorem m1_z {S : Nat} : (((1 - S % 2 : Nat) : Int) = 0) = (1 - S % 2 = 0) := propext ⟨fun h => by omega, fun h => by omega⟩
theorem i_12 {i q N m : Nat} (h : i < q) (hq : q ≤ N) (hN : N ≤ 3200) (hm : i + m = 3200) : (i : Int) < (q : Int) ∧ (i : Int) < 3200 ∧ w32 ((i : Int) + 1) = ((i + 1 : Nat) : Int) ∧ ∃ m', m = m' + 1 ∧ i + 1 + m' = 3200 := ⟨by omega, by omega, w32_s (by omega), m - 1, by omega, by omega⟩
theorem sdI {one other S : Nat} : (if 1 - S % 2 = 0 then (one : Int) else (other : Int)) = (sd one other (1 - S % 2) : Int) := by
  unfold sd
  split <;> rfl
theorem sdz {one other m : Nat} : ((sd one other m : Int) = 0) = (sd one other m = 0) := propext ⟨fun h => by omega, fun h => by omega⟩
theorem Sh_n {S R : Nat} (c : S = 2 * (R / 2) + (1 - R % 2)) : R / 2 = S / 2 := by omega
theorem half_n (R : Nat) : (2 * (R / 2) + (1 - R % 2)) / 2 = R / 2 := by omega
theorem half_lt2 {R l : Nat} (h : R < 2 * l) : R / 2 < l := by omega
/-- what the game holds while it is played -/
def PG (h0 h : Hp) (A : Nat → Int) (f : Nat → Nat → Nat) (gl : Nat → Bool) (one other : Nat) (L : List Nat) (ga se i : Nat) (T O : Nat → Int) (Qu : List Nat) (Em : Nat → Nat) (lv : Nat) : Prop := GR h ga T O Qu (2 * L.length) ∧ GI f gl one other L T O Qu Em lv ∧ i ≤ Qu.length ∧ (∀ R e S', R < 2 * L.length → S' < 2 * L.length → ScR f one other L R e S' → ((Em R).testBit e = true ↔ S' ∈ Qu.take i)) ∧ ∀ a, i ≤ a → a < Qu.length → (lv : Int) ≤ T (Qu.getD a 0)
set_option maxHeartbeats 1000000 in
theorem pl_round {d : Nat} {Q : Option PV → Hp → Prop} {h0 h : Hp} {A : Nat → Int} {f : Nat → Nat → Nat} {gl : Nat → Bool} {L : List Nat} {ga se one other G i t : Nat} {x3 x4 x5 x6 : Option PV} (x : GW h0 h A f (one ||| other) L ga se) (hG : A 2 = (G : Int)) (o1 : one < 64) (o2 : other < 64) (gb : ∀ g, (one ||| other).testBit g = true → g < G) (scx : scX f one other L) (e7 : hI h ga 7 = (one : Int)) (e8 : hI h ga 8 = (other : Int)) (ch : CHs h ga f (one ||| other) G L L.length 0) {T O : Nat → Int} {Qu : List Nat} {Em : Nat → Nat} {lv : Nat} (pg : PG h0 h A f gl one other L ga se i T O Qu Em lv) (il : i < Qu.length) {m : Nat} (hm : i + m = 3200)
    (k : ∀ h' T' O' Qu' Em' lv' y3 y4 y5 y6, Fp (gqP ga) h h' → PG h0 h' A f gl one other L ga se (i + 1) T' O' Qu' Em' lv' → WP (d + 2) mX1_play 7 [some (.inr (.inr ga)), some (.inl (t : Int)), some (.inl ((i + 1 : Nat) : Int)), y3, y4, y5, y6] [] h' Q) :
    WP (d + 2) mX1_play 7 [some (.inr (.inr ga)), some (.inl (t : Int)), some (.inl (i : Int)), x3, x4, x5, x6] [] h Q := by
  obtain ⟨gr, gi, _, ei, lo⟩ := pg
  have ok := x.2.2.1.2.2.2.1
  have lk := x.2.2.1.le
  have ll := lk
  have ql := gi.len.1
  obtain ⟨c1, c2, c3, _⟩ := i_12 il ql (N_12 ll) hm
  obtain ⟨K0, R0, R1, R2, R3, R4, R5, K1, K2, K3, K4, K5⟩ := x.2.1.ks
  have hS := gi.2.2.2.1 _ (getD_mem il)
  have qi := gr.2.2 i il
  have q0 := gr.2.1
  have tS := (gr.1 _ hS).1
  have nPr := nd_take gi.2.2.1 il
  obtain ⟨s1, s2, s3, s4, s5, s6, s7, s8, s9, s10⟩ := pl_n hS ll
  have tn : ∃ n : Nat, T (Qu.getD i 0) = (n : Int) := by
    rcases gi.1 _ hS with q | ⟨n, q, _⟩
    · exact absurd q ((gi.2.1 _ hS).2 (getD_mem il))
    · exact ⟨n, q⟩
  obtain ⟨n, en⟩ := tn
  have ni := lvb en (gi.2.2.2.2.2.2.2.2.2.1 i il)
  have ni2 : n ≤ 3200 := Nat.le_trans ni (Nat.le_of_lt (Nat.lt_of_lt_of_le il (Nat.le_trans ql (N_12 ll))))
  have lvn : lv ≤ n := by
    have := lo i (Nat.le_refl _) il
    rw [en] at this
    exact Int.ofNat_le.1 this
  have gi' := gi.lv lvn
  have lq : n + 1 ≤ Qu.length := Nat.le_trans (Nat.succ_le_succ ni) il
  have key : ∀ h' T' O' Qu' Em' y3 y4 y5 y6, Fp (gqP ga) h h' → GR h' ga T' O' Qu' (2 * L.length) → GI f gl one other L T' O' Qu' Em' n → Grw T T' Qu Qu' → (∀ R e S', R < 2 * L.length → S' < 2 * L.length → ScR f one other L R e S' → ((Em' R).testBit e = true ↔ S' ∈ Qu.take i ∨ S' = Qu.getD i 0)) → WP (d + 2) mX1_play 7 [some (.inr (.inr ga)), some (.inl (t : Int)), some (.inl ((i + 1 : Nat) : Int)), y3, y4, y5, y6] [] h' Q := by
    intro h' T' O' Qu' Em' y3 y4 y5 y6 f' gr2 gi2 g2 ei2
    refine k h' T' O' Qu' Em' n y3 y4 y5 y6 f' ⟨gr2, gi2, Nat.le_trans il g2.1, fun R e S' hR hS' sc => ?_, fun a ha hal => ?_⟩
    · rw [ei2 R e S' hR hS' sc, take_s il g2.1 g2.2.1]
    · have := gi2.2.2.2.2.2.2.2.2.1 i a (Nat.le_of_succ_le ha) hal
      rw [g2.2.1 i il, g2.2.2 _ (by rw [en]; exact dne), en] at this
      exact this
  clear k lo
  generalize Qu.getD i 0 = S at hS qi tS nPr s1 s2 s3 s4 s5 s6 s7 s8 s9 s10 en key
  rw [en] at tS
  rw [rX1_play_7]
  simp only [rX1_play_8, rX1_play_9, rX1_play_12, rX1_play_15, rX1_play_16, rX1_play_19, rX1_play_22, rX1_play_23, rX1_play_26, rX1_play_27, rX1_play_28, rX1_play_29, rX1_play_30, rX1_play_31, rX1_play_32, rX1_play_33, rX1_play_36, rX1_play_37, rX1_play_38, rX1_play_39, rX1_play_40, rX1_play_41, rX1_play_43, rX1_play_45, K0, R5, K5, q0, qi, c1, c2, shr1 s2, and_1 s2, s3, m1_z, Int.toNat_natCast, Int.natCast_nonneg, true_and, and_true, and_self, if_true, if_false, or_true, true_or, or_false, false_or, ne_eq, not_true_eq_false, not_false_eq_true, Nat.reduceLeDiff, Nat.reduceEqDiff, Nat.reduceLT, Nat.reduceAdd, Nat.reduceMul, Nat.reduceSub, Int.reduceLT, Int.reduceLE, Int.reduceEq, Int.reduceToNat, Int.reduceAdd, Int.reduceSub, Int.reduceMul, Int.reduceNeg, Int.cast_ofNat_Int, false_and, and_false]
  have cont : WP (d + 2) mX1_play 59 [some (.inr (.inr ga)), some (.inl (t : Int)), some (.inl (i : Int)), some (.inl ((S / 2 : Nat) : Int)), some (.inl ((1 - S % 2 : Nat) : Int)), x5, x6] [.inl (sd one other (1 - S % 2) : Int)] h Q := by
    simp only [rX1_play_59, rX1_play_61, rX1_play_62, rX1_play_65, rX1_play_66, rX1_play_69, rX1_play_70, rX1_play_71, rX1_play_72, rX1_play_73, rX1_play_74, rX1_play_76, rX1_play_78, K0, R3, R5, K3, K5, c2, qi, s1, tS, w_lv ni2, sdz, Int.toNat_natCast, Int.natCast_nonneg, true_and, and_true, and_self, if_true, if_false, or_true, true_or, or_false, false_or, ne_eq, not_true_eq_false, not_false_eq_true, Nat.reduceLeDiff, Nat.reduceEqDiff, Nat.reduceLT, Nat.reduceAdd, Nat.reduceMul, Nat.reduceSub, Int.reduceLT, Int.reduceLE, Int.reduceEq, Int.reduceToNat, Int.reduceAdd, Int.reduceSub, Int.reduceMul, Int.reduceNeg, Int.cast_ofNat_Int, false_and, and_false]
    by_cases h0 : sd one other (1 - S % 2) = 0
    · rw [if_pos h0]
      have sc : ScR f one other L (2 * (S / 2) + (1 - S % 2)) 0 S := Or.inl ⟨by rw [s7]; exact h0, rfl, by rw [s7, s8]; exact s9⟩
      have ne : (Em (2 * (S / 2) + (1 - S % 2))).testBit 0 = false := Bool.eq_false_iff.2 (fun c => nPr ((ei _ _ _ s6 hS sc).1 c))
      simp only [rX1_play_81, rX1_play_82, rX1_play_83, rX1_play_84, rX1_play_85, rX1_play_87, rX1_play_88, rX1_play_90, K0, s4, s5, Int.toNat_natCast, Int.natCast_nonneg, true_and, and_true, and_self, if_true, if_false, or_true, true_or, or_false, false_or, ne_eq, not_true_eq_false, not_false_eq_true, Nat.reduceLeDiff, Nat.reduceEqDiff, Nat.reduceLT, Nat.reduceAdd, Nat.reduceMul, Nat.reduceSub, Int.reduceLT, Int.reduceLE, Int.reduceEq, Int.reduceToNat, Int.reduceAdd, Int.reduceSub, Int.reduceMul, Int.reduceNeg, Int.cast_ofNat_Int, false_and, and_false]
      refine S_deliver x o1 o2 scx gr gi' s6 hS sc en ne lq ?_
      intro h' T' O' Qu' f' gr2 gi2 g2
      simp only [psh_none, rX1_play_93, rX1_play_107, rX1_play_110, c3]
      refine key h' T' O' Qu' _ _ _ _ _ f' gr2 gi2 g2 (fun R e S' hR hS' sc' => ?_)
      by_cases hRP : R = 2 * (S / 2) + (1 - S % 2)
      · rw [hRP, upN_eq, or_bit, Bool.or_eq_true, decide_eq_true_eq]
        rw [hRP] at sc' hR
        have e0 : e = 0 := by
          rcases sc' with ⟨_, b, _⟩ | ⟨a, _⟩
          · exact b
          · rw [s7] at a; exact absurd h0 a
        rw [e0] at sc' ⊢
        exact ⟨fun _ => Or.inr (sc'.uniq ok sc hS' hS), fun _ => Or.inr rfl⟩
      · rw [upN_ne _ _ hRP, ei R e S' hR hS' sc']
        refine ⟨Or.inl, fun q => q.elim id (fun q => ?_)⟩
        exfalso
        rw [q] at sc'
        have rm := Rm_n sc'.par rfl
        rcases sc' with ⟨_, _, c⟩ | ⟨a, _⟩
        · exact hRP (RP_n (Sh_n c) rm)
        · rw [rm] at a; exact a h0
    · rw [if_neg h0]
      obtain ⟨l, l1, l2, l3⟩ := ch (S / 2) s10
      simp only [rX1_play_96, rX1_play_97, rX1_play_98, rX1_play_100, rX1_play_102, rX1_play_104, K0, Int.toNat_natCast, Int.natCast_nonneg, true_and, and_true, and_self, if_true, if_false, or_true, true_or, or_false, false_or, ne_eq, not_true_eq_false, not_false_eq_true, Nat.reduceLeDiff, Nat.reduceEqDiff, Nat.reduceLT, Nat.reduceAdd, Nat.reduceMul, Nat.reduceSub, Int.reduceLT, Int.reduceLE, Int.reduceEq, Int.reduceToNat, Int.reduceAdd, Int.reduceSub, Int.reduceMul, Int.reduceNeg, Int.cast_ofNat_Int, false_and, and_false]
      refine S_reachedBy (m := 1 - S % 2) (T1 := T) (Qu1 := Qu) hG o1 o2 scx hS rfl h0 nPr l2 l3 x gr gi' en lq (fun R e S' hR hS' sc' => ?_) l1 ?_
      · rw [ei R e S' hR hS' sc']
        exact ⟨Or.inl, fun q => q.elim id (fun q => absurd q.2 List.not_mem_nil)⟩
      · intro h' T' O' Qu' Em' f' gr2 gi2 g2 ei2
        simp only [psh_none, rX1_play_107, rX1_play_110, c3]
        refine key h' T' O' Qu' Em' _ _ _ _ f' gr2 gi2 g2 (fun R e S' hR hS' sc' => ?_)
        rw [ei2 R e S' hR hS' sc']
        refine ⟨fun q => q.elim Or.inl (fun q => Or.inr q.1), fun q => q.elim Or.inl (fun q => Or.inr ⟨q, ?_⟩)⟩
        rw [l3]
        rw [q] at sc'
        have rm := Rm_n sc'.par rfl
        have e6 := sc'.e6 o1 o2
        rcases sc' with ⟨c1, _⟩ | ⟨_, c2, _, c4⟩
        · rw [rm] at c1; exact absurd c1 h0
        · rw [rm] at c2
          have R2 := half_lt2 hR
          have hs : (one ||| other).testBit e = true := by
            unfold sd at c2
            split at c2
            · exact or_l c2
            · exact or_r c2
          exact ⟨R / 2, e, rfl, Or.inl R2, R2, gb e hs, hs, c4.symm⟩
  rw [← sdI] at cont
  by_cases hz : 1 - S % 2 = 0
  · rw [if_pos hz] at cont ⊢
    simp only [rX1_play_48, rX1_play_49, rX1_play_52, K0, e7, Int.toNat_natCast, Int.natCast_nonneg, true_and, and_true, and_self, if_true, if_false, or_true, true_or, or_false, false_or, ne_eq, not_true_eq_false, not_false_eq_true, Nat.reduceLeDiff, Nat.reduceEqDiff, Nat.reduceLT, Nat.reduceAdd, Nat.reduceMul, Nat.reduceSub, Int.reduceLT, Int.reduceLE, Int.reduceEq, Int.reduceToNat, Int.reduceAdd, Int.reduceSub, Int.reduceMul, Int.reduceNeg, Int.cast_ofNat_Int, false_and, and_false]
    exact cont
  · rw [if_neg hz] at cont ⊢
    simp only [rX1_play_55, rX1_play_56, K0, e8, Int.toNat_natCast, Int.natCast_nonneg, true_and, and_true, and_self, if_true, if_false, or_true, true_or, or_false, false_or, ne_eq, not_true_eq_false, not_false_eq_true, Nat.reduceLeDiff, Nat.reduceEqDiff, Nat.reduceLT, Nat.reduceAdd, Nat.reduceMul, Nat.reduceSub, Int.reduceLT, Int.reduceLE, Int.reduceEq, Int.reduceToNat, Int.reduceAdd, Int.reduceSub, Int.reduceMul, Int.reduceNeg, Int.cast_ofNat_Int, false_and, and_false]
    exact cont
theorem nfar {n a q l : Nat} (h : (n : Int) ≤ (a : Int)) (ha : a < q) (hq : q ≤ 2 * l) (hl : l ≤ 1600) : n < 268435456 := by omega
theorem i_end {i q l : Nat} (h : i + 0 = 3200) (hc : i < q) (hq : q ≤ 2 * l) (hl : l ≤ 1600) : False := by omega
theorem i_nx {i m : Nat} (h : i + (m + 1) = 3200) : i + 1 + m = 3200 := by omega
set_option maxHeartbeats 1000000 in
theorem S_play {d : Nat} {Q : Option PV → Hp → Prop} {h0 h : Hp} {A : Nat → Int} {f : Nat → Nat → Nat} {L : List Nat} {ga se one other G t : Nat} (x : GW h0 h A f (one ||| other) L ga se) (hG : A 2 = (G : Int)) (h1 : one < 2 ^ (A 2).toNat) (h2 : other < 2 ^ (A 2).toNat) (e7 : hI h ga 7 = (one : Int)) (e8 : hI h ga 8 = (other : Int)) (ch : CHs h ga f (one ||| other) G L L.length 0) (t6 : t < 6)
    (k : ∀ h', Fp (gqP ga) h h' → (∀ P, P < 2 * L.length → hI h' (ga + 3) P = lwF (fun n => Wn f (glT t) one other n (P % 2) (L.getD (P / 2) 0))) → Q (some (.inl (hI h' (ga + 3) 0))) h') :
    WP (d + 3) mX1_play 0 [some (.inr (.inr ga)), some (.inl (t : Int)), none, none, none, none, none] [] h Q := by
  have po := x.2.2.1.2.2.2.2.2.2.2.1
  have o1 := set64 po h1
  have o2 := set64 po h2
  have ok := x.2.2.1.2.2.2.1
  have lk := x.2.2.1.le
  have ll := lk
  have scx := scX_of x.2.2.1 h1 h2
  have gb : ∀ g, (one ||| other).testBit g = true → g < G := fun g hb => by
    have := bit_G (or_set h1 h2) hb
    rw [hG, Int.toNat_natCast] at this
    exact this
  obtain ⟨K0, R0, _⟩ := x.2.1.ks
  simp only [rX1_play_0, rX1_play_1, rX1_play_2, K0, Int.toNat_natCast, Int.natCast_nonneg, true_and, and_true, and_self, if_true, if_false, or_true, true_or, or_false, false_or, ne_eq, not_true_eq_false, not_false_eq_true, Nat.reduceLeDiff, Nat.reduceEqDiff, Nat.reduceLT, Nat.reduceAdd, Nat.reduceMul, Nat.reduceSub, Int.reduceLT, Int.reduceLE, Int.reduceEq, Int.reduceToNat, Int.reduceAdd, Int.reduceSub, Int.reduceMul, Int.reduceNeg, Int.cast_ofNat_Int, false_and, and_false]
  refine S_setOut (d := d) x o2 e8 t6 ?_
  intro h1' f1 gr1
  simp only [psh_none, rX1_play_5, rX1_play_6]
  have fin : ∀ (e : Hp) (T O : Nat → Int) (Qu : List Nat) (Em : Nat → Nat) (lv : Nat) (i : Nat) (y3 y4 y5 y6 : Option PV), Fp (gqP ga) h e → PG h0 e A f (glT t) one other L ga se i T O Qu Em lv → ¬ i < Qu.length → WP (d + 3) mX1_play 7 [some (.inr (.inr ga)), some (.inl (t : Int)), some (.inl (i : Int)), y3, y4, y5, y6] [] e Q := by
    intro e T O Qu Em lv i y3 y4 y5 y6 fe pg hn
    obtain ⟨gr, gi, hi, ei, lo⟩ := pg
    have eq : i = Qu.length := Nat.le_antisymm hi (Nat.le_of_not_lt hn)
    have xe := x.fp fe (fun a k q => gq_ga q)
    obtain ⟨K0, R0, R1, R2, R3, R4, R5, K1, K2, K3, K4, K5⟩ := xe.2.1.ks
    have q0 := gr.2.1
    have nl : ¬ ((i : Int) < (Qu.length : Int)) := fun c => hn (Int.ofNat_lt.1 c)
    have all := gi.done o2 (fun P e' S hP hS sc hq => (ei P e' S hP hS sc).2 (by rw [eq, List.take_length]; exact hq)) scx
    have vals : ∀ P, P < 2 * L.length → hI e (ga + 3) P = lwF (fun n => Wn f (glT t) one other n (P % 2) (L.getD (P / 2) 0)) := fun P hP => by
      rw [(gr.1 P hP).1]
      symm
      apply LW.eq
      rcases gi.1 P hP with q | ⟨n, q, _, w⟩
      · exact Or.inl ⟨q, fun n _ w => (all n P hP w).1 q⟩
      · obtain ⟨a, ha, ea⟩ := mem_getD ((gi.2.1 P hP).1 (by rw [q]; exact dne))
        have ta := gi.2.2.2.2.2.2.2.2.2.1 a ha
        rw [ea, q] at ta
        have ql := gi.len.1
        refine Or.inr ⟨n, q, nfar ta ha ql ll, w, fun kk hk => ?_⟩
        have := (all kk P hP hk).2
        rw [q] at this
        exact Int.ofNat_le.1 this
    rw [rX1_play_7]
    simp only [rX1_play_8, rX1_play_9, rX1_play_12, rX1_play_113, rX1_play_114, rX1_play_117, rX1_play_118, rX1_play_119, K0, R3, K3, q0, nl, Int.toNat_natCast, Int.natCast_nonneg, true_and, and_true, and_self, if_true, if_false, or_true, true_or, or_false, false_or, ne_eq, not_true_eq_false, not_false_eq_true, Nat.reduceLeDiff, Nat.reduceEqDiff, Nat.reduceLT, Nat.reduceAdd, Nat.reduceMul, Nat.reduceSub, Int.reduceLT, Int.reduceLE, Int.reduceEq, Int.reduceToNat, Int.reduceAdd, Int.reduceSub, Int.reduceMul, Int.reduceNeg, Int.cast_ofNat_Int, false_and, and_false]
    exact k e fe vals
  have main : ∀ (m i : Nat) (e : Hp) (T O : Nat → Int) (Qu : List Nat) (Em : Nat → Nat) (lv : Nat) (y3 y4 y5 y6 : Option PV), i + m = 3200 → Fp (gqP ga) h e → PG h0 e A f (glT t) one other L ga se i T O Qu Em lv → WP (d + 3) mX1_play 7 [some (.inr (.inr ga)), some (.inl (t : Int)), some (.inl (i : Int)), y3, y4, y5, y6] [] e Q := by
    intro m
    induction m with
    | zero =>
      intro i e T O Qu Em lv y3 y4 y5 y6 hm fe pg
      refine fin e T O Qu Em lv i _ _ _ _ fe pg (fun c => ?_)
      have := pg.2.1.len.1
      exact i_end hm c this ll
    | succ m ih =>
      intro i e T O Qu Em lv y3 y4 y5 y6 hm fe pg
      by_cases hc : i < Qu.length
      · have xe := x.fp fe (fun a k q => gq_ga q)
        refine pl_round (d := d + 1) (G := G) xe hG o1 o2 gb scx (by rw [fe.I (gq_no (Or.inr (Or.inr ⟨rfl, by decide⟩)))]; exact e7) (by rw [fe.I (gq_no (Or.inr (Or.inr ⟨rfl, by decide⟩)))]; exact e8) (fun q hq => ?_) pg hc hm ?_
        · obtain ⟨l, l1, l2, l3⟩ := ch q hq
          exact ⟨l, by rw [fe.I (gq_no (Or.inl rfl))]; exact ChL.cg l _ (fun c _ => fe.I (gq_no (Or.inr (Or.inl rfl)))) l1, l2, l3⟩
        · intro h' T' O' Qu' Em' lv' z3 z4 z5 z6 f' pg'
          exact ih (i + 1) h' T' O' Qu' Em' lv' z3 z4 z5 z6 (i_nx hm) (fe.trans f') pg'
      · exact fin e T O Qu Em lv i _ _ _ _ fe pg hc
  exact main 3200 0 h1' _ _ _ (fun _ => 0) 0 _ _ _ _ (Nat.zero_add _) f1 ⟨gr1, GI_0 o2, Nat.zero_le _, fun R e S' _ _ _ => ⟨fun c => by
    have c' : Nat.testBit 0 e = true := c
    rw [Nat.zero_testBit] at c'; exact absurd c' (by decide), fun c => by rw [List.take_zero] at c; exact absurd c List.not_mem_nil⟩, fun a _ ha => by
    have tz : T0 (glT t) L ((Q0 (glT t) L (2 * L.length)).getD a 0) = 0 := if_pos (((Q0_m (gl := glT t) (L := L) (2 * L.length)).2.2 _).1 (getD_mem ha)).2
    rw [tz]; exact Int.le_refl _⟩
