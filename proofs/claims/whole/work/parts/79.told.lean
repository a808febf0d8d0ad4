/-! sets of numbers; numbersTold -/
def cntB (P : Nat → Bool) : Nat → Nat
  | 0 => 0
  | n + 1 => cntB P n + (if P n = true then 1 else 0)
theorem cntB_le (P : Nat → Bool) : ∀ n, cntB P n ≤ n := by
  intro n
  induction n with
  | zero => exact Nat.le_refl _
  | succ n ih => unfold cntB; split <;> omega
theorem cntB_E {P P' : Nat → Bool} : ∀ n, (∀ k, k < n → P k = P' k) → cntB P n = cntB P' n := by
  intro n
  induction n with
  | zero => intro _; rfl
  | succ n ih => intro e; unfold cntB; rw [ih (fun k hk => e k (by omega)), e n (by omega)]
theorem cntB_add (P : Nat → Bool) (a : Nat) : ∀ n, cntB P (a + n) = cntB P a + cntB (fun k => P (a + k)) n := by
  intro n
  induction n with
  | zero => rfl
  | succ n ih =>
    show cntB P (a + n) + (if P (a + n) = true then 1 else 0) = cntB P a + (cntB (fun k => P (a + k)) n + (if P (a + n) = true then 1 else 0))
    rw [ih, Nat.add_assoc]
theorem bsum_cnt {x : Nat} {P : Nat → Bool} : ∀ n, (∀ k, k < n → x.testBit k = P k) → bsum x n = cntB P n := by
  intro n
  induction n with
  | zero => intro _; rfl
  | succ n ih =>
    intro e
    unfold bsum cntB
    rw [ih (fun k hk => e k (by omega)), bit_mod, e n (by omega)]
def NsOk (h : Hp) (a : Nat) (P : Nat → Bool) : Prop := hK h a = (3, 0) ∧ ∃ lo hi : Nat, lo < 1125899906842624 ∧ hi < 1125899906842624 ∧ hJ h a 0 = (lo : Int) ∧ hJ h a 1 = (hi : Int) ∧ (∀ k, k < 50 → lo.testBit k = P k) ∧ ∀ k, k < 50 → hi.testBit k = P (50 + k)
theorem NsOk.of {h : Hp} {a : Nat} {P P' : Nat → Bool} (x : NsOk h a P) (e : ∀ k, k < 100 → P k = P' k) : NsOk h a P' := by
  obtain ⟨x1, lo, hi, y1, y2, y3, y4, y5, y6⟩ := x
  exact ⟨x1, lo, hi, y1, y2, y3, y4, fun k hk => by rw [y5 k hk, e k (by omega)], fun k hk => by rw [y6 k hk, e (50 + k) (by omega)]⟩
theorem NsOk.fr {Pq : Nat → Nat → Prop} {h h' : Hp} {a : Nat} {P : Nat → Bool} (f : Fp Pq h h') (hn : ∀ k, ¬ Pq a k) (x : NsOk h a P) : NsOk h' a P := by
  obtain ⟨x1, lo, hi, y1, y2, y3, y4, y5, y6⟩ := x
  exact ⟨by rw [f.K]; exact x1, lo, hi, y1, y2, by rw [f.J (hn _)]; exact y3, by rw [f.J (hn _)]; exact y4, y5, y6⟩
def addB (P : Nat → Bool) (n : Nat) : Nat → Bool := fun k => P k || decide (k = n)
theorem or_bit {x n : Nat} (k : Nat) : (x ||| 2 ^ n).testBit k = (x.testBit k || decide (k = n)) := by
  rw [Nat.testBit_or, Nat.testBit_two_pow]
  by_cases h : k = n
  · simp [h]
  · simp [h, Ne.symm h]
theorem pow50 {n : Nat} (h : n < 50) : 2 ^ n < 1125899906842624 := Nat.pow_lt_pow_right (a := 2) (by decide) h
theorem S_nsAdd {d : Nat} {Q : Option PV → Hp → Prop} {h : Hp} {a n : Nat} {P : Nat → Bool} (ha : 200 ≤ a) (x : NsOk h a P) (hn : n < 100)
    (k : ∀ h', Fp (fun b _ => b = a) h h' → NsOk h' a (addB P n) → Q none h') : WP d mX3_add 0 [some (.inr (.inr a)), some (.inl (n : Int))] [] h Q := by
  obtain ⟨x1, lo, hi, y1, y2, y3, y4, y5, y6⟩ := x
  simp only [rX3_add_0, rX3_add_1, rX3_add_3]
  by_cases h5 : (n : Int) < 50
  · rw [if_pos h5]
    have p := pow50 (n := n) (by omega)
    simp only [rX3_add_6, rX3_add_7, rX3_add_8, rX3_add_11, rX3_add_12, rX3_add_13, rX3_add_14, rX3_add_15, rX3_add_18, rX3_add_36, x1, y3, lshl1 n (by omega), lor_n (a := lo) (b := 2 ^ n) (by omega) (by omega), ha, Int.toNat_natCast, Int.natCast_nonneg, true_and, and_true, and_self, if_true, if_false, or_true, true_or, or_false, false_or, ne_eq, not_true_eq_false, not_false_eq_true, Nat.reduceLeDiff, Nat.reduceEqDiff, Nat.reduceLT, Nat.reduceAdd, Nat.reduceMul, Nat.reduceSub, Int.reduceLT, Int.reduceLE, Int.reduceEq, Int.reduceToNat, Int.reduceAdd, Int.reduceSub, Int.reduceMul, Int.reduceNeg, Int.cast_ofNat_Int, false_and, and_false]
    refine k _ ((Fp.refl (fun b _ => b = a) h).wJ rfl _) ⟨x1, lo ||| 2 ^ n, hi, Nat.or_lt_two_pow (n := 50) y1 p, y2, ?_, ?_, fun k hk => ?_, fun k hk => ?_⟩
    · rw [hJ_wJ, if_pos ⟨rfl, rfl⟩]
    · rw [hJ_wJ, if_neg (by omega)]; exact y4
    · rw [or_bit, y5 k hk]; rfl
    · rw [y6 k hk]; unfold addB; rw [decide_eq_false (by omega), Bool.or_false]
  · rw [if_neg h5]
    have p := pow50 (n := n - 50) (by omega)
    have e1 : w32 ((n : Int) - 50) = ((n - 50 : Nat) : Int) := by rw [w32_i (by omega) (by omega)]; omega
    simp only [rX3_add_21, rX3_add_22, rX3_add_23, rX3_add_26, rX3_add_27, rX3_add_28, rX3_add_30, rX3_add_31, rX3_add_32, rX3_add_33, rX3_add_36, x1, y4, e1, lshl1 (n - 50) (by omega), lor_n (a := hi) (b := 2 ^ (n - 50)) (by omega) (by omega), ha, Int.toNat_natCast, Int.natCast_nonneg, true_and, and_true, and_self, if_true, if_false, or_true, true_or, or_false, false_or, ne_eq, not_true_eq_false, not_false_eq_true, Nat.reduceLeDiff, Nat.reduceEqDiff, Nat.reduceLT, Nat.reduceAdd, Nat.reduceMul, Nat.reduceSub, Int.reduceLT, Int.reduceLE, Int.reduceEq, Int.reduceToNat, Int.reduceAdd, Int.reduceSub, Int.reduceMul, Int.reduceNeg, Int.cast_ofNat_Int, false_and, and_false]
    refine k _ ((Fp.refl (fun b _ => b = a) h).wJ rfl _) ⟨x1, lo, hi ||| 2 ^ (n - 50), y1, Nat.or_lt_two_pow (n := 50) y2 p, ?_, ?_, fun k hk => ?_, fun k hk => ?_⟩
    · rw [hJ_wJ, if_neg (by omega)]; exact y3
    · rw [hJ_wJ, if_pos ⟨rfl, rfl⟩]
    · rw [y5 k hk]; unfold addB; rw [decide_eq_false (by omega), Bool.or_false]
    · rw [or_bit, y6 k hk]
      unfold addB
      by_cases hk2 : k = n - 50
      · rw [decide_eq_true hk2, decide_eq_true (by omega)]
      · rw [decide_eq_false hk2, decide_eq_false (by omega)]
theorem S_nsSize {d : Nat} {Q : Option PV → Hp → Prop} {h : Hp} {a : Nat} {P : Nat → Bool} (x : NsOk h a P) (k : Q (some (.inl (cntB P 100 : Int))) h) : WP (d + 1) mX3_size 0 [some (.inr (.inr a))] [] h Q := by
  obtain ⟨x1, lo, hi, y1, y2, y3, y4, y5, y6⟩ := x
  have e1 := bsum_cnt 50 y5
  have e2 := bsum_cnt 50 y6
  have e3 := cntB_add P 50 50
  have b1 := bsum_le lo 50
  have b2 := bsum_le hi 50
  have e4 : w32 ((bsum lo 50 : Int) + (bsum hi 50 : Int)) = (cntB P 100 : Int) := by
    rw [w32_ll (by omega), e1, e2]
    exact congrArg _ e3.symm
  simp only [rX3_size_0, rX3_size_1, rX3_size_4, rX3_size_7, rX3_size_8, rX3_size_11, rX3_size_14, rX3_size_15, x1, y3, y4, S_bitCountL y1, S_bitCountL y2, psh_some, e4, Int.toNat_natCast, Int.natCast_nonneg, true_and, and_true, and_self, if_true, if_false, or_true, true_or, or_false, false_or, ne_eq, not_true_eq_false, not_false_eq_true, Nat.reduceLeDiff, Nat.reduceEqDiff, Nat.reduceLT, Nat.reduceAdd, Nat.reduceMul, Nat.reduceSub, Int.reduceLT, Int.reduceLE, Int.reduceEq, Int.reduceToNat, Int.reduceAdd, Int.reduceSub, Int.reduceMul, Int.reduceNeg, Int.cast_ofNat_Int, false_and, and_false]
  exact k
theorem NsOk.new (h : Hp) : NsOk (nw h 3 0 2) (200 + hN h) (fun _ => false) := by
  refine ⟨by rw [hK_nw, if_pos rfl], 0, 0, by omega, by omega, by rw [hJ_nw, if_pos rfl]; rfl, by rw [hJ_nw, if_pos rfl]; rfl, fun k _ => Nat.zero_testBit k, fun k _ => Nat.zero_testBit k⟩
theorem Fa.old {S : Nat → Prop} {h h1 h2 : Hp} {a : Nat} (f : Fa S h h1) (g : Fp (fun b _ => b = a) h1 h2) (ha : 200 + hN h ≤ a) : Fa S h h2 := by
  refine ⟨by rw [g.N]; exact f.1, fun q hq hs => ?_⟩
  have x := f.2 q hq hs
  refine ⟨by rw [g.K]; exact x.1, fun k => ⟨?_, ?_, ?_⟩⟩
  · rw [g.I (by omega)]; exact (x.2 k).1
  · rw [g.J (by omega)]; exact (x.2 k).2.1
  · rw [g.R]; exact (x.2 k).2.2
/-- cells were made, and nothing else was changed but what counts for nothing -/
theorem CRep.nw {h : Hp} {σ : AS} (x : CRep h σ) (c l s : Nat) : CRep (nw h c l s) σ := by
  have n := x.1.2.1
  have f := (Fa.refl (fun _ => False) h).nw c l s
  exact x.scf f (fun _ q => absurd q id) (x.1.1.of (fun a ha => f.K (by omega) id) (fun a k ha _ _ _ => f.R (by omega) id k))
theorem CRep.fresh {h h1 h2 : Hp} {σ : AS} {a : Nat} (x : CRep h σ) (m1 : CsOk h1) (f : Fa (fun _ => False) h h1) (g : Fp (fun b _ => b = a) h1 h2) (ha : 200 + hN h ≤ a) : CRep h2 σ := x.scf (f.old g ha) (fun _ q => absurd q id) (m1.fr g)
def tdB (L : List Nat) : Nat → Nat → Bool
  | 0, _ => false
  | n + 1, k => tdB L n k || decide (k = L.getD n 0 % 100)
noncomputable def ntV (σ : AS) (t : Int) : Int := if 0 ≤ t ∧ t < ((2 ^ (sA σ 2).toNat : Nat) : Int) then (cntB (tdB (Lst (sA σ) (stA (sA σ)) t.toNat) (Lst (sA σ) (stA (sA σ)) t.toNat).length) 100 : Int) else -3
set_option maxHeartbeats 1000000 in
theorem C_numbersTold {d : Nat} {σ : AS} {t : Int} (ht : i32 t) : CSpec (d + 7) mX11_numbersTold [some (.inr (.inr 200)), some (.inl t), none, none, none] σ (.inl (ntV σ t)) σ := by
  intro h Q x w k
  have m := x.1.1
  unfold ntV at k
  simp only [rX11_numbersTold_0, rX11_numbersTold_1, rX11_numbersTold_2, rX11_numbersTold_5, rX11_numbersTold_8, rX11_numbersTold_10, Cs_K200 m, Cs_R200_0 m, Cs_R200_1 m, Cs_R200_2 m, Cs_R200_3 m, Cs_R200_4 m, Cs_R200_5 m, Cs_R200_6 m, Cs_K201 m, Cs_R201_0 m, Cs_R201_1 m, Cs_K202 m, Cs_K203 m, Cs_K211 m, Cs_R211_0 m, Cs_R211_1 m, Cs_K212 m, Cs_K213 m, Cs_K214 m, Cs_R214_0 m, Cs_R214_1 m, Cs_K215 m, Cs_K216 m, Cs_K217 m, Cs_R217_0 m, Cs_R217_1 m, Cs_K218 m, Cs_K219 m, Cs_K220 m, Cs_R220_0 m, Cs_K221 m, Cs_K262 m, Cs_K271 m, Cs_R271_0 m, Cs_R271_1 m, Cs_K272 m, Cs_K276 m, Cs_R272_0 m, Cs_R276_0 m, Cs_K273 m, Cs_R273_0 m, Cs_R273_1 m, Cs_K274 m, Cs_K275 m, Cs_K277 m, Cs_R277_0 m, Cs_R277_1 m, Cs_K278 m, Cs_K279 m, Cs_R262_0 m, Cs_K263 m, Cs_R263_0 m, Cs_K264 m, Cs_R262_1 m, Cs_K265 m, Cs_R265_0 m, Cs_K266 m, Cs_R262_2 m, Cs_K267 m, Cs_R267_0 m, Cs_K268 m, Cs_R262_3 m, Cs_K269 m, Cs_R269_0 m, Cs_K270 m, Int.toNat_natCast, Int.natCast_nonneg, true_and, and_true, and_self, if_true, if_false, or_true, true_or, or_false, false_or, ne_eq, not_true_eq_false, not_false_eq_true, Nat.reduceLeDiff, Nat.reduceEqDiff, Nat.reduceLT, Nat.reduceAdd, Nat.reduceMul, Nat.reduceSub, Int.reduceLT, Int.reduceLE, Int.reduceEq, Int.reduceToNat, Int.reduceAdd, Int.reduceSub, Int.reduceMul, Int.reduceNeg, Int.cast_ofNat_Int, false_and, and_false, S_cSet (x.cp w) ht, psh_some]
  by_cases h1 : 0 ≤ t ∧ t < ((2 ^ (sA σ 2).toNat : Nat) : Int)
  · simp only [if_pos h1] at k
    rw [if_pos h1, if_neg (by decide)]
    obtain ⟨s, rfl, hs⟩ := set_nat h1
    simp only [rX11_numbersTold_11, rX11_numbersTold_12, rX11_numbersTold_13, Cs_K200 m, Cs_R200_0 m, Cs_R200_1 m, Cs_R200_2 m, Cs_R200_3 m, Cs_R200_4 m, Cs_R200_5 m, Cs_R200_6 m, Cs_K201 m, Cs_R201_0 m, Cs_R201_1 m, Cs_K202 m, Cs_K203 m, Cs_K211 m, Cs_R211_0 m, Cs_R211_1 m, Cs_K212 m, Cs_K213 m, Cs_K214 m, Cs_R214_0 m, Cs_R214_1 m, Cs_K215 m, Cs_K216 m, Cs_K217 m, Cs_R217_0 m, Cs_R217_1 m, Cs_K218 m, Cs_K219 m, Cs_K220 m, Cs_R220_0 m, Cs_K221 m, Cs_K262 m, Cs_K271 m, Cs_R271_0 m, Cs_R271_1 m, Cs_K272 m, Cs_K276 m, Cs_R272_0 m, Cs_R276_0 m, Cs_K273 m, Cs_R273_0 m, Cs_R273_1 m, Cs_K274 m, Cs_K275 m, Cs_K277 m, Cs_R277_0 m, Cs_R277_1 m, Cs_K278 m, Cs_K279 m, Cs_R262_0 m, Cs_K263 m, Cs_R263_0 m, Cs_K264 m, Cs_R262_1 m, Cs_K265 m, Cs_R265_0 m, Cs_K266 m, Cs_R262_2 m, Cs_K267 m, Cs_R267_0 m, Cs_K268 m, Cs_R262_3 m, Cs_K269 m, Cs_R269_0 m, Cs_K270 m, Int.toNat_natCast, Int.natCast_nonneg, true_and, and_true, and_self, if_true, if_false, or_true, true_or, or_false, false_or, ne_eq, not_true_eq_false, not_false_eq_true, Nat.reduceLeDiff, Nat.reduceEqDiff, Nat.reduceLT, Nat.reduceAdd, Nat.reduceMul, Nat.reduceSub, Int.reduceLT, Int.reduceLE, Int.reduceEq, Int.reduceToNat, Int.reduceAdd, Int.reduceSub, Int.reduceMul, Int.reduceNeg, Int.cast_ofNat_Int, false_and, and_false]
    refine S_explored x w hs ?_
    intro h' se x' c' pn ps sx srx
    have n' := x'.1.2.1
    have x2 := x'.nw 3 0 2
    have f2 := (Fa.refl (fun _ => False) h').nw 3 0 2
    have ns0 := NsOk.new h'
    have se2 := sx.2.1.2.2
    have ok := Lst_ok w.1 w.2.1 s
    have l16 := Lst_le w.1 w.2.1 s
    simp only [Int.toNat_natCast] at k
    have len := srx.len
    have ord := fun p hp => srx.ord (p := p) hp
    obtain ⟨K0, R4, K6⟩ := sx.2.2.1.o
    generalize Lst (sA σ) (stA (sA σ)) s = L at ok l16 len ord k
    have ll := ok.len
    have a2 : 200 ≤ 200 + hN h' := by omega
    have fin : ∀ g, Fp (fun b _ => b = 200 + hN h') (nw h' 3 0 2) g → Q (some (.inl (cntB (tdB L L.length) 100 : Int))) g := fun g fg => by
      have fa := f2.old fg (Nat.le_refl _)
      refine k g (x'.fresh x2.1.1 f2 fg (Nat.le_refl _)) (c'.trans0 (Cfr.fa fa n' (fun k _ => fa.R (by omega) id k) (fun a q => absurd q id) ?_ ?_) pn ps)
      · rw [fg.N, hN_nw]; omega
      · rw [fg.S, hS_nw]; omega
    simp only [psh_some, rX11_numbersTold_16, rX11_numbersTold_17, rX11_numbersTold_20, rX11_numbersTold_21, rX3_init_0, rX3_init_1, rX3_init_4, psh_none, a2, Int.toNat_natCast, Int.natCast_nonneg, true_and, and_true, and_self, if_true, if_false, or_true, true_or, or_false, false_or, ne_eq, not_true_eq_false, not_false_eq_true, Nat.reduceLeDiff, Nat.reduceEqDiff, Nat.reduceLT, Nat.reduceAdd, Nat.reduceMul, Nat.reduceSub, Int.reduceLT, Int.reduceLE, Int.reduceEq, Int.reduceToNat, Int.reduceAdd, Int.reduceSub, Int.reduceMul, Int.reduceNeg, Int.cast_ofNat_Int, false_and, and_false]
    simp only [rX11_numbersTold_24, rX11_numbersTold_25, rX11_numbersTold_26]
    refine wp_for (fun i g => WP (d + 6 + 1) mX11_numbersTold 28 [some (.inr (.inr 200)), some (.inl (s : Int)), some (.inr (.inr se)), some (.inr (.inr (200 + hN h'))), some (.inl (i : Int))] [] g Q) (fun i g => Fp (fun b _ => b = 200 + hN h') (nw h' 3 0 2) g ∧ NsOk g (200 + hN h') (tdB L i)) L.length ?_ ?_ 0 _ (by omega) ⟨Fp.refl _ _, ns0⟩
    · rintro i g hi ⟨fg, ns⟩ kk
      have c1 : (i : Int) < (L.length : Int) := by omega
      have c2 : (i : Int) < 1600 := by omega
      have l2 : w32 ((i : Int) + 1) = ((i + 1 : Nat) : Int) := w32_s (by omega)
      have oi := ord i hi
      have fa := f2.old fg (Nat.le_refl _)
      have K0' : hK g se = (7, 0) := by rw [fa.K (by omega) id]; exact K0
      have R4' : hR g se 4 = se + 6 := by rw [fa.R (by omega) id]; exact R4
      have K6' : hK g (se + 6) = (21, 1600) := by rw [fa.K (by omega) id]; exact K6
      have len' : hI g se 12 = (L.length : Int) := by rw [fa.I (by omega) id]; exact len
      have oi' : hI g (se + 6) i = (L.getD i 0 : Int) := by rw [fa.I (by omega) id]; exact oi
      rw [rX11_numbersTold_28]
      simp only [rX11_numbersTold_30, rX11_numbersTold_31, rX11_numbersTold_34, rX11_numbersTold_37, rX11_numbersTold_38, rX11_numbersTold_39, rX11_numbersTold_42, rX11_numbersTold_44, rX11_numbersTold_45, rX11_numbersTold_48, K0', R4', K6', len', c1, c2, oi', S_boardOf, psh_some, ns.1, Int.toNat_natCast, Int.natCast_nonneg, true_and, and_true, and_self, if_true, if_false, or_true, true_or, or_false, false_or, ne_eq, not_true_eq_false, not_false_eq_true, Nat.reduceLeDiff, Nat.reduceEqDiff, Nat.reduceLT, Nat.reduceAdd, Nat.reduceMul, Nat.reduceSub, Int.reduceLT, Int.reduceLE, Int.reduceEq, Int.reduceToNat, Int.reduceAdd, Int.reduceSub, Int.reduceMul, Int.reduceNeg, Int.cast_ofNat_Int, false_and, and_false]
      refine S_nsAdd a2 ns (Nat.mod_lt _ (by decide)) ?_
      intro g2 fg2 ns2
      simp only [psh_none, rX11_numbersTold_51, rX11_numbersTold_54, l2]
      exact kk g2 ⟨fg.trans fg2, ns2.of (fun k _ => rfl)⟩
    · rintro g ⟨fg, ns⟩
      have fa := f2.old fg (Nat.le_refl _)
      have K0' : hK g se = (7, 0) := by rw [fa.K (by omega) id]; exact K0
      have len' : hI g se 12 = (L.length : Int) := by rw [fa.I (by omega) id]; exact len
      rw [rX11_numbersTold_28]
      simp only [rX11_numbersTold_30, rX11_numbersTold_31, rX11_numbersTold_34, rX11_numbersTold_57, rX11_numbersTold_58, K0', len', Int.lt_irrefl, ns.1, Int.toNat_natCast, Int.natCast_nonneg, true_and, and_true, and_self, if_true, if_false, or_true, true_or, or_false, false_or, ne_eq, not_true_eq_false, not_false_eq_true, Nat.reduceLeDiff, Nat.reduceEqDiff, Nat.reduceLT, Nat.reduceAdd, Nat.reduceMul, Nat.reduceSub, Int.reduceLT, Int.reduceLE, Int.reduceEq, Int.reduceToNat, Int.reduceAdd, Int.reduceSub, Int.reduceMul, Int.reduceNeg, Int.cast_ofNat_Int, false_and, and_false]
      refine S_nsSize ns ?_
      simp only [psh_some, rX11_numbersTold_61]
      exact fin g fg
  · simp only [if_neg h1] at k
    rw [if_neg h1, if_pos (by trivial)]
    exact k h x (Cfr.refl h)
theorem tdB_T {L : List Nat} {k : Nat} : ∀ n, tdB L n k = true ↔ ∃ p, p < n ∧ k = L.getD p 0 % 100 := by
  intro n
  induction n with
  | zero => exact ⟨fun h => absurd h (by unfold tdB; decide), fun ⟨p, hp, _⟩ => by omega⟩
  | succ n ih =>
    unfold tdB
    rw [Bool.or_eq_true, ih, decide_eq_true_eq]
    constructor
    · rintro (⟨p, hp, e⟩ | e)
      · exact ⟨p, by omega, e⟩
      · exact ⟨n, by omega, e⟩
    · rintro ⟨p, hp, e⟩
      by_cases hn : p = n
      · exact Or.inr (by rw [← hn]; exact e)
      · exact Or.inl ⟨p, by omega, e⟩
def taB (L : List Nat) (b : Nat) : Nat → Bool
  | 0 => false
  | n + 1 => taB L b n || decide (100 * n + b ∈ L)
theorem taB_T {L : List Nat} {b : Nat} : ∀ n, taB L b n = true ↔ ∃ t, t < n ∧ 100 * t + b ∈ L := by
  intro n
  induction n with
  | zero => exact ⟨fun h => absurd h (by unfold taB; decide), fun ⟨p, hp, _⟩ => by omega⟩
  | succ n ih =>
    unfold taB
    rw [Bool.or_eq_true, ih, decide_eq_true_eq]
    constructor
    · rintro (⟨p, hp, e⟩ | e)
      · exact ⟨p, by omega, e⟩
      · exact ⟨n, by omega, e⟩
    · rintro ⟨p, hp, e⟩
      by_cases hn : p = n
      · exact Or.inr (by rw [← hn]; exact e)
      · exact Or.inl ⟨p, by omega, e⟩
theorem ta_td {L : List Nat} (ok : lsOk L) {b : Nat} (hb : b < 100) : taB L b 64 = tdB L L.length b := by
  rw [Bool.eq_iff_iff, taB_T, tdB_T]
  constructor
  · rintro ⟨t, ht, e⟩
    obtain ⟨p, hp, ep⟩ := mem_getD e
    exact ⟨p, hp, by rw [ep]; omega⟩
  · rintro ⟨p, hp, e⟩
    have := getD_lt ok hp
    refine ⟨L.getD p 0 / 100, by omega, ?_⟩
    rw [show 100 * (L.getD p 0 / 100) + b = L.getD p 0 by omega]
    exact getD_mem hp
theorem or01 (a b : Bool) : ior (if a = true then 1 else 0) (if b = true then 1 else 0) = if (a || b) = true then 1 else 0 := by
  cases a <;> cases b <;> decide
theorem R_numbersTold {d : Nat} {σ : AS} {t : Int} : RSpec (d + 4) mX12_numbersTold [some (.inr (.inr 294)), some (.inl t), none, none, none, none] σ (.inl (ntV σ t)) σ := by
  refine RSpec5.of (RSpec5.u ?_) (fun h Q hk => by simp only [rX12_numbersTold_0, rX12_numbersTold_1, rX12_numbersTold_2, hk, Int.toNat_natCast, Int.natCast_nonneg, true_and, and_true, and_self, if_true, if_false, or_true, true_or, or_false, false_or, ne_eq, not_true_eq_false, not_false_eq_true, Nat.reduceLeDiff, Nat.reduceEqDiff, Nat.reduceLT, Nat.reduceAdd, Nat.reduceMul, Nat.reduceSub, Int.reduceLT, Int.reduceLE, Int.reduceEq, Int.reduceToNat, Int.reduceAdd, Int.reduceSub, Int.reduceMul, Int.reduceNeg, Int.cast_ofNat_Int, false_and, and_false])
  intro h Q x w k
  have m := x.1
  unfold ntV at k
  simp only [rX12_numbersTold_5, rX12_numbersTold_6, rX12_numbersTold_7, rX12_numbersTold_10, rX12_numbersTold_13, rX12_numbersTold_15, Md_K280 m, Md_R281 m, Md_K281 m, Md_R282 m, Md_K282 m, Md_R283 m, Md_K283 m, Md_R284 m, Md_K284 m, Md_R285 m, Md_K285 m, Md_R286 m, Md_K286 m, Md_R287 m, Md_K287 m, Md_R288 m, Md_K288 m, Md_R289 m, Md_K289 m, Md_R290 m, Md_K290 m, Md_R291 m, Md_K291 m, Md_R292 m, Md_K292 m, Md_R293 m, Md_K293 m, Md_R294 m, Md_K294 m, Md_R295 m, Md_K295 m, Md_R296 m, Md_K296 m, Md_R297 m, Md_K297 m, Md_R298 m, Md_K298 m, Md_R299 m, Md_K299 m, Int.toNat_natCast, Int.natCast_nonneg, true_and, and_true, and_self, if_true, if_false, or_true, true_or, or_false, false_or, ne_eq, not_true_eq_false, not_false_eq_true, Nat.reduceLeDiff, Nat.reduceEqDiff, Nat.reduceLT, Nat.reduceAdd, Nat.reduceMul, Nat.reduceSub, Int.reduceLT, Int.reduceLE, Int.reduceEq, Int.reduceToNat, Int.reduceAdd, Int.reduceSub, Int.reduceMul, Int.reduceNeg, Int.cast_ofNat_Int, false_and, and_false, S_rSet (x.rp w), psh_some]
  by_cases h1 : 0 ≤ t ∧ t < ((2 ^ (sA σ 2).toNat : Nat) : Int)
  · simp only [if_pos h1] at k
    rw [if_pos h1, if_neg (by decide)]
    obtain ⟨s, rfl, hs⟩ := set_nat h1
    simp only [Int.toNat_natCast] at k
    simp only [rX12_numbersTold_16, rX12_numbersTold_17, rX12_numbersTold_18, Md_K280 m, Md_R281 m, Md_K281 m, Md_R282 m, Md_K282 m, Md_R283 m, Md_K283 m, Md_R284 m, Md_K284 m, Md_R285 m, Md_K285 m, Md_R286 m, Md_K286 m, Md_R287 m, Md_K287 m, Md_R288 m, Md_K288 m, Md_R289 m, Md_K289 m, Md_R290 m, Md_K290 m, Md_R291 m, Md_K291 m, Md_R292 m, Md_K292 m, Md_R293 m, Md_K293 m, Md_R294 m, Md_K294 m, Md_R295 m, Md_K295 m, Md_R296 m, Md_K296 m, Md_R297 m, Md_K297 m, Md_R298 m, Md_K298 m, Md_R299 m, Md_K299 m, Int.toNat_natCast, Int.natCast_nonneg, true_and, and_true, and_self, if_true, if_false, or_true, true_or, or_false, false_or, ne_eq, not_true_eq_false, not_false_eq_true, Nat.reduceLeDiff, Nat.reduceEqDiff, Nat.reduceLT, Nat.reduceAdd, Nat.reduceMul, Nat.reduceSub, Int.reduceLT, Int.reduceLE, Int.reduceEq, Int.reduceToNat, Int.reduceAdd, Int.reduceSub, Int.reduceMul, Int.reduceNeg, Int.cast_ofNat_Int, false_and, and_false]
    refine S_laysStands (x.rp w) w.2.1 (set64 w.1 hs) ?_
    intro h' f' x'
    have m' := x'.1
    have k0 := k h' (f'.mono (fun a k q => rsP_u q))
    have ok := x'.2.2.2.1
    have fr := x'.2.2.2.2.2.1
    have fn := x'.2.2.2.2.2.2.1
    generalize Lst (sA σ) (stA (sA σ)) s = L at ok fr fn k0
    have ll := ok.len
    have fb : ∀ q, q < 6400 → (hI h' 302 q < 268435456) = (q ∈ L) := by
      intro q hq
      apply propext
      constructor
      · intro hl
        by_cases hm : q ∈ L
        · exact hm
        · rw [fn q hq hm] at hl; omega
      · intro hm
        obtain ⟨p, hp, e⟩ := mem_getD hm
        have := (fr p hp).2
        rw [e] at this
        exact far_lt this (by omega)
    rw [← cntB_E (P := fun b => taB L b 64) 100 (fun b hb => ta_td ok hb)] at k0
    simp only [psh_none, rX12_numbersTold_21, rX12_numbersTold_22, rX12_numbersTold_23, rX12_numbersTold_24]
    have outer : ∀ n b (x4 x5 : Option PV), b + n = 100 → WP (d + 4) mX12_numbersTold 25 [some (.inr (.inr 294)), some (.inl (s : Int)), some (.inl (cntB (fun b => taB L b 64) b : Int)), some (.inl (b : Int)), x4, x5] [] h' Q := by
      intro n
      induction n with
      | zero =>
        intro b x4 x5 hb
        have e : b = 100 := by omega
        subst e
        rw [rX12_numbersTold_25]
        simp only [rX12_numbersTold_26, rX12_numbersTold_28, rX12_numbersTold_96, rX12_numbersTold_97, Int.toNat_natCast, Int.natCast_nonneg, true_and, and_true, and_self, if_true, if_false, or_true, true_or, or_false, false_or, ne_eq, not_true_eq_false, not_false_eq_true, Nat.reduceLeDiff, Nat.reduceEqDiff, Nat.reduceLT, Nat.reduceAdd, Nat.reduceMul, Nat.reduceSub, Int.reduceLT, Int.reduceLE, Int.reduceEq, Int.reduceToNat, Int.reduceAdd, Int.reduceSub, Int.reduceMul, Int.reduceNeg, Int.cast_ofNat_Int, false_and, and_false]
        exact k0
      | succ n ih =>
        intro b x4 x5 hb
        have b9 : b ≤ 99 := by omega
        have c9 : ¬ ((99 : Int) < (b : Int)) := by omega
        have l2 : w32 ((b : Int) + 1) = ((b + 1 : Nat) : Int) := w32_s (by omega)
        have cl := cntB_le (fun b => taB L b 64) b
        rw [rX12_numbersTold_25]
        simp only [rX12_numbersTold_26, rX12_numbersTold_28, rX12_numbersTold_31, rX12_numbersTold_32, rX12_numbersTold_34, rX12_numbersTold_35, c9, Int.toNat_natCast, Int.natCast_nonneg, true_and, and_true, and_self, if_true, if_false, or_true, true_or, or_false, false_or, ne_eq, not_true_eq_false, not_false_eq_true, Nat.reduceLeDiff, Nat.reduceEqDiff, Nat.reduceLT, Nat.reduceAdd, Nat.reduceMul, Nat.reduceSub, Int.reduceLT, Int.reduceLE, Int.reduceEq, Int.reduceToNat, Int.reduceAdd, Int.reduceSub, Int.reduceMul, Int.reduceNeg, Int.cast_ofNat_Int, false_and, and_false]
        have inner : ∀ n i, i + n = 64 → WP (d + 4) mX12_numbersTold 37 [some (.inr (.inr 294)), some (.inl (s : Int)), some (.inl (cntB (fun b => taB L b 64) b : Int)), some (.inl (b : Int)), some (.inl (if taB L b i = true then 1 else 0)), some (.inl (i : Int))] [] h' Q := by
          intro n
          induction n with
          | zero =>
            intro i hi
            have e : i = 64 := by omega
            subst e
            have l3 : w32 ((cntB (fun b => taB L b 64) b : Int) + (if taB L b 64 = true then 1 else 0)) = (cntB (fun b => taB L b 64) (b + 1) : Int) := by
              show _ = ((cntB (fun b => taB L b 64) b + (if taB L b 64 = true then 1 else 0) : Nat) : Int)
              split
              · rw [w32_i (by omega) (by omega)]; omega
              · rw [w32_i (by omega) (by omega)]; omega
            rw [rX12_numbersTold_37]
            simp only [rX12_numbersTold_39, rX12_numbersTold_41, rX12_numbersTold_77, rX12_numbersTold_78, rX12_numbersTold_80, Int.toNat_natCast, Int.natCast_nonneg, true_and, and_true, and_self, if_true, if_false, or_true, true_or, or_false, false_or, ne_eq, not_true_eq_false, not_false_eq_true, Nat.reduceLeDiff, Nat.reduceEqDiff, Nat.reduceLT, Nat.reduceAdd, Nat.reduceMul, Nat.reduceSub, Int.reduceLT, Int.reduceLE, Int.reduceEq, Int.reduceToNat, Int.reduceAdd, Int.reduceSub, Int.reduceMul, Int.reduceNeg, Int.cast_ofNat_Int, false_and, and_false]
            by_cases hc : taB L b 64 = true
            · simp only [if_pos hc] at l3 ⊢
              rw [if_neg (by decide)]
              simp only [rX12_numbersTold_83, rX12_numbersTold_84, rX12_numbersTold_87, rX12_numbersTold_88, rX12_numbersTold_89, rX12_numbersTold_90, rX12_numbersTold_93, l3, l2]
              exact ih (b + 1) _ _ (by omega)
            · simp only [if_neg hc] at l3 ⊢
              rw [if_pos (by trivial)]
              simp only [rX12_numbersTold_87, rX12_numbersTold_88, rX12_numbersTold_89, rX12_numbersTold_90, rX12_numbersTold_93, l3, l2]
              exact ih (b + 1) _ _ (by omega)
          | succ n ih2 =>
            intro i hi
            have i6 : i < 64 := by omega
            have c6 : (i : Int) < 64 := by omega
            have l3 : w32 ((i : Int) + 1) = ((i + 1 : Nat) : Int) := w32_s (by omega)
            have q6 : ((100 * i + b : Nat) : Int) < 6400 := by omega
            have fq := fb (100 * i + b) (by omega)
            have go := ih2 (i + 1) (by omega)
            unfold taB at go
            rw [← or01] at go
            rw [rX12_numbersTold_37]
            simp only [rX12_numbersTold_39, rX12_numbersTold_41, rX12_numbersTold_44, rX12_numbersTold_46, rX12_numbersTold_47, rX12_numbersTold_50, rX12_numbersTold_52, rX12_numbersTold_53, rX12_numbersTold_56, rX12_numbersTold_57, rX12_numbersTold_60, Md_K280 m', Md_R281 m', Md_K281 m', Md_R282 m', Md_K282 m', Md_R283 m', Md_K283 m', Md_R284 m', Md_K284 m', Md_R285 m', Md_K285 m', Md_R286 m', Md_K286 m', Md_R287 m', Md_K287 m', Md_R288 m', Md_K288 m', Md_R289 m', Md_K289 m', Md_R290 m', Md_K290 m', Md_R291 m', Md_K291 m', Md_R292 m', Md_K292 m', Md_R293 m', Md_K293 m', Md_R294 m', Md_K294 m', Md_R295 m', Md_K295 m', Md_R296 m', Md_K296 m', Md_R297 m', Md_K297 m', Md_R298 m', Md_K298 m', Md_R299 m', Md_K299 m', c6, S_standOf b9 i6, psh_some, q6, fq, Int.toNat_natCast, Int.natCast_nonneg, true_and, and_true, and_self, if_true, if_false, or_true, true_or, or_false, false_or, ne_eq, not_true_eq_false, not_false_eq_true, Nat.reduceLeDiff, Nat.reduceEqDiff, Nat.reduceLT, Nat.reduceAdd, Nat.reduceMul, Nat.reduceSub, Int.reduceLT, Int.reduceLE, Int.reduceEq, Int.reduceToNat, Int.reduceAdd, Int.reduceSub, Int.reduceMul, Int.reduceNeg, Int.cast_ofNat_Int, false_and, and_false]
            by_cases hm : 100 * i + b ∈ L
            · rw [if_pos hm]
              simp only [rX12_numbersTold_63, rX12_numbersTold_64, rX12_numbersTold_67, rX12_numbersTold_68, rX12_numbersTold_69, rX12_numbersTold_71, rX12_numbersTold_74, l3]
              simp only [decide_eq_true hm, if_true] at go
              exact go
            · rw [if_neg hm]
              simp only [rX12_numbersTold_67, rX12_numbersTold_68, rX12_numbersTold_69, rX12_numbersTold_71, rX12_numbersTold_74, l3]
              simp only [decide_eq_false hm, Bool.false_eq_true, if_false] at go
              exact go
        exact inner 64 0 (by omega)
    exact outer 100 0 _ _ (by omega)
  · simp only [if_neg h1] at k
    rw [if_neg h1, if_pos (by trivial)]
    exact k h (Fp.refl _ h)
