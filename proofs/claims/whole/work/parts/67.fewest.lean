/-! the fewest goers -/
noncomputable def fwR (A F : Nat → Int) (t : Nat) : Nat → Int
  | 0 => -1
  | n + 1 => if (fwR A F t n = -1 ∨ bits n < bits (fwR A F t n).toNat) ∧ ccB A F n t = true then (n : Int) else fwR A F t n
theorem fwR_spec (A F : Nat → Int) (t : Nat) : ∀ n, (fwR A F t n = -1 ∧ ∀ s, s < n → ¬ ccB A F s t = true) ∨ (∃ b : Nat, b < n ∧ fwR A F t n = (b : Int) ∧ ccB A F b t = true ∧ ∀ s, s < n → ccB A F s t = true → bits b ≤ bits s ∧ (bits s = bits b → b ≤ s)) := by
  intro n
  induction n with
  | zero => exact Or.inl ⟨rfl, fun s hs => absurd hs (Nat.not_lt_zero _)⟩
  | succ n ih =>
    unfold fwR
    rcases ih with ⟨e, no⟩ | ⟨b, hb, e, pb, mn⟩
    · by_cases hp : ccB A F n t = true
      · rw [if_pos ⟨Or.inl e, hp⟩]
        refine Or.inr ⟨n, by omega, rfl, hp, fun s hs ps => ?_⟩
        have : s = n := by
          by_cases h : s = n
          · exact h
          · exact absurd ps (no s (by omega))
        rw [this]; exact ⟨Nat.le_refl _, fun _ => Nat.le_refl _⟩
      · rw [if_neg (fun q => hp q.2)]
        refine Or.inl ⟨e, fun s hs ps => ?_⟩
        by_cases h : s = n
        · rw [h] at ps; exact hp ps
        · exact no s (by omega) ps
    · by_cases hp : bits n < bits b ∧ ccB A F n t = true
      · rw [if_pos ⟨Or.inr (by rw [e]; exact hp.1), hp.2⟩]
        refine Or.inr ⟨n, by omega, rfl, hp.2, fun s hs ps => ?_⟩
        by_cases h : s = n
        · rw [h]; exact ⟨Nat.le_refl _, fun _ => Nat.le_refl _⟩
        · have := mn s (by omega) ps
          have h1 := hp.1
          exact ⟨by omega, fun q => by omega⟩
      · rw [if_neg (fun q => hp ⟨by
          rcases q.1 with q1 | q1
          · rw [e] at q1; exact absurd q1 (by omega)
          · rw [e] at q1; exact q1, q.2⟩)]
        refine Or.inr ⟨b, by omega, e, pb, fun s hs ps => ?_⟩
        by_cases h : s = n
        · subst h
          have : ¬ bits s < bits b := fun q => hp ⟨q, ps⟩
          exact ⟨by omega, fun _ => by omega⟩
        · exact mn s (by omega) ps
theorem bits_all : ∀ G, G < 7 → ∀ s, s < 64 → s < 2 ^ G → G ≤ bits s → s = 2 ^ G - 1 := by decide
theorem all_bit {G g : Nat} (h : g < G) : (2 ^ G - 1).testBit g = true := by rw [Nat.testBit_two_pow_sub_one]; simpa using h
noncomputable def fwV (σ : AS) (t : Int) : Int := if 0 ≤ t ∧ t < sA σ 1 then fwR (sA σ) (stA (sA σ)) t.toNat (2 ^ (sA σ 2).toNat) else -2
theorem fw_found {A F : Nat → Int} {t N set size : Nat} (h1 : ∀ s, s < N → ccB A F s t = true → size ≤ bits s) (h2 : ∀ s, s < set → bits s = size → ¬ ccB A F s t = true) (hs : set < N) (hb : bits set = size) (hp : ccB A F set t = true) : fwR A F t N = (set : Int) := by
  rcases fwR_spec A F t N with ⟨e, no⟩ | ⟨b, hbN, e, pb, mn⟩
  · exact absurd hp (no set hs)
  · obtain ⟨a1, a2⟩ := mn set hs hp
    have a3 := h1 b hbN pb
    have be : bits b = size := by omega
    have : ¬ b < set := fun q => h2 b q be pb
    have := a2 (by omega)
    rw [e]
    congr 1
    omega
theorem fw_all {A F : Nat → Int} {t G : Nat} (hG : G < 7) (h1 : ∀ s, s < 2 ^ G → ccB A F s t = true → G ≤ bits s) (hp : ccB A F (2 ^ G - 1) t = true) : fwR A F t (2 ^ G) = ((2 ^ G - 1 : Nat) : Int) := by
  have g1 := Nat.one_le_two_pow (n := G)
  have g64 := pow6 (n := G) (by omega)
  rcases fwR_spec A F t (2 ^ G) with ⟨e, no⟩ | ⟨b, hbN, e, pb, mn⟩
  · exact absurd hp (no _ (by omega))
  · rw [e, bits_all G hG b (by omega) hbN (h1 b hbN pb)]
theorem fw_none {A F : Nat → Int} (po : poolOk A) (so : stOk F) {t : Nat} (h : ¬ ccB A F (2 ^ (A 2).toNat - 1) t = true) : fwR A F t (2 ^ (A 2).toNat) = -1 := by
  rcases fwR_spec A F t (2 ^ (A 2).toNat) with ⟨e, no⟩ | ⟨b, hbN, e, pb, mn⟩
  · exact e
  · exact absurd (cc_sub po so (fun g hg _ => all_bit hg) pb) h
theorem bits_in : ∀ s, s < 64 → bits s ≤ 6 := by decide
set_option maxHeartbeats 1000000 in
theorem fw_inner {d : Nat} {Q : Option PV → Hp → Prop} {h0 : Hp} {σ : AS} (w : WF σ) {n se size : Nat} (n31 : n < 31) (sz : size < 6) (hlo : ∀ s, s < 2 ^ (sA σ 2).toNat → ccB (sA σ) (stA (sA σ)) s n = true → size ≤ bits s)
    (k : ∀ h', CRep h' σ → Cf0 h0 h' → Q (some (.inl (fwR (sA σ) (stA (sA σ)) n (2 ^ (sA σ 2).toNat)))) h')
    (cont : ∀ h' x4, CRep h' σ → Cf0 h0 h' → Sx h' se (sA σ) (stA (sA σ)) → (∀ s, s < 2 ^ (sA σ 2).toNat → ccB (sA σ) (stA (sA σ)) s n = true → size + 1 ≤ bits s) → WP (d + 7) mX11_fewest 89 [some (.inr (.inr 200)), some (.inl (n : Int)), some (.inr (.inr se)), some (.inl (size : Int)), x4] [] h' Q) :
    ∀ q i h', i + q = 2 ^ (sA σ 2).toNat → CRep h' σ → Cf0 h0 h' → Sx h' se (sA σ) (stA (sA σ)) → (∀ s, s < i → bits s = size → ¬ ccB (sA σ) (stA (sA σ)) s n = true) → WP (d + 7) mX11_fewest 49 [some (.inr (.inr 200)), some (.inl (n : Int)), some (.inr (.inr se)), some (.inl (size : Int)), some (.inl (i : Int))] [] h' Q := by
  have N64 : 2 ^ (sA σ 2).toNat ≤ 64 := pow6 (by have := w.1.2.2.2.1; omega)
  have N1 := Nat.one_le_two_pow (n := (sA σ 2).toNat)
  generalize hN : 2 ^ (sA σ 2).toNat = N at N64 N1 hlo k cont
  have hlt : ∀ s, s < N → s < 2 ^ (sA σ 2).toNat := fun s hs => by rw [hN]; exact hs
  intro q
  induction q with
  | zero =>
    intro i h' hi x' cf' sx' no
    have c1 : ((N - 1 : Nat) : Int) < (i : Int) := by omega
    have m' := x'.1.1
    have ca : ∀ {d : Nat} {h : Hp} {Q : Option PV → Hp → Prop} (x : CpF h (sA σ)), WP d mX11_allGoers 0 [some (.inr (.inr 200))] [] h Q = Q (some (.inl ((N - 1 : Nat) : Int))) h := fun x => by rw [S_cAll x, hN]
    rw [rX11_fewest_49]
    simp only [rX11_fewest_51, rX11_fewest_52, rX11_fewest_55, Cs_K200 m', ca (x'.cp w), psh_some, c1, Int.toNat_natCast, Int.natCast_nonneg, true_and, and_true, and_self, if_true, if_false, or_true, true_or, or_false, false_or, ne_eq, not_true_eq_false, not_false_eq_true, Nat.reduceLeDiff, Nat.reduceEqDiff, Nat.reduceLT, Nat.reduceAdd, Nat.reduceMul, Nat.reduceSub, Int.reduceLT, Int.reduceLE, Int.reduceEq, Int.reduceToNat, Int.reduceAdd, Int.reduceSub, Int.reduceMul, Int.reduceNeg, Int.cast_ofNat_Int, false_and, and_false]
    refine cont h' _ x' cf' sx' (fun s hs ps => ?_)
    have a1 := hlo s hs ps
    have a2 : ¬ bits s = size := fun q => no s (by omega) q ps
    omega
  | succ q ih =>
    intro i h' hi x' cf' sx' no
    have c1 : ¬ (((N - 1 : Nat) : Int) < (i : Int)) := by omega
    have i64 : i < 64 := by omega
    have iN : i < N := by omega
    have l2 : w32 ((i : Int) + 1) = ((i + 1 : Nat) : Int) := w32_s (by omega)
    have hi' : i + 1 + q = N := by omega
    have no' : ¬ (bits i = size ∧ ccB (sA σ) (stA (sA σ)) i n = true) → ∀ s, s < i + 1 → bits s = size → ¬ ccB (sA σ) (stA (sA σ)) s n = true := fun hh s hs hb hc => by
      by_cases he : s = i
      · rw [he] at hb hc; exact hh ⟨hb, hc⟩
      · exact no s (by omega) hb hc
    have m' := x'.1.1
    have ca : ∀ {d : Nat} {h : Hp} {Q : Option PV → Hp → Prop} (x : CpF h (sA σ)), WP d mX11_allGoers 0 [some (.inr (.inr 200))] [] h Q = Q (some (.inl ((N - 1 : Nat) : Int))) h := fun x => by rw [S_cAll x, hN]
    rw [rX11_fewest_49]
    simp only [rX11_fewest_51, rX11_fewest_52, rX11_fewest_55, rX11_fewest_58, rX11_fewest_60, rX11_fewest_63, rX11_fewest_64, Cs_K200 m', ca (x'.cp w), psh_some, c1, S_bitCount i64, Int.toNat_natCast, Int.natCast_nonneg, true_and, and_true, and_self, if_true, if_false, or_true, true_or, or_false, false_or, ne_eq, not_true_eq_false, not_false_eq_true, Nat.reduceLeDiff, Nat.reduceEqDiff, Nat.reduceLT, Nat.reduceAdd, Nat.reduceMul, Nat.reduceSub, Int.reduceLT, Int.reduceLE, Int.reduceEq, Int.reduceToNat, Int.reduceAdd, Int.reduceSub, Int.reduceMul, Int.reduceNeg, Int.cast_ofNat_Int, false_and, and_false]
    by_cases hb : bits i = size
    · rw [if_pos (congrArg Nat.cast hb)]
      simp only [rX11_fewest_67, rX11_fewest_68, rX11_fewest_70, sx'.2.2.1.1, Int.toNat_natCast, Int.natCast_nonneg, true_and, and_true, and_self, if_true, if_false, or_true, true_or, or_false, false_or, ne_eq, not_true_eq_false, not_false_eq_true, Nat.reduceLeDiff, Nat.reduceEqDiff, Nat.reduceLT, Nat.reduceAdd, Nat.reduceMul, Nat.reduceSub, Int.reduceLT, Int.reduceLE, Int.reduceEq, Int.reduceToNat, Int.reduceAdd, Int.reduceSub, Int.reduceMul, Int.reduceNeg, Int.cast_ofNat_Int, false_and, and_false]
      refine S_canBe sx' (hlt i iN) ?_
      intro h3 f3 sx3
      obtain ⟨x3, cf3⟩ := x'.cn sx' f3 sx3
      simp only [psh_some, rX11_fewest_73, rX11_fewest_74, rX11_fewest_77, S_has (tl31 w.1 w.2.1 _) n31, Int.toNat_natCast, Int.natCast_nonneg, true_and, and_true, and_self, if_true, if_false, or_true, true_or, or_false, false_or, ne_eq, not_true_eq_false, not_false_eq_true, Nat.reduceLeDiff, Nat.reduceEqDiff, Nat.reduceLT, Nat.reduceAdd, Nat.reduceMul, Nat.reduceSub, Int.reduceLT, Int.reduceLE, Int.reduceEq, Int.reduceToNat, Int.reduceAdd, Int.reduceSub, Int.reduceMul, Int.reduceNeg, Int.cast_ofNat_Int, false_and, and_false]
      by_cases hc : ccB (sA σ) (stA (sA σ)) i n = true
      · have hc' : (thU (Lst (sA σ) (stA (sA σ)) i)).testBit n = true := hc
        rw [if_pos hc', if_neg (by decide)]
        simp only [rX11_fewest_80, rX11_fewest_82]
        have k0 := k h3 x3 (cf'.trans cf3)
        rw [fw_found hlo no iN hb hc] at k0
        exact k0
      · have hc' : ¬ (thU (Lst (sA σ) (stA (sA σ)) i)).testBit n = true := hc
        rw [if_neg hc', if_pos (by trivial)]
        simp only [rX11_fewest_83, rX11_fewest_86, l2]
        exact ih (i + 1) h3 hi' x3 (cf'.trans cf3) sx3 (no' (fun q => hc q.2))
    · rw [if_neg (fun q => hb (by rw [eq_n] at q; exact q))]
      simp only [rX11_fewest_83, rX11_fewest_86, l2]
      exact ih (i + 1) h' hi' x' cf' sx' (no' (fun q => hb q.1))
set_option maxHeartbeats 1000000 in
theorem C_fewest {d : Nat} {σ : AS} {t : Int} : CSpec (d + 7) mX11_fewest [some (.inr (.inr 200)), some (.inl t), none, none, none] σ (.inl (fwV σ t)) σ := by
  intro h Q x w k
  have m := x.1.1
  unfold fwV at k
  simp only [rX11_fewest_0, rX11_fewest_1, rX11_fewest_2, rX11_fewest_5, rX11_fewest_8, rX11_fewest_10, Cs_K200 m, Cs_R200_0 m, Cs_R200_1 m, Cs_R200_2 m, Cs_R200_3 m, Cs_R200_4 m, Cs_R200_5 m, Cs_R200_6 m, Cs_K201 m, Cs_R201_0 m, Cs_R201_1 m, Cs_K202 m, Cs_K203 m, Cs_K211 m, Cs_R211_0 m, Cs_R211_1 m, Cs_K212 m, Cs_K213 m, Cs_K214 m, Cs_R214_0 m, Cs_R214_1 m, Cs_K215 m, Cs_K216 m, Cs_K217 m, Cs_R217_0 m, Cs_R217_1 m, Cs_K218 m, Cs_K219 m, Cs_K220 m, Cs_R220_0 m, Cs_K221 m, Cs_K262 m, Cs_K271 m, Cs_R271_0 m, Cs_R271_1 m, Cs_K272 m, Cs_K276 m, Cs_R272_0 m, Cs_R276_0 m, Cs_K273 m, Cs_R273_0 m, Cs_R273_1 m, Cs_K274 m, Cs_K275 m, Cs_K277 m, Cs_R277_0 m, Cs_R277_1 m, Cs_K278 m, Cs_K279 m, Cs_R262_0 m, Cs_K263 m, Cs_R263_0 m, Cs_K264 m, Cs_R262_1 m, Cs_K265 m, Cs_R265_0 m, Cs_K266 m, Cs_R262_2 m, Cs_K267 m, Cs_R267_0 m, Cs_K268 m, Cs_R262_3 m, Cs_K269 m, Cs_R269_0 m, Cs_K270 m, Int.toNat_natCast, Int.natCast_nonneg, true_and, and_true, and_self, if_true, if_false, or_true, true_or, or_false, false_or, ne_eq, not_true_eq_false, not_false_eq_true, Nat.reduceLeDiff, Nat.reduceEqDiff, Nat.reduceLT, Nat.reduceAdd, Nat.reduceMul, Nat.reduceSub, Int.reduceLT, Int.reduceLE, Int.reduceEq, Int.reduceToNat, Int.reduceAdd, Int.reduceSub, Int.reduceMul, Int.reduceNeg, Int.cast_ofNat_Int, false_and, and_false, S_cThing (x.cp w), psh_some]
  by_cases h1 : 0 ≤ t ∧ t < sA σ 1
  · simp only [if_pos h1] at k
    rw [if_pos h1, if_neg (by decide)]
    obtain ⟨n, rfl⟩ := Int.eq_ofNat_of_zero_le h1.1
    have n31 : n < 31 := by have := w.1.2.1; omega
    have G0 := w.1.2.2.1
    have G6 := w.1.2.2.2.1
    have gN : (sA σ 2).toNat < 7 := by omega
    simp only [Int.toNat_natCast] at k
    simp only [rX11_fewest_11, rX11_fewest_12, Cs_K200 m, Cs_R200_0 m, Cs_R200_1 m, Cs_R200_2 m, Cs_R200_3 m, Cs_R200_4 m, Cs_R200_5 m, Cs_R200_6 m, Cs_K201 m, Cs_R201_0 m, Cs_R201_1 m, Cs_K202 m, Cs_K203 m, Cs_K211 m, Cs_R211_0 m, Cs_R211_1 m, Cs_K212 m, Cs_K213 m, Cs_K214 m, Cs_R214_0 m, Cs_R214_1 m, Cs_K215 m, Cs_K216 m, Cs_K217 m, Cs_R217_0 m, Cs_R217_1 m, Cs_K218 m, Cs_K219 m, Cs_K220 m, Cs_R220_0 m, Cs_K221 m, Cs_K262 m, Cs_K271 m, Cs_R271_0 m, Cs_R271_1 m, Cs_K272 m, Cs_K276 m, Cs_R272_0 m, Cs_R276_0 m, Cs_K273 m, Cs_R273_0 m, Cs_R273_1 m, Cs_K274 m, Cs_K275 m, Cs_K277 m, Cs_R277_0 m, Cs_R277_1 m, Cs_K278 m, Cs_K279 m, Cs_R262_0 m, Cs_K263 m, Cs_R263_0 m, Cs_K264 m, Cs_R262_1 m, Cs_K265 m, Cs_R265_0 m, Cs_K266 m, Cs_R262_2 m, Cs_K267 m, Cs_R267_0 m, Cs_K268 m, Cs_R262_3 m, Cs_K269 m, Cs_R269_0 m, Cs_K270 m, Int.toNat_natCast, Int.natCast_nonneg, true_and, and_true, and_self, if_true, if_false, or_true, true_or, or_false, false_or, ne_eq, not_true_eq_false, not_false_eq_true, Nat.reduceLeDiff, Nat.reduceEqDiff, Nat.reduceLT, Nat.reduceAdd, Nat.reduceMul, Nat.reduceSub, Int.reduceLT, Int.reduceLE, Int.reduceEq, Int.reduceToNat, Int.reduceAdd, Int.reduceSub, Int.reduceMul, Int.reduceNeg, Int.cast_ofNat_Int, false_and, and_false]
    refine S_ready (d := d + 3) x w ?_
    intro h1' se x1 c1 pn ps sx
    have cf1 : Cf0 h h1' := ⟨c1, pn, ps⟩
    have m1 := x1.1.1
    have so := w.2.1
    simp only [psh_some, rX11_fewest_15, rX11_fewest_16, rX11_fewest_17, rX11_fewest_18, rX11_fewest_21, Cs_K200 m1, Cs_R200_0 m1, Cs_R200_1 m1, Cs_R200_2 m1, Cs_R200_3 m1, Cs_R200_4 m1, Cs_R200_5 m1, Cs_R200_6 m1, Cs_K201 m1, Cs_R201_0 m1, Cs_R201_1 m1, Cs_K202 m1, Cs_K203 m1, Cs_K211 m1, Cs_R211_0 m1, Cs_R211_1 m1, Cs_K212 m1, Cs_K213 m1, Cs_K214 m1, Cs_R214_0 m1, Cs_R214_1 m1, Cs_K215 m1, Cs_K216 m1, Cs_K217 m1, Cs_R217_0 m1, Cs_R217_1 m1, Cs_K218 m1, Cs_K219 m1, Cs_K220 m1, Cs_R220_0 m1, Cs_K221 m1, Cs_K262 m1, Cs_K271 m1, Cs_R271_0 m1, Cs_R271_1 m1, Cs_K272 m1, Cs_K276 m1, Cs_R272_0 m1, Cs_R276_0 m1, Cs_K273 m1, Cs_R273_0 m1, Cs_R273_1 m1, Cs_K274 m1, Cs_K275 m1, Cs_K277 m1, Cs_R277_0 m1, Cs_R277_1 m1, Cs_K278 m1, Cs_K279 m1, Cs_R262_0 m1, Cs_K263 m1, Cs_R263_0 m1, Cs_K264 m1, Cs_R262_1 m1, Cs_K265 m1, Cs_R265_0 m1, Cs_K266 m1, Cs_R262_2 m1, Cs_K267 m1, Cs_R267_0 m1, Cs_K268 m1, Cs_R262_3 m1, Cs_K269 m1, Cs_R269_0 m1, Cs_K270 m1, S_cAll (x1.cp w), sx.2.2.1.1, Int.toNat_natCast, Int.natCast_nonneg, true_and, and_true, and_self, if_true, if_false, or_true, true_or, or_false, false_or, ne_eq, not_true_eq_false, not_false_eq_true, Nat.reduceLeDiff, Nat.reduceEqDiff, Nat.reduceLT, Nat.reduceAdd, Nat.reduceMul, Nat.reduceSub, Int.reduceLT, Int.reduceLE, Int.reduceEq, Int.reduceToNat, Int.reduceAdd, Int.reduceSub, Int.reduceMul, Int.reduceNeg, Int.cast_ofNat_Int, false_and, and_false]
    refine S_canBe sx all_lt ?_
    intro h2 f2 sx2
    obtain ⟨x2, cf2⟩ := x1.cn sx f2 sx2
    simp only [psh_some, rX11_fewest_24, rX11_fewest_25, rX11_fewest_28, S_has (tl31 w.1 so _) n31, Int.toNat_natCast, Int.natCast_nonneg, true_and, and_true, and_self, if_true, if_false, or_true, true_or, or_false, false_or, ne_eq, not_true_eq_false, not_false_eq_true, Nat.reduceLeDiff, Nat.reduceEqDiff, Nat.reduceLT, Nat.reduceAdd, Nat.reduceMul, Nat.reduceSub, Int.reduceLT, Int.reduceLE, Int.reduceEq, Int.reduceToNat, Int.reduceAdd, Int.reduceSub, Int.reduceMul, Int.reduceNeg, Int.cast_ofNat_Int, false_and, and_false]
    by_cases hc : ccB (sA σ) (stA (sA σ)) (2 ^ (sA σ 2).toNat - 1) n = true
    · have hc' : (thU (Lst (sA σ) (stA (sA σ)) (2 ^ (sA σ 2).toNat - 1))).testBit n = true := hc
      rw [if_pos hc', if_neg (by decide)]
      simp only [rX11_fewest_33, rX11_fewest_34]
      have main : ∀ q i h' x4, i + q = (sA σ 2).toNat → CRep h' σ → Cf0 h h' → Sx h' se (sA σ) (stA (sA σ)) → (∀ s, s < 2 ^ (sA σ 2).toNat → ccB (sA σ) (stA (sA σ)) s n = true → i ≤ bits s) → WP (d + 7) mX11_fewest 35 [some (.inr (.inr 200)), some (.inl (n : Int)), some (.inr (.inr se)), some (.inl (i : Int)), x4] [] h' Q := by
        intro q
        induction q with
        | zero =>
          intro i h' x4 hi x' cf' sx' hlo
          have e : (i : Int) = sA σ 2 := by omega
          have e' : i = (sA σ 2).toNat := by omega
          have m' := x'.1.1
          obtain ⟨p, hp, pk, pG⟩ := C_G x' w
          rw [rX11_fewest_35]
          simp only [rX11_fewest_36, rX11_fewest_37, rX11_fewest_40, rX11_fewest_43, Cs_K200 m', hp, pk, pG, e, Int.lt_irrefl, Int.toNat_natCast, Int.natCast_nonneg, true_and, and_true, and_self, if_true, if_false, or_true, true_or, or_false, false_or, ne_eq, not_true_eq_false, not_false_eq_true, Nat.reduceLeDiff, Nat.reduceEqDiff, Nat.reduceLT, Nat.reduceAdd, Nat.reduceMul, Nat.reduceSub, Int.reduceLT, Int.reduceLE, Int.reduceEq, Int.reduceToNat, Int.reduceAdd, Int.reduceSub, Int.reduceMul, Int.reduceNeg, Int.cast_ofNat_Int, false_and, and_false]
          simp only [rX11_fewest_95, rX11_fewest_96, rX11_fewest_99, Cs_K200 m', S_cAll (x'.cp w), psh_some, Int.toNat_natCast, Int.natCast_nonneg, true_and, and_true, and_self, if_true, if_false, or_true, true_or, or_false, false_or, ne_eq, not_true_eq_false, not_false_eq_true, Nat.reduceLeDiff, Nat.reduceEqDiff, Nat.reduceLT, Nat.reduceAdd, Nat.reduceMul, Nat.reduceSub, Int.reduceLT, Int.reduceLE, Int.reduceEq, Int.reduceToNat, Int.reduceAdd, Int.reduceSub, Int.reduceMul, Int.reduceNeg, Int.cast_ofNat_Int, false_and, and_false]
          have k0 := k h' x' cf'.1
          rw [fw_all gN (fun s hs hc => by rw [← e']; exact hlo s hs hc) hc] at k0
          exact k0
        | succ q ih =>
          intro i h' x4 hi x' cf' sx' hlo
          have l1 : (i : Int) < sA σ 2 := by omega
          have i6 : i < 6 := by omega
          have l2 : w32 ((i : Int) + 1) = ((i + 1 : Nat) : Int) := w32_s (by omega)
          have hi' : i + 1 + q = (sA σ 2).toNat := by omega
          have m' := x'.1.1
          obtain ⟨p, hp, pk, pG⟩ := C_G x' w
          rw [rX11_fewest_35]
          simp only [rX11_fewest_36, rX11_fewest_37, rX11_fewest_40, rX11_fewest_43, rX11_fewest_46, rX11_fewest_47, Cs_K200 m', hp, pk, pG, l1, Int.toNat_natCast, Int.natCast_nonneg, true_and, and_true, and_self, if_true, if_false, or_true, true_or, or_false, false_or, ne_eq, not_true_eq_false, not_false_eq_true, Nat.reduceLeDiff, Nat.reduceEqDiff, Nat.reduceLT, Nat.reduceAdd, Nat.reduceMul, Nat.reduceSub, Int.reduceLT, Int.reduceLE, Int.reduceEq, Int.reduceToNat, Int.reduceAdd, Int.reduceSub, Int.reduceMul, Int.reduceNeg, Int.cast_ofNat_Int, false_and, and_false]
          refine fw_inner (h0 := h) w n31 i6 hlo (fun h3 x3 cf3 => k h3 x3 cf3.1) ?_ _ 0 h' (Nat.zero_add _) x' cf' sx' (fun s hs => absurd hs (Nat.not_lt_zero _))
          intro h3 y4 x3 cf3 sx3 hlo3
          simp only [rX11_fewest_89, rX11_fewest_92, l2]
          exact ih (i + 1) h3 _ hi' x3 cf3 sx3 hlo3
      exact main _ 0 h2 _ (Nat.zero_add _) x2 (cf1.trans cf2) sx2 (fun s _ _ => Nat.zero_le _)
    · have hc' : ¬ (thU (Lst (sA σ) (stA (sA σ)) (2 ^ (sA σ 2).toNat - 1))).testBit n = true := hc
      rw [if_neg hc', if_pos (by trivial)]
      simp only [rX11_fewest_31, rX11_fewest_32]
      rw [fw_none w.1 so hc] at k
      exact k h2 x2 (cf1.trans cf2).1
  · simp only [if_neg h1] at k
    rw [if_neg h1, if_pos (by trivial)]
    exact k h x (Cfr.refl h)
theorem fwR_in (A F : Nat → Int) (t n : Nat) : fwR A F t n = -1 ∨ ∃ b : Nat, fwR A F t n = (b : Int) ∧ b < n := by
  rcases fwR_spec A F t n with ⟨e, _⟩ | ⟨b, hb, e, _⟩
  · exact Or.inl e
  · exact Or.inr ⟨b, e, hb⟩
set_option maxHeartbeats 1000000 in
theorem R_fewest {d : Nat} {σ : AS} {t : Int} : RSpec (d + 5) mX12_fewest [some (.inr (.inr 294)), some (.inl t), none, none] σ (.inl (fwV σ t)) σ := by
  refine RSpec5.of (RSpec5.u ?_) (fun h Q hk => by simp only [rX12_fewest_0, rX12_fewest_1, rX12_fewest_2, hk, Int.toNat_natCast, Int.natCast_nonneg, true_and, and_true, and_self, if_true, if_false, or_true, true_or, or_false, false_or, ne_eq, not_true_eq_false, not_false_eq_true, Nat.reduceLeDiff, Nat.reduceEqDiff, Nat.reduceLT, Nat.reduceAdd, Nat.reduceMul, Nat.reduceSub, Int.reduceLT, Int.reduceLE, Int.reduceEq, Int.reduceToNat, Int.reduceAdd, Int.reduceSub, Int.reduceMul, Int.reduceNeg, Int.cast_ofNat_Int, false_and, and_false])
  intro h Q x w k
  have m := x.1
  unfold fwV at k
  simp only [rX12_fewest_5, rX12_fewest_6, rX12_fewest_7, rX12_fewest_8, rX12_fewest_11, rX12_fewest_14, rX12_fewest_16, Md_K280 m, Md_R281 m, Md_K281 m, Md_R282 m, Md_K282 m, Md_R283 m, Md_K283 m, Md_R284 m, Md_K284 m, Md_R285 m, Md_K285 m, Md_R286 m, Md_K286 m, Md_R287 m, Md_K287 m, Md_R288 m, Md_K288 m, Md_R289 m, Md_K289 m, Md_R290 m, Md_K290 m, Md_R291 m, Md_K291 m, Md_R292 m, Md_K292 m, Md_R293 m, Md_K293 m, Md_R294 m, Md_K294 m, Md_R295 m, Md_K295 m, Md_R296 m, Md_K296 m, Md_R297 m, Md_K297 m, Md_R298 m, Md_K298 m, Md_R299 m, Md_K299 m, Int.toNat_natCast, Int.natCast_nonneg, true_and, and_true, and_self, if_true, if_false, or_true, true_or, or_false, false_or, ne_eq, not_true_eq_false, not_false_eq_true, Nat.reduceLeDiff, Nat.reduceEqDiff, Nat.reduceLT, Nat.reduceAdd, Nat.reduceMul, Nat.reduceSub, Int.reduceLT, Int.reduceLE, Int.reduceEq, Int.reduceToNat, Int.reduceAdd, Int.reduceSub, Int.reduceMul, Int.reduceNeg, Int.cast_ofNat_Int, false_and, and_false, S_rThing (x.rp w), psh_some]
  by_cases h1 : 0 ≤ t ∧ t < sA σ 1
  · simp only [if_pos h1] at k
    rw [if_pos h1, if_neg (by decide)]
    obtain ⟨n, rfl⟩ := Int.eq_ofNat_of_zero_le h1.1
    have n6 : n < 6 := by have := w.1.2.1; omega
    have G0 := w.1.2.2.1
    have G6 := w.1.2.2.2.1
    have N64 : 2 ^ (sA σ 2).toNat ≤ 64 := pow6 (by omega)
    simp only [Int.toNat_natCast] at k
    have rp := x.rp w
    have sh := shl_n G0 G6
    generalize hN : 2 ^ (sA σ 2).toNat = N at N64 k sh
    simp only [rX12_fewest_17, rX12_fewest_18, rX12_fewest_19, rX12_fewest_20]
    have main : ∀ q i h', i + q = N → Fp uP h h' → WP (d + 5) mX12_fewest 21 [some (.inr (.inr 294)), some (.inl (n : Int)), some (.inl (fwR (sA σ) (stA (sA σ)) n i)), some (.inl (i : Int))] [] h' Q := by
      intro q
      induction q with
      | zero =>
        intro i h' hi f
        have e : i = N := by omega
        subst e
        have x' := rp.u f
        have m' := x'.1
        rw [rX12_fewest_21]
        simp only [rX12_fewest_22, rX12_fewest_23, rX12_fewest_24, rX12_fewest_27, rX12_fewest_28, rX12_fewest_29, rX12_fewest_30, rX12_fewest_66, rX12_fewest_67, Md_K280 m', Md_R281 m', Md_K281 m', Md_R282 m', Md_K282 m', Md_R283 m', Md_K283 m', Md_R284 m', Md_K284 m', Md_R285 m', Md_K285 m', Md_R286 m', Md_K286 m', Md_R287 m', Md_K287 m', Md_R288 m', Md_K288 m', Md_R289 m', Md_K289 m', Md_R290 m', Md_K290 m', Md_R291 m', Md_K291 m', Md_R292 m', Md_K292 m', Md_R293 m', Md_K293 m', Md_R294 m', Md_K294 m', Md_R295 m', Md_K295 m', Md_R296 m', Md_K296 m', Md_R297 m', Md_K297 m', Md_R298 m', Md_K298 m', Md_R299 m', Md_K299 m', x'.2.1 2 (by omega), sh, Int.lt_irrefl, Int.toNat_natCast, Int.natCast_nonneg, true_and, and_true, and_self, if_true, if_false, or_true, true_or, or_false, false_or, ne_eq, not_true_eq_false, not_false_eq_true, Nat.reduceLeDiff, Nat.reduceEqDiff, Nat.reduceLT, Nat.reduceAdd, Nat.reduceMul, Nat.reduceSub, Int.reduceLT, Int.reduceLE, Int.reduceEq, Int.reduceToNat, Int.reduceAdd, Int.reduceSub, Int.reduceMul, Int.reduceNeg, Int.cast_ofNat_Int, false_and, and_false]
        exact k h' f
      | succ q ih =>
        intro i h' hi f
        have c1 : (i : Int) < (N : Int) := by omega
        have i64 : i < 64 := by omega
        have i31 : i < 2147483648 := by omega
        have l2 : w32 ((i : Int) + 1) = ((i + 1 : Nat) : Int) := w32_s (by omega)
        have hi' : i + 1 + q = N := by omega
        have fin := fwR_in (sA σ) (stA (sA σ)) n i
        have x' := rp.u f
        have m' := x'.1
        have a2 := x'.2.1 2 (by omega)
        have go := fun h3 f3 => ih (i + 1) h3 hi' f3
        unfold fwR at go
        have tryit : (fwR (sA σ) (stA (sA σ)) n i = -1 ∨ bits i < bits (fwR (sA σ) (stA (sA σ)) n i).toNat) → WP (d + 5) mX12_fewest 49 [some (.inr (.inr 294)), some (.inl (n : Int)), some (.inl (fwR (sA σ) (stA (sA σ)) n i)), some (.inl (i : Int))] [] h' Q := by
          intro hcon
          simp only [rX12_fewest_49, rX12_fewest_50, rX12_fewest_51, rX12_fewest_52, Md_K280 m', Md_R281 m', Md_K281 m', Md_R282 m', Md_K282 m', Md_R283 m', Md_K283 m', Md_R284 m', Md_K284 m', Md_R285 m', Md_K285 m', Md_R286 m', Md_K286 m', Md_R287 m', Md_K287 m', Md_R288 m', Md_K288 m', Md_R289 m', Md_K289 m', Md_R290 m', Md_K290 m', Md_R291 m', Md_K291 m', Md_R292 m', Md_K292 m', Md_R293 m', Md_K293 m', Md_R294 m', Md_K294 m', Md_R295 m', Md_K295 m', Md_R296 m', Md_K296 m', Md_R297 m', Md_K297 m', Md_R298 m', Md_K298 m', Md_R299 m', Md_K299 m', Int.toNat_natCast, Int.natCast_nonneg, true_and, and_true, and_self, if_true, if_false, or_true, true_or, or_false, false_or, ne_eq, not_true_eq_false, not_false_eq_true, Nat.reduceLeDiff, Nat.reduceEqDiff, Nat.reduceLT, Nat.reduceAdd, Nat.reduceMul, Nat.reduceSub, Int.reduceLT, Int.reduceLE, Int.reduceEq, Int.reduceToNat, Int.reduceAdd, Int.reduceSub, Int.reduceMul, Int.reduceNeg, Int.cast_ofNat_Int, false_and, and_false]
          refine S_canCome (d := d) x' w.2.1 i64 n6 ?_
          intro h3 f3
          have f4 := f.trans (f3.mono (fun a k q => rsP_u q))
          have go3 := go h3 f4
          simp only [psh_some, rX12_fewest_55]
          by_cases hc : ccB (sA σ) (stA (sA σ)) i n = true
          · have hc' : (thU (Lst (sA σ) (stA (sA σ)) i)).testBit n = true := hc
            rw [if_pos ⟨hcon, hc⟩] at go3
            rw [if_pos hc', if_neg (by decide)]
            simp only [rX12_fewest_58, rX12_fewest_59, rX12_fewest_60, rX12_fewest_63, l2]
            exact go3
          · have hc' : ¬ (thU (Lst (sA σ) (stA (sA σ)) i)).testBit n = true := hc
            rw [if_neg (fun q => hc q.2)] at go3
            rw [if_neg hc', if_pos (by trivial)]
            simp only [rX12_fewest_60, rX12_fewest_63, l2]
            exact go3
        rw [rX12_fewest_21]
        simp only [rX12_fewest_22, rX12_fewest_23, rX12_fewest_24, rX12_fewest_27, rX12_fewest_28, rX12_fewest_29, rX12_fewest_30, rX12_fewest_33, rX12_fewest_34, rX12_fewest_35, Md_K280 m', Md_R281 m', Md_K281 m', Md_R282 m', Md_K282 m', Md_R283 m', Md_K283 m', Md_R284 m', Md_K284 m', Md_R285 m', Md_K285 m', Md_R286 m', Md_K286 m', Md_R287 m', Md_K287 m', Md_R288 m', Md_K288 m', Md_R289 m', Md_K289 m', Md_R290 m', Md_K290 m', Md_R291 m', Md_K291 m', Md_R292 m', Md_K292 m', Md_R293 m', Md_K293 m', Md_R294 m', Md_K294 m', Md_R295 m', Md_K295 m', Md_R296 m', Md_K296 m', Md_R297 m', Md_K297 m', Md_R298 m', Md_K298 m', Md_R299 m', Md_K299 m', a2, sh, c1, Int.toNat_natCast, Int.natCast_nonneg, true_and, and_true, and_self, if_true, if_false, or_true, true_or, or_false, false_or, ne_eq, not_true_eq_false, not_false_eq_true, Nat.reduceLeDiff, Nat.reduceEqDiff, Nat.reduceLT, Nat.reduceAdd, Nat.reduceMul, Nat.reduceSub, Int.reduceLT, Int.reduceLE, Int.reduceEq, Int.reduceToNat, Int.reduceAdd, Int.reduceSub, Int.reduceMul, Int.reduceNeg, Int.cast_ofNat_Int, false_and, and_false]
        rcases fin with hm | ⟨b, hb, hbi⟩
        · rw [if_pos hm]
          exact tryit (Or.inl hm)
        · rw [if_neg (by rw [hb]; omega)]
          have b31 : b < 2147483648 := by omega
          rw [hb] at tryit go ⊢
          simp only [rX12_fewest_38, rX12_fewest_39, rX12_fewest_42, rX12_fewest_43, rX12_fewest_46, S_bitsOf i31, S_bitsOf b31, psh_some]
          by_cases hlt : bits i < bits b
          · rw [if_pos (Int.ofNat_lt.2 hlt)]
            exact tryit (Or.inr hlt)
          · rw [if_neg (fun q => hlt (Int.ofNat_lt.1 q))]
            simp only [rX12_fewest_60, rX12_fewest_63, l2]
            have go3 := go h' f
            rw [if_neg (fun q => by
              rcases q.1 with q1 | q1
              · omega
              · exact hlt q1)] at go3
            exact go3
    exact main N 0 h (Nat.zero_add _) (Fp.refl _ h)
  · simp only [if_neg h1] at k
    rw [if_neg h1, if_pos (by trivial)]
    exact k h (Fp.refl _ h)
