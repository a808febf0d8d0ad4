/-! deeds: the class does one -/
def whyV (A : Nat → Int) (g : Int) : Int := if 0 ≤ g ∧ g < A 2 then 0 else 1
def whyS (A B : Nat → Int) (g n : Int) : Int := if (0 ≤ g ∧ g < A 2) ∧ 0 ≤ n ∧ n ≤ 99 then (if n < bR A B g.toNat then 2 else 0) else 1
def whyW (A B : Nat → Int) (t : Int) : Int := if 0 ≤ t ∧ t < A 1 then (if (B 1).toNat.testBit t.toNat = true then 0 else 2) else 1
def whyB (A : Nat → Int) (g n : Int) : Int := if (0 ≤ g ∧ g < A 2) ∧ 0 ≤ n ∧ n ≤ 9 then 0 else 1
def whyD (A B : Nat → Int) (v : Int) : Int := if 0 ≤ v ∧ v ≤ 9 then whyV A v else if 1000 ≤ v ∧ v ≤ 1999 then whyS A B ((v - 1000) / 100) (v % 100) else if 2000 ≤ v ∧ v ≤ 2009 then whyW A B (v - 2000) else if 3000 ≤ v ∧ v ≤ 3099 then whyB A ((v - 3000) / 10) (v % 10) else 1
def doD (A B : Nat → Int) (v : Int) : Nat → Int := if v < 10 then dvB A B v.toNat else if v < 2000 then syB A B ((v - 1000) / 100).toNat (v % 100) else if v < 3000 then wpB B (v - 2000).toNat else boB B ((v - 3000) / 10).toNat (v % 10)
def aPs (s a _k : Nat) : Prop := (211 ≤ a ∧ a ≤ 213) ∨ (s ≤ a ∧ a ≤ s + 2)
theorem vP_a {s a k : Nat} (h : vP a k) : aPs s a k := by unfold vP at h; unfold aPs; omega
theorem S_lookAt {d : Nat} {Q : Option PV → Hp → Prop} {h : Hp} {A B : Nat → Int} (x : CpF h A) {s : Nat} (hs : s = 214 ∨ s = 217) (st : StIs h s B) (ok : stOk B) {g : Nat} (hg : g < 6)
    (k : ∀ h', Fp vP h h' → hI h' 211 3 = bR A B g → hI h' 211 4 = (bT A B g : Nat) → hI h' 211 5 = bP A B g → Q none h') :
    WP (d + 3) mX0_look 0 [some (.inr (.inr 211)), some (.inr (.inr (hR h 200 7))), some (.inr (.inr s)), some (.inl (g : Int)), some (.inl (hI h s 2)), some (.inl (hI h s 3)), none] [] h Q := by
  have L := x.lk hs st ok hg
  have e2 : hI h s 2 = (((B 0).toNat : Nat) : Int) := by rw [st.1, toN ok.1]
  have e3 : hI h s 3 = (((B 1).toNat : Nat) : Int) := by rw [st.2.1, toN ok.2.2.1]
  rw [e2, e3]
  exact S_look L k
theorem Cs_sK {h : Hp} (m : CsOk h) {s : Nat} (hs : s = 214 ∨ s = 217) : StSh h s := by
  rcases hs with rfl | rfl
  · exact Cs_nowS m
  · exact Cs_triS m
theorem StIs.w23 {h h' : Hp} {s : Nat} {B : Nat → Int} (hs : s = 214 ∨ s = 217) (f : Fp vP h h') (x : StIs h s B) (v2 v3 : Int) : StIs (wI (wI h' s 3 v3) s 2 v2) s (fun k => if k = 0 then v2 else if k = 1 then v3 else B k) := by
  have y := x.fp f (fun a k h1 h2 => by unfold vP; omega)
  refine ⟨by simp only [hI_wI, Int.toNat_natCast, Int.natCast_nonneg, true_and, and_true, and_self, if_true, if_false, or_true, true_or, or_false, false_or, ne_eq, not_true_eq_false, not_false_eq_true, Nat.reduceLeDiff, Nat.reduceEqDiff, Nat.reduceLT, Nat.reduceAdd, Nat.reduceMul, Nat.reduceSub, Int.reduceLT, Int.reduceLE, Int.reduceEq, Int.reduceToNat, Int.reduceAdd, Int.reduceSub, Int.reduceMul, Int.reduceNeg, Int.cast_ofNat_Int, false_and, and_false], ?_, fun g hg => ?_⟩
  · simp only [hI_wI, Int.toNat_natCast, Int.natCast_nonneg, true_and, and_true, and_self, if_true, if_false, or_true, true_or, or_false, false_or, ne_eq, not_true_eq_false, not_false_eq_true, Nat.reduceLeDiff, Nat.reduceEqDiff, Nat.reduceLT, Nat.reduceAdd, Nat.reduceMul, Nat.reduceSub, Int.reduceLT, Int.reduceLE, Int.reduceEq, Int.reduceToNat, Int.reduceAdd, Int.reduceSub, Int.reduceMul, Int.reduceNeg, Int.cast_ofNat_Int, false_and, and_false]; try simp
  · simp only [hI_wI]
    rw [if_neg (by omega), if_neg (by omega), if_neg (by omega), if_neg (by omega), if_neg (by omega), if_neg (by omega), if_neg (by omega), if_neg (by omega)]
    exact y.2.2 g hg
set_option maxHeartbeats 1000000 in
theorem S_actDive {d : Nat} {Q : Option PV → Hp → Prop} {h : Hp} {A B : Nat → Int} (x : CpF h A) {s : Nat} (hs : s = 214 ∨ s = 217) (st : StIs h s B) (ok : stOk B) {g : Int}
    (k : ∀ h', Fp (aPs s) h h' → StIs h' s (if whyV A g = 0 then dvB A B g.toNat else B) → (whyV A g = 0 → hI h' 211 3 = bR A B g.toNat) → Q (some (.inl (whyV A g))) h') :
    WP (d + 4) mX11_actDive 0 [some (.inr (.inr 200)), some (.inr (.inr s)), some (.inl g)] [] h Q := by
  have m := x.1
  have sk := Cs_sK m hs
  have s2 : 200 ≤ s := by omega
  unfold whyV at k
  simp only [rX11_actDive_0, rX11_actDive_1, rX11_actDive_2, rX11_actDive_5, rX11_actDive_8, rX11_actDive_9, Cs_K200 m, Int.toNat_natCast, Int.natCast_nonneg, true_and, and_true, and_self, if_true, if_false, or_true, true_or, or_false, false_or, ne_eq, not_true_eq_false, not_false_eq_true, Nat.reduceLeDiff, Nat.reduceEqDiff, Nat.reduceLT, Nat.reduceAdd, Nat.reduceMul, Nat.reduceSub, Int.reduceLT, Int.reduceLE, Int.reduceEq, Int.reduceToNat, Int.reduceAdd, Int.reduceSub, Int.reduceMul, Int.reduceNeg, Int.cast_ofNat_Int, false_and, and_false, S_cGoer x, psh_some]
  by_cases h1 : 0 ≤ g ∧ g < A 2
  · simp only [if_pos h1] at k ⊢
    obtain ⟨n, rfl⟩ := Int.eq_ofNat_of_zero_le h1.1
    have n6 := x.2.2.2.2.2.2.1
    rw [if_neg (by decide)]
    simp only [rX11_actDive_10, rX11_actDive_11, rX11_actDive_14, rX11_actDive_15, rX11_actDive_18, rX11_actDive_19, rX11_actDive_20, rX11_actDive_21, rX11_actDive_24, rX11_actDive_25, rX11_actDive_28, Cs_K200 m, Cs_R200_0 m, Cs_R200_1 m, Cs_R200_2 m, Cs_R200_3 m, Cs_R200_4 m, Cs_R200_5 m, Cs_R200_6 m, Cs_K201 m, Cs_R201_0 m, Cs_R201_1 m, Cs_K202 m, Cs_K203 m, Cs_K211 m, Cs_R211_0 m, Cs_R211_1 m, Cs_K212 m, Cs_K213 m, Cs_K214 m, Cs_R214_0 m, Cs_R214_1 m, Cs_K215 m, Cs_K216 m, Cs_K217 m, Cs_R217_0 m, Cs_R217_1 m, Cs_K218 m, Cs_K219 m, Cs_K220 m, Cs_R220_0 m, Cs_K221 m, Cs_K262 m, Cs_K271 m, Cs_R271_0 m, Cs_R271_1 m, Cs_K272 m, Cs_K276 m, Cs_R272_0 m, Cs_R276_0 m, Cs_K273 m, Cs_R273_0 m, Cs_R273_1 m, Cs_K274 m, Cs_K275 m, Cs_K277 m, Cs_R277_0 m, Cs_R277_1 m, Cs_K278 m, Cs_K279 m, Cs_R262_0 m, Cs_K263 m, Cs_R263_0 m, Cs_K264 m, Cs_R262_1 m, Cs_K265 m, Cs_R265_0 m, Cs_K266 m, Cs_R262_2 m, Cs_K267 m, Cs_R267_0 m, Cs_K268 m, Cs_R262_3 m, Cs_K269 m, Cs_R269_0 m, Cs_K270 m, sk.2.1, Int.toNat_natCast, Int.natCast_nonneg, true_and, and_true, and_self, if_true, if_false, or_true, true_or, or_false, false_or, ne_eq, not_true_eq_false, not_false_eq_true, Nat.reduceLeDiff, Nat.reduceEqDiff, Nat.reduceLT, Nat.reduceAdd, Nat.reduceMul, Nat.reduceSub, Int.reduceLT, Int.reduceLE, Int.reduceEq, Int.reduceToNat, Int.reduceAdd, Int.reduceSub, Int.reduceMul, Int.reduceNeg, Int.cast_ofNat_Int, false_and, and_false]
    refine S_lookAt x hs st ok (by omega) ?_
    intro h' f a1 a2 a3
    have m' := m.fr f
    have sk' := sk.fr f
    simp only [psh_none, rX11_actDive_31, rX11_actDive_32, rX11_actDive_33, rX11_actDive_36, rX11_actDive_39, rX11_actDive_42, rX11_actDive_43, rX11_actDive_44, rX11_actDive_47, rX11_actDive_50, rX11_actDive_53, rX11_actDive_54, hN_wI, hN_wJ, hN_wR, hS_wI, hS_wJ, hS_wR, hK_wI, hK_wJ, hK_wR, hI_wI, hI_wJ, hI_wR, hJ_wI, hJ_wJ, hJ_wR, hR_wI, hR_wJ, hR_wR, hN_nw, hS_nw, hK_nw, hI_nw, hJ_nw, hR_nw, psh_some, psh_none, Cs_K200 m', Cs_R200_0 m', Cs_R200_1 m', Cs_R200_2 m', Cs_R200_3 m', Cs_R200_4 m', Cs_R200_5 m', Cs_R200_6 m', Cs_K201 m', Cs_R201_0 m', Cs_R201_1 m', Cs_K202 m', Cs_K203 m', Cs_K211 m', Cs_R211_0 m', Cs_R211_1 m', Cs_K212 m', Cs_K213 m', Cs_K214 m', Cs_R214_0 m', Cs_R214_1 m', Cs_K215 m', Cs_K216 m', Cs_K217 m', Cs_R217_0 m', Cs_R217_1 m', Cs_K218 m', Cs_K219 m', Cs_K220 m', Cs_R220_0 m', Cs_K221 m', Cs_K262 m', Cs_K271 m', Cs_R271_0 m', Cs_R271_1 m', Cs_K272 m', Cs_K276 m', Cs_R272_0 m', Cs_R276_0 m', Cs_K273 m', Cs_R273_0 m', Cs_R273_1 m', Cs_K274 m', Cs_K275 m', Cs_K277 m', Cs_R277_0 m', Cs_R277_1 m', Cs_K278 m', Cs_K279 m', Cs_R262_0 m', Cs_K263 m', Cs_R263_0 m', Cs_K264 m', Cs_R262_1 m', Cs_K265 m', Cs_R265_0 m', Cs_K266 m', Cs_R262_2 m', Cs_K267 m', Cs_R267_0 m', Cs_K268 m', Cs_R262_3 m', Cs_K269 m', Cs_R269_0 m', Cs_K270 m', sk'.2.1, Int.toNat_natCast, Int.natCast_nonneg, true_and, and_true, and_self, if_true, if_false, or_true, true_or, or_false, false_or, ne_eq, not_true_eq_false, not_false_eq_true, Nat.reduceLeDiff, Nat.reduceEqDiff, Nat.reduceLT, Nat.reduceAdd, Nat.reduceMul, Nat.reduceSub, Int.reduceLT, Int.reduceLE, Int.reduceEq, Int.reduceToNat, Int.reduceAdd, Int.reduceSub, Int.reduceMul, Int.reduceNeg, Int.cast_ofNat_Int, false_and, and_false, a2, a3, s2, show ¬ (211 = s) by omega]
    simp only [if_true, Int.toNat_natCast, forall_const] at k
    refine k _ ?_ ?_ ?_
    · exact ((f.mono (fun _ _ => vP_a)).wI (by unfold aPs; omega) _).wI (by unfold aPs; omega) _
    · exact (st.w23 hs f _ _).of (fun k hk => rfl)
    · simp only [hN_wI, hN_wJ, hN_wR, hS_wI, hS_wJ, hS_wR, hK_wI, hK_wJ, hK_wR, hI_wI, hI_wJ, hI_wR, hJ_wI, hJ_wJ, hJ_wR, hR_wI, hR_wJ, hR_wR, hN_nw, hS_nw, hK_nw, hI_nw, hJ_nw, hR_nw, psh_some, psh_none, Int.toNat_natCast, Int.natCast_nonneg, true_and, and_true, and_self, if_true, if_false, or_true, true_or, or_false, false_or, ne_eq, not_true_eq_false, not_false_eq_true, Nat.reduceLeDiff, Nat.reduceEqDiff, Nat.reduceLT, Nat.reduceAdd, Nat.reduceMul, Nat.reduceSub, Int.reduceLT, Int.reduceLE, Int.reduceEq, Int.reduceToNat, Int.reduceAdd, Int.reduceSub, Int.reduceMul, Int.reduceNeg, Int.cast_ofNat_Int, false_and, and_false, show ¬ (211 = s) by omega]; exact a1
  · simp only [if_neg h1] at k ⊢
    rw [if_pos (by trivial)]
    refine k h (Fp.refl _ h) ?_ ?_
    · rw [if_neg (by decide)]; exact st
    · intro h0; exact absurd h0 (by decide)
set_option maxHeartbeats 1000000 in
theorem S_actSay {d : Nat} {Q : Option PV → Hp → Prop} {h : Hp} {A B : Nat → Int} (x : CpF h A) {s : Nat} (hs : s = 214 ∨ s = 217) (st : StIs h s B) (ok : stOk B) {g n : Int}
    (k : ∀ h', Fp (aPs s) h h' → StIs h' s (if whyS A B g n = 0 then syB A B g.toNat n else B) → (whyS A B g n = 0 → hI h' 211 3 = bR A B g.toNat) → Q (some (.inl (whyS A B g n))) h') :
    WP (d + 4) mX11_actSay 0 [some (.inr (.inr 200)), some (.inr (.inr s)), some (.inl g), some (.inl n)] [] h Q := by
  have m := x.1
  have sk := Cs_sK m hs
  have s2 : 200 ≤ s := by omega
  unfold whyS at k
  simp only [rX11_actSay_0, rX11_actSay_1, rX11_actSay_2, rX11_actSay_5, rX11_actSay_8, rX11_actSay_9, rX11_actSay_12, rX11_actSay_13, rX11_actSay_15, rX11_actSay_18, rX11_actSay_19, Cs_K200 m, Int.toNat_natCast, Int.natCast_nonneg, true_and, and_true, and_self, if_true, if_false, or_true, true_or, or_false, false_or, ne_eq, not_true_eq_false, not_false_eq_true, Nat.reduceLeDiff, Nat.reduceEqDiff, Nat.reduceLT, Nat.reduceAdd, Nat.reduceMul, Nat.reduceSub, Int.reduceLT, Int.reduceLE, Int.reduceEq, Int.reduceToNat, Int.reduceAdd, Int.reduceSub, Int.reduceMul, Int.reduceNeg, Int.cast_ofNat_Int, false_and, and_false, S_cGoer x, psh_some]
  have no : ¬ ((0 ≤ g ∧ g < A 2) ∧ 0 ≤ n ∧ n ≤ 99) → Q (some (.inl 1)) h := by
    intro hn
    simp only [if_neg hn] at k
    refine k h (Fp.refl _ h) ?_ ?_
    · rw [if_neg (by decide)]; exact st
    · intro h0; exact absurd h0 (by decide)
  by_cases h1 : 0 ≤ g ∧ g < A 2
  · rw [if_pos h1, if_neg (by decide)]
    by_cases h2 : n < 0
    · rw [if_pos h2]; exact no (by omega)
    · rw [if_neg h2]
      by_cases h3 : 99 < n
      · rw [if_pos h3]; exact no (by omega)
      · rw [if_neg h3]
        simp only [if_pos (show (0 ≤ g ∧ g < A 2) ∧ 0 ≤ n ∧ n ≤ 99 by omega)] at k
        obtain ⟨i, rfl⟩ := Int.eq_ofNat_of_zero_le h1.1
        have n6 := x.2.2.2.2.2.2.1
        simp only [rX11_actSay_20, rX11_actSay_21, rX11_actSay_24, rX11_actSay_25, rX11_actSay_28, rX11_actSay_29, rX11_actSay_30, rX11_actSay_31, rX11_actSay_34, rX11_actSay_35, rX11_actSay_38, Cs_K200 m, Cs_R200_0 m, Cs_R200_1 m, Cs_R200_2 m, Cs_R200_3 m, Cs_R200_4 m, Cs_R200_5 m, Cs_R200_6 m, Cs_K201 m, Cs_R201_0 m, Cs_R201_1 m, Cs_K202 m, Cs_K203 m, Cs_K211 m, Cs_R211_0 m, Cs_R211_1 m, Cs_K212 m, Cs_K213 m, Cs_K214 m, Cs_R214_0 m, Cs_R214_1 m, Cs_K215 m, Cs_K216 m, Cs_K217 m, Cs_R217_0 m, Cs_R217_1 m, Cs_K218 m, Cs_K219 m, Cs_K220 m, Cs_R220_0 m, Cs_K221 m, Cs_K262 m, Cs_K271 m, Cs_R271_0 m, Cs_R271_1 m, Cs_K272 m, Cs_K276 m, Cs_R272_0 m, Cs_R276_0 m, Cs_K273 m, Cs_R273_0 m, Cs_R273_1 m, Cs_K274 m, Cs_K275 m, Cs_K277 m, Cs_R277_0 m, Cs_R277_1 m, Cs_K278 m, Cs_K279 m, Cs_R262_0 m, Cs_K263 m, Cs_R263_0 m, Cs_K264 m, Cs_R262_1 m, Cs_K265 m, Cs_R265_0 m, Cs_K266 m, Cs_R262_2 m, Cs_K267 m, Cs_R267_0 m, Cs_K268 m, Cs_R262_3 m, Cs_K269 m, Cs_R269_0 m, Cs_K270 m, sk.2.1, Int.toNat_natCast, Int.natCast_nonneg, true_and, and_true, and_self, if_true, if_false, or_true, true_or, or_false, false_or, ne_eq, not_true_eq_false, not_false_eq_true, Nat.reduceLeDiff, Nat.reduceEqDiff, Nat.reduceLT, Nat.reduceAdd, Nat.reduceMul, Nat.reduceSub, Int.reduceLT, Int.reduceLE, Int.reduceEq, Int.reduceToNat, Int.reduceAdd, Int.reduceSub, Int.reduceMul, Int.reduceNeg, Int.cast_ofNat_Int, false_and, and_false]
        refine S_lookAt x hs st ok (by omega) ?_
        intro h' f a1 a2 a3
        have m' := m.fr f
        have sk' := sk.fr f
        simp only [psh_none, rX11_actSay_41, rX11_actSay_42, rX11_actSay_43, rX11_actSay_46, rX11_actSay_49, rX11_actSay_52, rX11_actSay_53, Cs_K200 m', Cs_R200_0 m', Cs_R200_1 m', Cs_R200_2 m', Cs_R200_3 m', Cs_R200_4 m', Cs_R200_5 m', Cs_R200_6 m', Cs_K201 m', Cs_R201_0 m', Cs_R201_1 m', Cs_K202 m', Cs_K203 m', Cs_K211 m', Cs_R211_0 m', Cs_R211_1 m', Cs_K212 m', Cs_K213 m', Cs_K214 m', Cs_R214_0 m', Cs_R214_1 m', Cs_K215 m', Cs_K216 m', Cs_K217 m', Cs_R217_0 m', Cs_R217_1 m', Cs_K218 m', Cs_K219 m', Cs_K220 m', Cs_R220_0 m', Cs_K221 m', Cs_K262 m', Cs_K271 m', Cs_R271_0 m', Cs_R271_1 m', Cs_K272 m', Cs_K276 m', Cs_R272_0 m', Cs_R276_0 m', Cs_K273 m', Cs_R273_0 m', Cs_R273_1 m', Cs_K274 m', Cs_K275 m', Cs_K277 m', Cs_R277_0 m', Cs_R277_1 m', Cs_K278 m', Cs_K279 m', Cs_R262_0 m', Cs_K263 m', Cs_R263_0 m', Cs_K264 m', Cs_R262_1 m', Cs_K265 m', Cs_R265_0 m', Cs_K266 m', Cs_R262_2 m', Cs_K267 m', Cs_R267_0 m', Cs_K268 m', Cs_R262_3 m', Cs_K269 m', Cs_R269_0 m', Cs_K270 m', Int.toNat_natCast, Int.natCast_nonneg, true_and, and_true, and_self, if_true, if_false, or_true, true_or, or_false, false_or, ne_eq, not_true_eq_false, not_false_eq_true, Nat.reduceLeDiff, Nat.reduceEqDiff, Nat.reduceLT, Nat.reduceAdd, Nat.reduceMul, Nat.reduceSub, Int.reduceLT, Int.reduceLE, Int.reduceEq, Int.reduceToNat, Int.reduceAdd, Int.reduceSub, Int.reduceMul, Int.reduceNeg, Int.cast_ofNat_Int, false_and, and_false, a1]
        by_cases h4 : n < bR A B i
        · simp only [Int.toNat_natCast, if_pos h4] at k ⊢
          refine k h' (f.mono (fun _ _ => vP_a)) ?_ ?_
          · rw [if_neg (by decide)]; exact st.fp f (fun a k h1 h2 => by unfold vP; omega)
          · intro h0; exact absurd h0 (by decide)
        · simp only [Int.toNat_natCast, if_neg h4] at k ⊢
          simp only [rX11_actSay_54, rX11_actSay_55, rX11_actSay_56, rX11_actSay_59, rX11_actSay_62, rX11_actSay_65, rX11_actSay_66, rX11_actSay_67, rX11_actSay_70, rX11_actSay_71, hN_wI, hN_wJ, hN_wR, hS_wI, hS_wJ, hS_wR, hK_wI, hK_wJ, hK_wR, hI_wI, hI_wJ, hI_wR, hJ_wI, hJ_wJ, hJ_wR, hR_wI, hR_wJ, hR_wR, hN_nw, hS_nw, hK_nw, hI_nw, hJ_nw, hR_nw, psh_some, psh_none, Cs_K200 m', Cs_R200_0 m', Cs_R200_1 m', Cs_R200_2 m', Cs_R200_3 m', Cs_R200_4 m', Cs_R200_5 m', Cs_R200_6 m', Cs_K201 m', Cs_R201_0 m', Cs_R201_1 m', Cs_K202 m', Cs_K203 m', Cs_K211 m', Cs_R211_0 m', Cs_R211_1 m', Cs_K212 m', Cs_K213 m', Cs_K214 m', Cs_R214_0 m', Cs_R214_1 m', Cs_K215 m', Cs_K216 m', Cs_K217 m', Cs_R217_0 m', Cs_R217_1 m', Cs_K218 m', Cs_K219 m', Cs_K220 m', Cs_R220_0 m', Cs_K221 m', Cs_K262 m', Cs_K271 m', Cs_R271_0 m', Cs_R271_1 m', Cs_K272 m', Cs_K276 m', Cs_R272_0 m', Cs_R276_0 m', Cs_K273 m', Cs_R273_0 m', Cs_R273_1 m', Cs_K274 m', Cs_K275 m', Cs_K277 m', Cs_R277_0 m', Cs_R277_1 m', Cs_K278 m', Cs_K279 m', Cs_R262_0 m', Cs_K263 m', Cs_R263_0 m', Cs_K264 m', Cs_R262_1 m', Cs_K265 m', Cs_R265_0 m', Cs_K266 m', Cs_R262_2 m', Cs_K267 m', Cs_R267_0 m', Cs_K268 m', Cs_R262_3 m', Cs_K269 m', Cs_R269_0 m', Cs_K270 m', sk'.2.1, Int.toNat_natCast, Int.natCast_nonneg, true_and, and_true, and_self, if_true, if_false, or_true, true_or, or_false, false_or, ne_eq, not_true_eq_false, not_false_eq_true, Nat.reduceLeDiff, Nat.reduceEqDiff, Nat.reduceLT, Nat.reduceAdd, Nat.reduceMul, Nat.reduceSub, Int.reduceLT, Int.reduceLE, Int.reduceEq, Int.reduceToNat, Int.reduceAdd, Int.reduceSub, Int.reduceMul, Int.reduceNeg, Int.cast_ofNat_Int, false_and, and_false, a2, s2]
          simp only [if_true, forall_const] at k
          refine k _ ?_ ?_ ?_
          · exact ((f.mono (fun _ _ => vP_a)).wI (by unfold aPs; omega) _).wI (by unfold aPs; omega) _
          · exact (st.w23 hs f _ _).of (fun k hk => rfl)
          · simp only [hN_wI, hN_wJ, hN_wR, hS_wI, hS_wJ, hS_wR, hK_wI, hK_wJ, hK_wR, hI_wI, hI_wJ, hI_wR, hJ_wI, hJ_wJ, hJ_wR, hR_wI, hR_wJ, hR_wR, hN_nw, hS_nw, hK_nw, hI_nw, hJ_nw, hR_nw, psh_some, psh_none, Int.toNat_natCast, Int.natCast_nonneg, true_and, and_true, and_self, if_true, if_false, or_true, true_or, or_false, false_or, ne_eq, not_true_eq_false, not_false_eq_true, Nat.reduceLeDiff, Nat.reduceEqDiff, Nat.reduceLT, Nat.reduceAdd, Nat.reduceMul, Nat.reduceSub, Int.reduceLT, Int.reduceLE, Int.reduceEq, Int.reduceToNat, Int.reduceAdd, Int.reduceSub, Int.reduceMul, Int.reduceNeg, Int.cast_ofNat_Int, false_and, and_false, show ¬ (211 = s) by omega]; exact a1
  · rw [if_neg h1, if_pos (by trivial)]
    exact no (fun q => h1 q.1)
theorem without_n {a t : Nat} (ha : a < 64) (ht : t < 6) : iand (a : Int) (ixor (ishl 1 (t : Int)) (-1)) = (without a (2 ^ t) : Int) := by
  have : 2 ^ t ≤ 2 ^ 6 := Nat.pow_le_pow_right (by decide) (by omega)
  rw [shl1 (by omega), iandn_n (by omega) (by omega)]
theorem S_actWipe {d : Nat} {Q : Option PV → Hp → Prop} {h : Hp} {A B : Nat → Int} (x : CpF h A) {s : Nat} (hs : s = 214 ∨ s = 217) (st : StIs h s B) (ok : stOk B) {t : Int}
    (k : ∀ h', Fp (aPs s) h h' → StIs h' s (if whyW A B t = 0 then wpB B t.toNat else B) → Q (some (.inl (whyW A B t))) h') :
    WP (d + 1) mX11_actWipe 0 [some (.inr (.inr 200)), some (.inr (.inr s)), some (.inl t)] [] h Q := by
  have m := x.1
  have sk := Cs_sK m hs
  have s2 : 200 ≤ s := by omega
  have e3 : hI h s 3 = (((B 1).toNat : Nat) : Int) := by rw [st.2.1, toN ok.2.2.1]
  have b6 := ok.2.2.2.1
  unfold whyW at k
  simp only [rX11_actWipe_0, rX11_actWipe_1, rX11_actWipe_2, rX11_actWipe_5, rX11_actWipe_8, rX11_actWipe_9, Cs_K200 m, Int.toNat_natCast, Int.natCast_nonneg, true_and, and_true, and_self, if_true, if_false, or_true, true_or, or_false, false_or, ne_eq, not_true_eq_false, not_false_eq_true, Nat.reduceLeDiff, Nat.reduceEqDiff, Nat.reduceLT, Nat.reduceAdd, Nat.reduceMul, Nat.reduceSub, Int.reduceLT, Int.reduceLE, Int.reduceEq, Int.reduceToNat, Int.reduceAdd, Int.reduceSub, Int.reduceMul, Int.reduceNeg, Int.cast_ofNat_Int, false_and, and_false, S_cThing x, psh_some]
  by_cases h1 : 0 ≤ t ∧ t < A 1
  · simp only [if_pos h1] at k ⊢
    obtain ⟨n, rfl⟩ := Int.eq_ofNat_of_zero_le h1.1
    have n6 := x.2.2.2.2.1
    rw [if_neg (by decide)]
    simp only [rX11_actWipe_10, rX11_actWipe_11, rX11_actWipe_14, rX11_actWipe_15, rX11_actWipe_18, rX11_actWipe_21, rX11_actWipe_22, sk.2.1, Int.toNat_natCast, Int.natCast_nonneg, true_and, and_true, and_self, if_true, if_false, or_true, true_or, or_false, false_or, ne_eq, not_true_eq_false, not_false_eq_true, Nat.reduceLeDiff, Nat.reduceEqDiff, Nat.reduceLT, Nat.reduceAdd, Nat.reduceMul, Nat.reduceSub, Int.reduceLT, Int.reduceLE, Int.reduceEq, Int.reduceToNat, Int.reduceAdd, Int.reduceSub, Int.reduceMul, Int.reduceNeg, Int.cast_ofNat_Int, false_and, and_false, e3, S_has (b := (B 1).toNat) (i := n) (by omega) (by omega), psh_some]
    by_cases h2 : (B 1).toNat.testBit n = true
    · simp only [Int.toNat_natCast, if_pos h2, if_true] at k ⊢
      rw [if_neg (by decide)]
      simp only [rX11_actWipe_23, rX11_actWipe_24, rX11_actWipe_25, rX11_actWipe_28, rX11_actWipe_29, rX11_actWipe_30, rX11_actWipe_31, rX11_actWipe_32, rX11_actWipe_33, rX11_actWipe_34, rX11_actWipe_37, rX11_actWipe_38, hN_wI, hN_wJ, hN_wR, hS_wI, hS_wJ, hS_wR, hK_wI, hK_wJ, hK_wR, hI_wI, hI_wJ, hI_wR, hJ_wI, hJ_wJ, hJ_wR, hR_wI, hR_wJ, hR_wR, hN_nw, hS_nw, hK_nw, hI_nw, hJ_nw, hR_nw, psh_some, psh_none, sk.2.1, Int.toNat_natCast, Int.natCast_nonneg, true_and, and_true, and_self, if_true, if_false, or_true, true_or, or_false, false_or, ne_eq, not_true_eq_false, not_false_eq_true, Nat.reduceLeDiff, Nat.reduceEqDiff, Nat.reduceLT, Nat.reduceAdd, Nat.reduceMul, Nat.reduceSub, Int.reduceLT, Int.reduceLE, Int.reduceEq, Int.reduceToNat, Int.reduceAdd, Int.reduceSub, Int.reduceMul, Int.reduceNeg, Int.cast_ofNat_Int, false_and, and_false, e3, s2, without_n (a := (B 1).toNat) (t := n) (by omega) (by omega)]
      refine k _ ((Fp.refl _ h).wI (by unfold aPs; omega) _) ⟨?_, ?_, fun g hg => ?_⟩
      · simp only [hI_wI, Int.toNat_natCast, Int.natCast_nonneg, true_and, and_true, and_self, if_true, if_false, or_true, true_or, or_false, false_or, ne_eq, not_true_eq_false, not_false_eq_true, Nat.reduceLeDiff, Nat.reduceEqDiff, Nat.reduceLT, Nat.reduceAdd, Nat.reduceMul, Nat.reduceSub, Int.reduceLT, Int.reduceLE, Int.reduceEq, Int.reduceToNat, Int.reduceAdd, Int.reduceSub, Int.reduceMul, Int.reduceNeg, Int.cast_ofNat_Int, false_and, and_false]; exact st.1
      · simp only [hI_wI, Int.toNat_natCast, Int.natCast_nonneg, true_and, and_true, and_self, if_true, if_false, or_true, true_or, or_false, false_or, ne_eq, not_true_eq_false, not_false_eq_true, Nat.reduceLeDiff, Nat.reduceEqDiff, Nat.reduceLT, Nat.reduceAdd, Nat.reduceMul, Nat.reduceSub, Int.reduceLT, Int.reduceLE, Int.reduceEq, Int.reduceToNat, Int.reduceAdd, Int.reduceSub, Int.reduceMul, Int.reduceNeg, Int.cast_ofNat_Int, false_and, and_false]; rfl
      · simp only [hI_wI]
        rw [if_neg (by omega), if_neg (by omega)]
        unfold wpB
        rw [if_neg (by omega), if_neg (by omega)]
        exact st.2.2 g hg
    · simp only [Int.toNat_natCast, if_neg h2] at k ⊢
      rw [if_pos (by trivial)]
      refine k h (Fp.refl _ h) ?_
      rw [if_neg (by decide)]; exact st
  · simp only [if_neg h1] at k ⊢
    rw [if_pos (by trivial)]
    refine k h (Fp.refl _ h) ?_
    rw [if_neg (by decide)]; exact st
theorem S_actBold {d : Nat} {Q : Option PV → Hp → Prop} {h : Hp} {A B : Nat → Int} (x : CpF h A) {s : Nat} (hs : s = 214 ∨ s = 217) (st : StIs h s B) {g n : Int}
    (k : ∀ h', Fp (aPs s) h h' → StIs h' s (if whyB A g n = 0 then boB B g.toNat n else B) → Q (some (.inl (whyB A g n))) h') :
    WP (d + 1) mX11_actBold 0 [some (.inr (.inr 200)), some (.inr (.inr s)), some (.inl g), some (.inl n)] [] h Q := by
  have m := x.1
  have sk := Cs_sK m hs
  have s2 : 200 ≤ s + 2 := by omega
  unfold whyB at k
  simp only [rX11_actBold_0, rX11_actBold_1, rX11_actBold_2, rX11_actBold_5, rX11_actBold_8, rX11_actBold_9, rX11_actBold_12, rX11_actBold_13, rX11_actBold_15, rX11_actBold_18, rX11_actBold_19, Cs_K200 m, Int.toNat_natCast, Int.natCast_nonneg, true_and, and_true, and_self, if_true, if_false, or_true, true_or, or_false, false_or, ne_eq, not_true_eq_false, not_false_eq_true, Nat.reduceLeDiff, Nat.reduceEqDiff, Nat.reduceLT, Nat.reduceAdd, Nat.reduceMul, Nat.reduceSub, Int.reduceLT, Int.reduceLE, Int.reduceEq, Int.reduceToNat, Int.reduceAdd, Int.reduceSub, Int.reduceMul, Int.reduceNeg, Int.cast_ofNat_Int, false_and, and_false, S_cGoer x, psh_some]
  have no : ¬ ((0 ≤ g ∧ g < A 2) ∧ 0 ≤ n ∧ n ≤ 9) → Q (some (.inl 1)) h := by
    intro hn
    simp only [if_neg hn] at k
    refine k h (Fp.refl _ h) ?_
    rw [if_neg (by decide)]; exact st
  by_cases h1 : 0 ≤ g ∧ g < A 2
  · rw [if_pos h1, if_neg (by decide)]
    by_cases h2 : n < 0
    · rw [if_pos h2]; exact no (by omega)
    · rw [if_neg h2]
      by_cases h3 : 9 < n
      · rw [if_pos h3]; exact no (by omega)
      · rw [if_neg h3]
        simp only [if_pos (show (0 ≤ g ∧ g < A 2) ∧ 0 ≤ n ∧ n ≤ 9 by omega), if_true] at k
        obtain ⟨i, rfl⟩ := Int.eq_ofNat_of_zero_le h1.1
        have n6 := x.2.2.2.2.2.2.1
        simp only [rX11_actBold_20, rX11_actBold_21, rX11_actBold_24, rX11_actBold_25, rX11_actBold_26, rX11_actBold_27, rX11_actBold_28, sk.2.1, sk.2.2.2.1, sk.2.2.2.2.2, Int.toNat_natCast, Int.natCast_nonneg, true_and, and_true, and_self, if_true, if_false, or_true, true_or, or_false, false_or, ne_eq, not_true_eq_false, not_false_eq_true, Nat.reduceLeDiff, Nat.reduceEqDiff, Nat.reduceLT, Nat.reduceAdd, Nat.reduceMul, Nat.reduceSub, Int.reduceLT, Int.reduceLE, Int.reduceEq, Int.reduceToNat, Int.reduceAdd, Int.reduceSub, Int.reduceMul, Int.reduceNeg, Int.cast_ofNat_Int, false_and, and_false, s2, show (i : Int) < 6 by omega]
        refine k _ ((Fp.refl _ h).wI (by unfold aPs; omega) _) ⟨?_, ?_, fun j hj => ?_⟩
        · simp only [hI_wI]
          rw [if_neg (by omega)]
          unfold boB; rw [if_neg (by omega)]; exact st.1
        · simp only [hI_wI]
          rw [if_neg (by omega)]
          unfold boB; rw [if_neg (by omega)]; exact st.2.1
        · simp only [hI_wI, if_true, Int.toNat_natCast, true_and]
          unfold boB
          have := st.2.2 j hj
          refine ⟨?_, ?_⟩
          · rw [if_neg (by omega), if_neg (by omega)]; exact this.1
          · by_cases hji : j = i
            · rw [if_pos (by omega), if_pos (by omega)]
            · rw [if_neg (by omega), if_neg (by omega)]; exact this.2
  · rw [if_neg h1, if_pos (by trivial)]
    exact no (fun q => h1 q.1)
theorem tdiv_n {a b : Int} (h : 0 ≤ a) : a.tdiv b = a / b := Int.tdiv_eq_ediv_of_nonneg h
theorem tmod_n {a b : Int} (h : 0 ≤ a) : a.tmod b = a % b := Int.tmod_eq_emod_of_nonneg h
theorem S_act {d : Nat} {Q : Option PV → Hp → Prop} {h : Hp} {A B : Nat → Int} (x : CpF h A) {s : Nat} (hs : s = 214 ∨ s = 217) (st : StIs h s B) (ok : stOk B) {v : Int}
    (k : ∀ h', Fp (aPs s) h h' → StIs h' s (if whyD A B v = 0 then doD A B v else B) → Q (some (.inl (whyD A B v))) h') :
    WP (d + 5) mX11_act 0 [some (.inr (.inr 200)), some (.inr (.inr s)), some (.inr (.inl v)), none, none] [] h Q := by
  have m := x.1
  have no : whyD A B v = 1 → Q (some (.inl 1)) h := by
    intro hn
    rw [hn] at k
    refine k h (Fp.refl _ h) ?_
    rw [if_neg (by decide)]; exact st
  simp only [rX11_act_0, rX11_act_1, rX11_act_2, rX11_act_3, rX11_act_6, rX11_act_7, rX11_act_10, rX11_act_11, rX11_act_14, rX11_act_15, lcm_neg, lcm_pos]
  by_cases h1 : v < 0
  · rw [if_pos h1]
    exact no (by unfold whyD; rw [if_neg (by omega), if_neg (by omega), if_neg (by omega), if_neg (by omega)])
  rw [if_neg h1]
  by_cases h2 : 3099 < v
  · rw [if_pos h2]
    exact no (by unfold whyD; rw [if_neg (by omega), if_neg (by omega), if_neg (by omega), if_neg (by omega)])
  rw [if_neg h2]
  have hv : w32 v = v := w32_i (by omega) (by omega)
  simp only [rX11_act_16, rX11_act_17, rX11_act_18, rX11_act_20, rX11_act_22, rX11_act_24, hv]
  by_cases h3 : 9 < v
  · rw [if_pos h3]
    simp only [rX11_act_35, rX11_act_37, rX11_act_40, rX11_act_43, rX11_act_45, rX11_act_48]
    by_cases h4 : 1000 ≤ v ∧ v ≤ 1999
    · rw [if_neg (by omega), if_neg (by omega)]
      have e1 : w32 (v - 1000) = v - 1000 := w32_i (by omega) (by omega)
      have e2 : w32 ((v - 1000) / 100) = (v - 1000) / 100 := w32_i (by omega) (by omega)
      simp only [rX11_act_51, rX11_act_52, rX11_act_53, rX11_act_55, rX11_act_58, rX11_act_59, rX11_act_61, rX11_act_62, rX11_act_64, rX11_act_66, rX11_act_67, Cs_K200 m, Int.toNat_natCast, Int.natCast_nonneg, true_and, and_true, and_self, if_true, if_false, or_true, true_or, or_false, false_or, ne_eq, not_true_eq_false, not_false_eq_true, Nat.reduceLeDiff, Nat.reduceEqDiff, Nat.reduceLT, Nat.reduceAdd, Nat.reduceMul, Nat.reduceSub, Int.reduceLT, Int.reduceLE, Int.reduceEq, Int.reduceToNat, Int.reduceAdd, Int.reduceSub, Int.reduceMul, Int.reduceNeg, Int.cast_ofNat_Int, false_and, and_false, e1, tdiv_n (a := v - 1000) (b := 100) (by omega), tmod_n (a := v) (b := 100) (by omega), e2]
      have ew : whyD A B v = whyS A B ((v - 1000) / 100) (v % 100) := by unfold whyD; rw [if_neg (by omega), if_pos h4]
      have ed : doD A B v = syB A B ((v - 1000) / 100).toNat (v % 100) := by unfold doD; rw [if_neg (by omega), if_pos (by omega)]
      rw [ew, ed] at k
      refine S_actSay x hs st ok ?_
      intro h' f s' _
      simp only [psh_some, rX11_act_70]
      exact k h' f s'
    · have e : (if v < 1000 then WP (d + 5) mX11_act 71 [some (.inr (.inr 200)), some (.inr (.inr s)), some (.inr (.inl v)), none, some (.inl v)] [] h Q else if 1999 < v then WP (d + 5) mX11_act 71 [some (.inr (.inr 200)), some (.inr (.inr s)), some (.inr (.inl v)), none, some (.inl v)] [] h Q else WP (d + 5) mX11_act 51 [some (.inr (.inr 200)), some (.inr (.inr s)), some (.inr (.inl v)), none, some (.inl v)] [] h Q) = WP (d + 5) mX11_act 71 [some (.inr (.inr 200)), some (.inr (.inr s)), some (.inr (.inl v)), none, some (.inl v)] [] h Q := by
        by_cases h5 : v < 1000
        · rw [if_pos h5]
        · rw [if_neg h5, if_pos (by omega)]
      rw [e]
      simp only [rX11_act_71, rX11_act_73, rX11_act_76, rX11_act_79, rX11_act_81, rX11_act_84]
      by_cases h5 : 2000 ≤ v ∧ v ≤ 2009
      · rw [if_neg (by omega), if_neg (by omega)]
        have e1 : w32 (v - 2000) = v - 2000 := w32_i (by omega) (by omega)
        simp only [rX11_act_87, rX11_act_88, rX11_act_89, rX11_act_91, rX11_act_94, rX11_act_95, Cs_K200 m, Int.toNat_natCast, Int.natCast_nonneg, true_and, and_true, and_self, if_true, if_false, or_true, true_or, or_false, false_or, ne_eq, not_true_eq_false, not_false_eq_true, Nat.reduceLeDiff, Nat.reduceEqDiff, Nat.reduceLT, Nat.reduceAdd, Nat.reduceMul, Nat.reduceSub, Int.reduceLT, Int.reduceLE, Int.reduceEq, Int.reduceToNat, Int.reduceAdd, Int.reduceSub, Int.reduceMul, Int.reduceNeg, Int.cast_ofNat_Int, false_and, and_false, e1]
        have ew : whyD A B v = whyW A B (v - 2000) := by unfold whyD; rw [if_neg (by omega), if_neg (by omega), if_pos h5]
        have ed : doD A B v = wpB B (v - 2000).toNat := by unfold doD; rw [if_neg (by omega), if_neg (by omega), if_pos (by omega)]
        rw [ew, ed] at k
        refine S_actWipe (d := d + 3) x hs st ok ?_
        intro h' f s'
        simp only [psh_some, rX11_act_98]
        exact k h' f s'
      · have e : (if v < 2000 then WP (d + 5) mX11_act 99 [some (.inr (.inr 200)), some (.inr (.inr s)), some (.inr (.inl v)), none, some (.inl v)] [] h Q else if 2009 < v then WP (d + 5) mX11_act 99 [some (.inr (.inr 200)), some (.inr (.inr s)), some (.inr (.inl v)), none, some (.inl v)] [] h Q else WP (d + 5) mX11_act 87 [some (.inr (.inr 200)), some (.inr (.inr s)), some (.inr (.inl v)), none, some (.inl v)] [] h Q) = WP (d + 5) mX11_act 99 [some (.inr (.inr 200)), some (.inr (.inr s)), some (.inr (.inl v)), none, some (.inl v)] [] h Q := by
          by_cases h6 : v < 2000
          · rw [if_pos h6]
          · rw [if_neg h6, if_pos (by omega)]
        rw [e]
        simp only [rX11_act_99, rX11_act_101, rX11_act_104]
        by_cases h6 : v < 3000
        · rw [if_pos h6]
          simp only [rX11_act_127, rX11_act_128]
          exact no (by unfold whyD; rw [if_neg (by omega), if_neg (by omega), if_neg (by omega), if_neg (by omega)])
        · rw [if_neg h6]
          have e1 : w32 (v - 3000) = v - 3000 := w32_i (by omega) (by omega)
          have e2 : w32 ((v - 3000) / 10) = (v - 3000) / 10 := w32_i (by omega) (by omega)
          simp only [rX11_act_107, rX11_act_108, rX11_act_109, rX11_act_111, rX11_act_114, rX11_act_115, rX11_act_117, rX11_act_118, rX11_act_120, rX11_act_122, rX11_act_123, Cs_K200 m, Int.toNat_natCast, Int.natCast_nonneg, true_and, and_true, and_self, if_true, if_false, or_true, true_or, or_false, false_or, ne_eq, not_true_eq_false, not_false_eq_true, Nat.reduceLeDiff, Nat.reduceEqDiff, Nat.reduceLT, Nat.reduceAdd, Nat.reduceMul, Nat.reduceSub, Int.reduceLT, Int.reduceLE, Int.reduceEq, Int.reduceToNat, Int.reduceAdd, Int.reduceSub, Int.reduceMul, Int.reduceNeg, Int.cast_ofNat_Int, false_and, and_false, e1, tdiv_n (a := v - 3000) (b := 10) (by omega), tmod_n (a := v) (b := 10) (by omega), e2]
          have ew : whyD A B v = whyB A ((v - 3000) / 10) (v % 10) := by unfold whyD; rw [if_neg (by omega), if_neg (by omega), if_neg (by omega), if_pos (by omega)]
          have ed : doD A B v = boB B ((v - 3000) / 10).toNat (v % 10) := by unfold doD; rw [if_neg (by omega), if_neg (by omega), if_neg (by omega)]
          rw [ew, ed] at k
          refine S_actBold (d := d + 3) x hs st ?_
          intro h' f s'
          simp only [psh_some, rX11_act_126]
          exact k h' f s'
  · rw [if_neg h3]
    simp only [rX11_act_27, rX11_act_28, rX11_act_29, rX11_act_31, Cs_K200 m, Int.toNat_natCast, Int.natCast_nonneg, true_and, and_true, and_self, if_true, if_false, or_true, true_or, or_false, false_or, ne_eq, not_true_eq_false, not_false_eq_true, Nat.reduceLeDiff, Nat.reduceEqDiff, Nat.reduceLT, Nat.reduceAdd, Nat.reduceMul, Nat.reduceSub, Int.reduceLT, Int.reduceLE, Int.reduceEq, Int.reduceToNat, Int.reduceAdd, Int.reduceSub, Int.reduceMul, Int.reduceNeg, Int.cast_ofNat_Int, false_and, and_false]
    have ew : whyD A B v = whyV A v := by unfold whyD; rw [if_pos (by omega)]
    have ed : doD A B v = dvB A B v.toNat := by unfold doD; rw [if_pos (by omega)]
    rw [ew, ed] at k
    refine S_actDive x hs st ok ?_
    intro h' f s' _
    simp only [psh_some, rX11_act_34]
    exact k h' f s'
theorem doD_ok {A B : Nat → Int} (po : poolOk A) (so : stOk B) {v : Int} (h : whyD A B v = 0) : stOk (doD A B v) := by
  have g6 := po.2.2.2.1
  unfold whyD at h
  by_cases h1 : 0 ≤ v ∧ v ≤ 9
  · rw [if_pos h1] at h
    unfold whyV at h
    have : 0 ≤ v ∧ v < A 2 := by
      by_cases q : 0 ≤ v ∧ v < A 2
      · exact q
      · rw [if_neg q] at h; exact absurd h (by decide)
    unfold doD; rw [if_pos (by omega)]
    exact dvB_ok po so (by omega)
  rw [if_neg h1] at h
  by_cases h2 : 1000 ≤ v ∧ v ≤ 1999
  · rw [if_pos h2] at h
    unfold whyS at h
    by_cases q : (0 ≤ (v - 1000) / 100 ∧ (v - 1000) / 100 < A 2) ∧ 0 ≤ v % 100 ∧ v % 100 ≤ 99
    · unfold doD; rw [if_neg (by omega), if_pos (by omega)]
      exact syB_ok po so (by omega) q.2.1 q.2.2
    · rw [if_neg q] at h; exact absurd h (by decide)
  rw [if_neg h2] at h
  by_cases h3 : 2000 ≤ v ∧ v ≤ 2009
  · unfold doD; rw [if_neg (by omega), if_neg (by omega), if_pos (by omega)]
    exact wpB_ok so
  rw [if_neg h3] at h
  by_cases h4 : 3000 ≤ v ∧ v ≤ 3099
  · unfold doD; rw [if_neg (by omega), if_neg (by omega), if_neg (by omega)]
    exact boB_ok so (by omega) (by omega)
  · rw [if_neg h4] at h; exact absurd h (by decide)
