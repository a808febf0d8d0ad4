/-! breath, boldness, undone -/
def brB (B : Nat → Int) (g : Nat) (n : Int) : Nat → Int := fun k => if k = 2 + g then n else B k
theorem brB_ok {B : Nat → Int} (so : stOk B) {g : Nat} (hg : g < 6) {n : Int} (h0 : 0 ≤ n) (h9 : n ≤ 99) : stOk (brB B g n) := by
  obtain ⟨o1, o2, o3, o4, o5⟩ := so
  refine ⟨?_, ?_, ?_, ?_, fun g' hg' => ?_⟩
  · unfold brB; rw [if_neg (by omega)]; exact o1
  · unfold brB; rw [if_neg (by omega)]; exact o2
  · unfold brB; rw [if_neg (by omega)]; exact o3
  · unfold brB; rw [if_neg (by omega)]; exact o4
  · have := o5 g' hg'
    unfold brB
    rw [if_neg (show ¬ (8 + g' = 2 + g) by omega)]
    refine ⟨?_, ?_, this.2.2⟩
    · split <;> omega
    · split <;> omega
def brC (A : Nat → Int) (g n : Int) : Prop := (0 ≤ g ∧ g < A 2) ∧ 0 ≤ n ∧ n ≤ 99
set_option maxHeartbeats 1000000 in
theorem C_breath {d : Nat} {σ : AS} {g n : Int} : CSpec (d + 3) mX11_breath [some (.inr (.inr 200)), some (.inl g), some (.inl n), none] σ (.inl (if (0 ≤ g ∧ g < sA σ 2) ∧ 0 ≤ n ∧ n ≤ 99 then stA (sA σ) (2 + g.toNat) else -11)) (if (0 ≤ g ∧ g < sA σ 2) ∧ 0 ≤ n ∧ n ≤ 99 then nS σ (brB (stA (sA σ)) g.toNat n) else σ) := by
  intro h Q x w k
  have m := x.1.1
  have no : ¬ ((0 ≤ g ∧ g < sA σ 2) ∧ 0 ≤ n ∧ n ≤ 99) → Q (some (.inl (-11))) h := by
    intro hn
    simp only [if_neg hn] at k
    exact k h x (Cfr.refl h)
  simp only [rX11_breath_0, rX11_breath_1, rX11_breath_2, rX11_breath_5, rX11_breath_8, rX11_breath_9, rX11_breath_12, rX11_breath_13, rX11_breath_15, rX11_breath_18, rX11_breath_20, Cs_K200 m, Int.toNat_natCast, Int.natCast_nonneg, true_and, and_true, and_self, if_true, if_false, or_true, true_or, or_false, false_or, ne_eq, not_true_eq_false, not_false_eq_true, Nat.reduceLeDiff, Nat.reduceEqDiff, Nat.reduceLT, Nat.reduceAdd, Nat.reduceMul, Nat.reduceSub, Int.reduceLT, Int.reduceLE, Int.reduceEq, Int.reduceToNat, Int.reduceAdd, Int.reduceSub, Int.reduceMul, Int.reduceNeg, Int.cast_ofNat_Int, false_and, and_false, S_cGoer (x.cp w), psh_some]
  by_cases h1 : 0 ≤ g ∧ g < sA σ 2
  · rw [if_pos h1, if_neg (by decide)]
    by_cases h2 : n < 0
    · rw [if_pos h2]; exact no (by omega)
    · rw [if_neg h2]
      by_cases h3 : 99 < n
      · rw [if_pos h3]; exact no (by omega)
      · rw [if_neg h3]
        simp only [if_pos (show (0 ≤ g ∧ g < sA σ 2) ∧ 0 ≤ n ∧ n ≤ 99 by omega)] at k
        obtain ⟨i, rfl⟩ := Int.eq_ofNat_of_zero_le h1.1
        have n6 := w.1.2.2.2.1
        simp only [rX11_breath_21, rX11_breath_22, rX11_breath_25, rX11_breath_26, rX11_breath_29, Cs_K200 m, Cs_R200_0 m, Cs_R200_1 m, Cs_R200_2 m, Cs_R200_3 m, Cs_R200_4 m, Cs_R200_5 m, Cs_R200_6 m, Cs_K201 m, Cs_R201_0 m, Cs_R201_1 m, Cs_K202 m, Cs_K203 m, Cs_K211 m, Cs_R211_0 m, Cs_R211_1 m, Cs_K212 m, Cs_K213 m, Cs_K214 m, Cs_R214_0 m, Cs_R214_1 m, Cs_K215 m, Cs_K216 m, Cs_K217 m, Cs_R217_0 m, Cs_R217_1 m, Cs_K218 m, Cs_K219 m, Cs_K220 m, Cs_R220_0 m, Cs_K221 m, Cs_K262 m, Cs_K271 m, Cs_R271_0 m, Cs_R271_1 m, Cs_K272 m, Cs_K276 m, Cs_R272_0 m, Cs_R276_0 m, Cs_K273 m, Cs_R273_0 m, Cs_R273_1 m, Cs_K274 m, Cs_K275 m, Cs_K277 m, Cs_R277_0 m, Cs_R277_1 m, Cs_K278 m, Cs_K279 m, Cs_R262_0 m, Cs_K263 m, Cs_R263_0 m, Cs_K264 m, Cs_R262_1 m, Cs_K265 m, Cs_R265_0 m, Cs_K266 m, Cs_R262_2 m, Cs_K267 m, Cs_R267_0 m, Cs_K268 m, Cs_R262_3 m, Cs_K269 m, Cs_R269_0 m, Cs_K270 m, Int.toNat_natCast, Int.natCast_nonneg, true_and, and_true, and_self, if_true, if_false, or_true, true_or, or_false, false_or, ne_eq, not_true_eq_false, not_false_eq_true, Nat.reduceLeDiff, Nat.reduceEqDiff, Nat.reduceLT, Nat.reduceAdd, Nat.reduceMul, Nat.reduceSub, Int.reduceLT, Int.reduceLE, Int.reduceEq, Int.reduceToNat, Int.reduceAdd, Int.reduceSub, Int.reduceMul, Int.reduceNeg, Int.cast_ofNat_Int, false_and, and_false]
        refine S_markNow (d := d + 1) x w ?_
        intro h1 f1 mk1 c1 s1 x1
        have m1 := x1.1.1
        simp only [psh_none, rX11_breath_32, rX11_breath_33, rX11_breath_36, Cs_K200 m1, Cs_R200_0 m1, Cs_R200_1 m1, Cs_R200_2 m1, Cs_R200_3 m1, Cs_R200_4 m1, Cs_R200_5 m1, Cs_R200_6 m1, Cs_K201 m1, Cs_R201_0 m1, Cs_R201_1 m1, Cs_K202 m1, Cs_K203 m1, Cs_K211 m1, Cs_R211_0 m1, Cs_R211_1 m1, Cs_K212 m1, Cs_K213 m1, Cs_K214 m1, Cs_R214_0 m1, Cs_R214_1 m1, Cs_K215 m1, Cs_K216 m1, Cs_K217 m1, Cs_R217_0 m1, Cs_R217_1 m1, Cs_K218 m1, Cs_K219 m1, Cs_K220 m1, Cs_R220_0 m1, Cs_K221 m1, Cs_K262 m1, Cs_K271 m1, Cs_R271_0 m1, Cs_R271_1 m1, Cs_K272 m1, Cs_K276 m1, Cs_R272_0 m1, Cs_R276_0 m1, Cs_K273 m1, Cs_R273_0 m1, Cs_R273_1 m1, Cs_K274 m1, Cs_K275 m1, Cs_K277 m1, Cs_R277_0 m1, Cs_R277_1 m1, Cs_K278 m1, Cs_K279 m1, Cs_R262_0 m1, Cs_K263 m1, Cs_R263_0 m1, Cs_K264 m1, Cs_R262_1 m1, Cs_K265 m1, Cs_R265_0 m1, Cs_K266 m1, Cs_R262_2 m1, Cs_K267 m1, Cs_R267_0 m1, Cs_K268 m1, Cs_R262_3 m1, Cs_K269 m1, Cs_R269_0 m1, Cs_K270 m1, Int.toNat_natCast, Int.natCast_nonneg, true_and, and_true, and_self, if_true, if_false, or_true, true_or, or_false, false_or, ne_eq, not_true_eq_false, not_false_eq_true, Nat.reduceLeDiff, Nat.reduceEqDiff, Nat.reduceLT, Nat.reduceAdd, Nat.reduceMul, Nat.reduceSub, Int.reduceLT, Int.reduceLE, Int.reduceEq, Int.reduceToNat, Int.reduceAdd, Int.reduceSub, Int.reduceMul, Int.reduceNeg, Int.cast_ofNat_Int, false_and, and_false]
        have e47 := put_hi (sA σ) (brB (stA (sA σ)) i n) 47 (by omega)
        refine S_keep (d := d + 1) m1 (mk1.of (A' := putS (sA σ) (brB (stA (sA σ)) i n)) (put_hi _ _)) (by rw [e47]; exact w.2.2.1) (by rw [e47]; exact w.2.2.2.1) ?_
        intro h2 f2 p2
        have m2 := m1.fr f2
        have s2 := s1.fp f2 (fun a k h1 h2 => by omega)
        have e := (s2.2.2 i (by omega)).1
        simp only [psh_none, rX11_breath_39, rX11_breath_40, rX11_breath_43, rX11_breath_46, rX11_breath_47, rX11_breath_48, rX11_breath_49, rX11_breath_50, rX11_breath_53, rX11_breath_56, rX11_breath_57, rX11_breath_58, rX11_breath_59, rX11_breath_60, hN_wI, hN_wJ, hN_wR, hS_wI, hS_wJ, hS_wR, hK_wI, hK_wJ, hK_wR, hI_wI, hI_wJ, hI_wR, hJ_wI, hJ_wJ, hJ_wR, hR_wI, hR_wJ, hR_wR, hN_nw, hS_nw, hK_nw, hI_nw, hJ_nw, hR_nw, psh_some, psh_none, Cs_K200 m2, Cs_R200_0 m2, Cs_R200_1 m2, Cs_R200_2 m2, Cs_R200_3 m2, Cs_R200_4 m2, Cs_R200_5 m2, Cs_R200_6 m2, Cs_K201 m2, Cs_R201_0 m2, Cs_R201_1 m2, Cs_K202 m2, Cs_K203 m2, Cs_K211 m2, Cs_R211_0 m2, Cs_R211_1 m2, Cs_K212 m2, Cs_K213 m2, Cs_K214 m2, Cs_R214_0 m2, Cs_R214_1 m2, Cs_K215 m2, Cs_K216 m2, Cs_K217 m2, Cs_R217_0 m2, Cs_R217_1 m2, Cs_K218 m2, Cs_K219 m2, Cs_K220 m2, Cs_R220_0 m2, Cs_K221 m2, Cs_K262 m2, Cs_K271 m2, Cs_R271_0 m2, Cs_R271_1 m2, Cs_K272 m2, Cs_K276 m2, Cs_R272_0 m2, Cs_R276_0 m2, Cs_K273 m2, Cs_R273_0 m2, Cs_R273_1 m2, Cs_K274 m2, Cs_K275 m2, Cs_K277 m2, Cs_R277_0 m2, Cs_R277_1 m2, Cs_K278 m2, Cs_K279 m2, Cs_R262_0 m2, Cs_K263 m2, Cs_R263_0 m2, Cs_K264 m2, Cs_R262_1 m2, Cs_K265 m2, Cs_R265_0 m2, Cs_K266 m2, Cs_R262_2 m2, Cs_K267 m2, Cs_R267_0 m2, Cs_K268 m2, Cs_R262_3 m2, Cs_K269 m2, Cs_R269_0 m2, Cs_K270 m2, Int.toNat_natCast, Int.natCast_nonneg, true_and, and_true, and_self, if_true, if_false, or_true, true_or, or_false, false_or, ne_eq, not_true_eq_false, not_false_eq_true, Nat.reduceLeDiff, Nat.reduceEqDiff, Nat.reduceLT, Nat.reduceAdd, Nat.reduceMul, Nat.reduceSub, Int.reduceLT, Int.reduceLE, Int.reduceEq, Int.reduceToNat, Int.reduceAdd, Int.reduceSub, Int.reduceMul, Int.reduceNeg, Int.cast_ofNat_Int, false_and, and_false, show (i : Int) < 6 by omega, e]
        have f3 : Fp (fun a _ => a = 215) h2 (wI h2 215 i n) := (Fp.refl (fun a _ => a = 215) h2).wI rfl _
        have fd := ((f1.mono (P' := dP) (fun a k q => rgP_d q)).trans (f2.mono (fun a k q => e220_d q))).trans (f3.mono (fun a k q => by unfold dP; omega))
        refine k _ (C_fin x w fd ⟨?_, ?_, fun j hj => ?_⟩ ?_) (Cfr_d fd)
        · rw [f3.I (by omega), s2.1]; unfold brB; rw [Int.toNat_natCast, if_neg (by omega)]
        · rw [f3.I (by omega), s2.2.1]; unfold brB; rw [Int.toNat_natCast, if_neg (by omega)]
        · have := s2.2.2 j hj
          rw [Int.toNat_natCast]
          refine ⟨?_, ?_⟩
          · rw [hI_wI]
            unfold brB
            by_cases hji : j = i
            · rw [if_pos (by omega), if_pos (by omega)]
            · rw [if_neg (by omega), if_neg (by omega)]; exact this.1
          · rw [hI_wI, if_neg (by omega)]
            unfold brB
            rw [if_neg (by omega)]; exact this.2
        · rw [Int.toNat_natCast]
          obtain ⟨top, t1, t2, t3, t4⟩ := p2
          refine ⟨top, t1, by rw [f3.I (by omega)]; exact t2, by rw [f3.I (by omega)]; exact t3, fun q hq => (t4 q hq).fp f3 (fun a k h1 h2 => ?_)⟩
          have := Nat.mod_lt (top + 11 - (ntA (putS (sA σ) (brB (stA (sA σ)) i n)) (stA (sA σ)) 47).toNat + q) (show 0 < 11 by omega)
          omega
  · rw [if_neg h1, if_pos (by trivial)]
    exact no (fun q => h1 q.1)
set_option maxHeartbeats 1000000 in
theorem R_breath {d : Nat} {σ : AS} {g n : Int} : RSpec (d + 3) mX12_breath [some (.inr (.inr 294)), some (.inl g), some (.inl n)] σ (.inl (if (0 ≤ g ∧ g < sA σ 2) ∧ 0 ≤ n ∧ n ≤ 99 then stA (sA σ) (2 + g.toNat) else -11)) (if (0 ≤ g ∧ g < sA σ 2) ∧ 0 ≤ n ∧ n ≤ 99 then nS σ (brB (stA (sA σ)) g.toNat n) else σ) := by
  refine RSpec5.of ?_ (fun h Q hk => by simp only [rX12_breath_0, rX12_breath_1, rX12_breath_2, hk, Int.toNat_natCast, Int.natCast_nonneg, true_and, and_true, and_self, if_true, if_false, or_true, true_or, or_false, false_or, ne_eq, not_true_eq_false, not_false_eq_true, Nat.reduceLeDiff, Nat.reduceEqDiff, Nat.reduceLT, Nat.reduceAdd, Nat.reduceMul, Nat.reduceSub, Int.reduceLT, Int.reduceLE, Int.reduceEq, Int.reduceToNat, Int.reduceAdd, Int.reduceSub, Int.reduceMul, Int.reduceNeg, Int.cast_ofNat_Int, false_and, and_false])
  intro h Q x w k
  have m := x.1
  have rs := x.rs w
  have no : ¬ ((0 ≤ g ∧ g < sA σ 2) ∧ 0 ≤ n ∧ n ≤ 99) → Q (some (.inl (-11))) h := by
    intro hn
    simp only [if_neg hn] at k
    exact k h x (Fp.refl _ h)
  simp only [rX12_breath_5, rX12_breath_6, rX12_breath_7, rX12_breath_8, rX12_breath_11, rX12_breath_14, rX12_breath_15, rX12_breath_16, rX12_breath_17, rX12_breath_20, rX12_breath_23, rX12_breath_26, rX12_breath_28, Md_K280 m, Md_R281 m, Md_K281 m, Md_R282 m, Md_K282 m, Md_R283 m, Md_K283 m, Md_R284 m, Md_K284 m, Md_R285 m, Md_K285 m, Md_R286 m, Md_K286 m, Md_R287 m, Md_K287 m, Md_R288 m, Md_K288 m, Md_R289 m, Md_K289 m, Md_R290 m, Md_K290 m, Md_R291 m, Md_K291 m, Md_R292 m, Md_K292 m, Md_R293 m, Md_K293 m, Md_R294 m, Md_K294 m, Md_R295 m, Md_K295 m, Md_R296 m, Md_K296 m, Md_R297 m, Md_K297 m, Md_R298 m, Md_K298 m, Md_R299 m, Md_K299 m, Int.toNat_natCast, Int.natCast_nonneg, true_and, and_true, and_self, if_true, if_false, or_true, true_or, or_false, false_or, ne_eq, not_true_eq_false, not_false_eq_true, Nat.reduceLeDiff, Nat.reduceEqDiff, Nat.reduceLT, Nat.reduceAdd, Nat.reduceMul, Nat.reduceSub, Int.reduceLT, Int.reduceLE, Int.reduceEq, Int.reduceToNat, Int.reduceAdd, Int.reduceSub, Int.reduceMul, Int.reduceNeg, Int.cast_ofNat_Int, false_and, and_false, S_rGoer' rs, S_within, psh_some]
  by_cases h1 : 0 ≤ g ∧ g < sA σ 2
  · rw [if_pos h1, if_neg (by decide)]
    by_cases h2 : 0 ≤ n ∧ n ≤ 99
    · rw [if_pos h2, if_neg (by decide)]
      simp only [if_pos (And.intro h1 h2)] at k
      obtain ⟨i, rfl⟩ := Int.eq_ofNat_of_zero_le h1.1
      have n6 := w.1.2.2.2.1
      simp only [Int.toNat_natCast] at k
      simp only [rX12_breath_29, rX12_breath_30, Md_K280 m, Md_R281 m, Md_K281 m, Md_R282 m, Md_K282 m, Md_R283 m, Md_K283 m, Md_R284 m, Md_K284 m, Md_R285 m, Md_K285 m, Md_R286 m, Md_K286 m, Md_R287 m, Md_K287 m, Md_R288 m, Md_K288 m, Md_R289 m, Md_K289 m, Md_R290 m, Md_K290 m, Md_R291 m, Md_K291 m, Md_R292 m, Md_K292 m, Md_R293 m, Md_K293 m, Md_R294 m, Md_K294 m, Md_R295 m, Md_K295 m, Md_R296 m, Md_K296 m, Md_R297 m, Md_K297 m, Md_R298 m, Md_K298 m, Md_R299 m, Md_K299 m, Int.toNat_natCast, Int.natCast_nonneg, true_and, and_true, and_self, if_true, if_false, or_true, true_or, or_false, false_or, ne_eq, not_true_eq_false, not_false_eq_true, Nat.reduceLeDiff, Nat.reduceEqDiff, Nat.reduceLT, Nat.reduceAdd, Nat.reduceMul, Nat.reduceSub, Int.reduceLT, Int.reduceLE, Int.reduceEq, Int.reduceToNat, Int.reduceAdd, Int.reduceSub, Int.reduceMul, Int.reduceNeg, Int.cast_ofNat_Int, false_and, and_false]
      refine S_keeps rs ?_
      intro h2' f2 e2
      have rs2 := rs.ke f2
      have m2 := rs2.1
      simp only [psh_none, rX12_breath_33, rX12_breath_34, rX12_breath_37, rX12_breath_39, rX12_breath_40, rX12_breath_41, rX12_breath_42, rX12_breath_43, rX12_breath_44, hN_wI, hN_wJ, hN_wR, hS_wI, hS_wJ, hS_wR, hK_wI, hK_wJ, hK_wR, hI_wI, hI_wJ, hI_wR, hJ_wI, hJ_wJ, hJ_wR, hR_wI, hR_wJ, hR_wR, hN_nw, hS_nw, hK_nw, hI_nw, hJ_nw, hR_nw, psh_some, psh_none, Md_K280 m2, Md_R281 m2, Md_K281 m2, Md_R282 m2, Md_K282 m2, Md_R283 m2, Md_K283 m2, Md_R284 m2, Md_K284 m2, Md_R285 m2, Md_K285 m2, Md_R286 m2, Md_K286 m2, Md_R287 m2, Md_K287 m2, Md_R288 m2, Md_K288 m2, Md_R289 m2, Md_K289 m2, Md_R290 m2, Md_K290 m2, Md_R291 m2, Md_K291 m2, Md_R292 m2, Md_K292 m2, Md_R293 m2, Md_K293 m2, Md_R294 m2, Md_K294 m2, Md_R295 m2, Md_K295 m2, Md_R296 m2, Md_K296 m2, Md_R297 m2, Md_K297 m2, Md_R298 m2, Md_K298 m2, Md_R299 m2, Md_K299 m2, Int.toNat_natCast, Int.natCast_nonneg, true_and, and_true, and_self, if_true, if_false, or_true, true_or, or_false, false_or, ne_eq, not_true_eq_false, not_false_eq_true, Nat.reduceLeDiff, Nat.reduceEqDiff, Nat.reduceLT, Nat.reduceAdd, Nat.reduceMul, Nat.reduceSub, Int.reduceLT, Int.reduceLE, Int.reduceEq, Int.reduceToNat, Int.reduceAdd, Int.reduceSub, Int.reduceMul, Int.reduceNeg, Int.cast_ofNat_Int, false_and, and_false, w32_la (l := i) 35 (35 + i) (by omega) (by omega)]
      refine ⟨by omega, ?_⟩
      have f3 : Fp zP h2' (wI h2' 295 (35 + i) n) := (Fp.refl zP _).wI (by unfold zP; omega) _
      have rs3 : RS (wI h2' 295 (35 + i) n) (sA σ) (brB (stA (sA σ)) i n) := rs2.put f3 (brB_ok w.2.1 (by omega) h2.1 h2.2) (fun j hj => by
        rw [hI_wI]
        unfold brB
        by_cases hji : j = 2 + i
        · rw [if_pos (by omega), if_pos hji]
        · rw [if_neg (by omega), if_neg hji]; exact rs2.b hj)
      have fq := (f2.mono (P' := qP) (fun a k q => keP_q q)).trans (f3.mono (fun a k q => zP_q q))
      have e3 : ∀ j, j < 14 → hI (wI h2' 295 (35 + i) n) 301 j = stA (sA σ) j := fun j hj => by rw [f3.I (by unfold zP lP; omega)]; exact e2 j hj
      refine S_notesNow x w fq rs3 e3 ?_
      intro h4 x4 f4 g4
      have m4 := x4.1
      have e : hI h4 301 (2 + i) = stA (sA σ) (2 + i) := by rw [g4.I (by unfold ntP; omega)]; exact e3 _ (by omega)
      simp only [psh_none, rX12_breath_47, rX12_breath_48, rX12_breath_51, rX12_breath_52, rX12_breath_53, rX12_breath_54, rX12_breath_55, Md_K280 m4, Md_R281 m4, Md_K281 m4, Md_R282 m4, Md_K282 m4, Md_R283 m4, Md_K283 m4, Md_R284 m4, Md_K284 m4, Md_R285 m4, Md_K285 m4, Md_R286 m4, Md_K286 m4, Md_R287 m4, Md_K287 m4, Md_R288 m4, Md_K288 m4, Md_R289 m4, Md_K289 m4, Md_R290 m4, Md_K290 m4, Md_R291 m4, Md_K291 m4, Md_R292 m4, Md_K292 m4, Md_R293 m4, Md_K293 m4, Md_R294 m4, Md_K294 m4, Md_R295 m4, Md_K295 m4, Md_R296 m4, Md_K296 m4, Md_R297 m4, Md_K297 m4, Md_R298 m4, Md_K298 m4, Md_R299 m4, Md_K299 m4, Int.toNat_natCast, Int.natCast_nonneg, true_and, and_true, and_self, if_true, if_false, or_true, true_or, or_false, false_or, ne_eq, not_true_eq_false, not_false_eq_true, Nat.reduceLeDiff, Nat.reduceEqDiff, Nat.reduceLT, Nat.reduceAdd, Nat.reduceMul, Nat.reduceSub, Int.reduceLT, Int.reduceLE, Int.reduceEq, Int.reduceToNat, Int.reduceAdd, Int.reduceSub, Int.reduceMul, Int.reduceNeg, Int.cast_ofNat_Int, false_and, and_false, w32_la (l := i) 2 (2 + i) (by omega) (by omega), e]
      refine ⟨by omega, ?_⟩
      exact k h4 x4 f4
    · rw [if_neg h2, if_pos (by trivial)]
      exact no (fun q => h2 q.2)
  · rw [if_neg h1, if_pos (by trivial)]
    exact no (fun q => h1 q.1)
set_option maxHeartbeats 1000000 in
theorem C_bold {d : Nat} {σ : AS} {g n : Int} : CSpec (d + 3) mX11_bold [some (.inr (.inr 200)), some (.inl g), some (.inl n), none, none] σ (.inl (if whyB (sA σ) g n = 0 then stA (sA σ) (8 + g.toNat) else -11)) (if whyB (sA σ) g n = 0 then nS σ (boB (stA (sA σ)) g.toNat n) else σ) := by
  intro h Q x w k
  have m := x.1.1
  have c := x.cp w
  have n6 := w.1.2.2.2.1
  have e0 : ∀ (z : Int), (0 ≤ g ∧ g < sA σ 2 → z = stA (sA σ) (8 + g.toNat)) → WP (d + 3) mX11_bold 22 [some (.inr (.inr 200)), some (.inl g), some (.inl n), some (.inl z), none] [] h Q := by
    intro z hz
    simp only [rX11_bold_22, rX11_bold_23, rX11_bold_26, rX11_bold_27, rX11_bold_30, Cs_K200 m, Cs_R200_0 m, Cs_R200_1 m, Cs_R200_2 m, Cs_R200_3 m, Cs_R200_4 m, Cs_R200_5 m, Cs_R200_6 m, Cs_K201 m, Cs_R201_0 m, Cs_R201_1 m, Cs_K202 m, Cs_K203 m, Cs_K211 m, Cs_R211_0 m, Cs_R211_1 m, Cs_K212 m, Cs_K213 m, Cs_K214 m, Cs_R214_0 m, Cs_R214_1 m, Cs_K215 m, Cs_K216 m, Cs_K217 m, Cs_R217_0 m, Cs_R217_1 m, Cs_K218 m, Cs_K219 m, Cs_K220 m, Cs_R220_0 m, Cs_K221 m, Cs_K262 m, Cs_K271 m, Cs_R271_0 m, Cs_R271_1 m, Cs_K272 m, Cs_K276 m, Cs_R272_0 m, Cs_R276_0 m, Cs_K273 m, Cs_R273_0 m, Cs_R273_1 m, Cs_K274 m, Cs_K275 m, Cs_K277 m, Cs_R277_0 m, Cs_R277_1 m, Cs_K278 m, Cs_K279 m, Cs_R262_0 m, Cs_K263 m, Cs_R263_0 m, Cs_K264 m, Cs_R262_1 m, Cs_K265 m, Cs_R265_0 m, Cs_K266 m, Cs_R262_2 m, Cs_K267 m, Cs_R267_0 m, Cs_K268 m, Cs_R262_3 m, Cs_K269 m, Cs_R269_0 m, Cs_K270 m, Int.toNat_natCast, Int.natCast_nonneg, true_and, and_true, and_self, if_true, if_false, or_true, true_or, or_false, false_or, ne_eq, not_true_eq_false, not_false_eq_true, Nat.reduceLeDiff, Nat.reduceEqDiff, Nat.reduceLT, Nat.reduceAdd, Nat.reduceMul, Nat.reduceSub, Int.reduceLT, Int.reduceLE, Int.reduceEq, Int.reduceToNat, Int.reduceAdd, Int.reduceSub, Int.reduceMul, Int.reduceNeg, Int.cast_ofNat_Int, false_and, and_false]
    refine S_markNow (d := d + 1) x w ?_
    intro h1 f1 mk1 c1 s1 x1
    have m1 := x1.1.1
    simp only [psh_none, rX11_bold_33, rX11_bold_34, rX11_bold_35, rX11_bold_38, rX11_bold_39, rX11_bold_40, Cs_K200 m1, Cs_R200_0 m1, Cs_R200_1 m1, Cs_R200_2 m1, Cs_R200_3 m1, Cs_R200_4 m1, Cs_R200_5 m1, Cs_R200_6 m1, Cs_K201 m1, Cs_R201_0 m1, Cs_R201_1 m1, Cs_K202 m1, Cs_K203 m1, Cs_K211 m1, Cs_R211_0 m1, Cs_R211_1 m1, Cs_K212 m1, Cs_K213 m1, Cs_K214 m1, Cs_R214_0 m1, Cs_R214_1 m1, Cs_K215 m1, Cs_K216 m1, Cs_K217 m1, Cs_R217_0 m1, Cs_R217_1 m1, Cs_K218 m1, Cs_K219 m1, Cs_K220 m1, Cs_R220_0 m1, Cs_K221 m1, Cs_K262 m1, Cs_K271 m1, Cs_R271_0 m1, Cs_R271_1 m1, Cs_K272 m1, Cs_K276 m1, Cs_R272_0 m1, Cs_R276_0 m1, Cs_K273 m1, Cs_R273_0 m1, Cs_R273_1 m1, Cs_K274 m1, Cs_K275 m1, Cs_K277 m1, Cs_R277_0 m1, Cs_R277_1 m1, Cs_K278 m1, Cs_K279 m1, Cs_R262_0 m1, Cs_K263 m1, Cs_R263_0 m1, Cs_K264 m1, Cs_R262_1 m1, Cs_K265 m1, Cs_R265_0 m1, Cs_K266 m1, Cs_R262_2 m1, Cs_K267 m1, Cs_R267_0 m1, Cs_K268 m1, Cs_R262_3 m1, Cs_K269 m1, Cs_R269_0 m1, Cs_K270 m1, Int.toNat_natCast, Int.natCast_nonneg, true_and, and_true, and_self, if_true, if_false, or_true, true_or, or_false, false_or, ne_eq, not_true_eq_false, not_false_eq_true, Nat.reduceLeDiff, Nat.reduceEqDiff, Nat.reduceLT, Nat.reduceAdd, Nat.reduceMul, Nat.reduceSub, Int.reduceLT, Int.reduceLE, Int.reduceEq, Int.reduceToNat, Int.reduceAdd, Int.reduceSub, Int.reduceMul, Int.reduceNeg, Int.cast_ofNat_Int, false_and, and_false]
    refine S_actBold (d := d + 1) c1 (Or.inl rfl) s1 ?_
    intro h2 f2 s2
    have fd := (f1.mono (fun a k q => rgP_d q)).trans (f2.mono (fun a k q => aPs_d q))
    have m2 := m.fr fd
    have mk2 := mk1.fr f2 (fun a k q => by unfold aPs at q; omega)
    simp only [psh_some, rX11_bold_43, rX11_bold_45, rX11_bold_47]
    by_cases hy : whyB (sA σ) g n = 0
    · simp only [if_pos hy] at k s2 ⊢
      have hg : 0 ≤ g ∧ g < sA σ 2 := by
        unfold whyB at hy
        by_cases q : (0 ≤ g ∧ g < sA σ 2) ∧ 0 ≤ n ∧ n ≤ 9
        · exact q.1
        · rw [if_neg q] at hy; exact absurd hy (by decide)
      simp only [hy, rX11_bold_56, rX11_bold_57, rX11_bold_60, Cs_K200 m2, Cs_R200_0 m2, Cs_R200_1 m2, Cs_R200_2 m2, Cs_R200_3 m2, Cs_R200_4 m2, Cs_R200_5 m2, Cs_R200_6 m2, Cs_K201 m2, Cs_R201_0 m2, Cs_R201_1 m2, Cs_K202 m2, Cs_K203 m2, Cs_K211 m2, Cs_R211_0 m2, Cs_R211_1 m2, Cs_K212 m2, Cs_K213 m2, Cs_K214 m2, Cs_R214_0 m2, Cs_R214_1 m2, Cs_K215 m2, Cs_K216 m2, Cs_K217 m2, Cs_R217_0 m2, Cs_R217_1 m2, Cs_K218 m2, Cs_K219 m2, Cs_K220 m2, Cs_R220_0 m2, Cs_K221 m2, Cs_K262 m2, Cs_K271 m2, Cs_R271_0 m2, Cs_R271_1 m2, Cs_K272 m2, Cs_K276 m2, Cs_R272_0 m2, Cs_R276_0 m2, Cs_K273 m2, Cs_R273_0 m2, Cs_R273_1 m2, Cs_K274 m2, Cs_K275 m2, Cs_K277 m2, Cs_R277_0 m2, Cs_R277_1 m2, Cs_K278 m2, Cs_K279 m2, Cs_R262_0 m2, Cs_K263 m2, Cs_R263_0 m2, Cs_K264 m2, Cs_R262_1 m2, Cs_K265 m2, Cs_R265_0 m2, Cs_K266 m2, Cs_R262_2 m2, Cs_K267 m2, Cs_R267_0 m2, Cs_K268 m2, Cs_R262_3 m2, Cs_K269 m2, Cs_R269_0 m2, Cs_K270 m2, Int.toNat_natCast, Int.natCast_nonneg, true_and, and_true, and_self, if_true, if_false, or_true, true_or, or_false, false_or, ne_eq, not_true_eq_false, not_false_eq_true, Nat.reduceLeDiff, Nat.reduceEqDiff, Nat.reduceLT, Nat.reduceAdd, Nat.reduceMul, Nat.reduceSub, Int.reduceLT, Int.reduceLE, Int.reduceEq, Int.reduceToNat, Int.reduceAdd, Int.reduceSub, Int.reduceMul, Int.reduceNeg, Int.cast_ofNat_Int, false_and, and_false]
      refine S_keepNow (d := d + 1) x w fd mk2 s2 ?_
      intro h3 x3 f3 g3
      simp only [psh_none, rX11_bold_63, rX11_bold_64, hz hg]
      exact k h3 x3 f3
    · simp only [if_neg hy] at k s2 ⊢
      have e1 : whyB (sA σ) g n = 1 := by
        unfold whyB at hy ⊢
        split at hy
        · exact absurd rfl hy
        · rename_i q; rw [if_neg q]
      simp only [e1, rX11_bold_50, rX11_bold_52, rX11_bold_54, rX11_bold_55, Int.toNat_natCast, Int.natCast_nonneg, true_and, and_true, and_self, if_true, if_false, or_true, true_or, or_false, false_or, ne_eq, not_true_eq_false, not_false_eq_true, Nat.reduceLeDiff, Nat.reduceEqDiff, Nat.reduceLT, Nat.reduceAdd, Nat.reduceMul, Nat.reduceSub, Int.reduceLT, Int.reduceLE, Int.reduceEq, Int.reduceToNat, Int.reduceAdd, Int.reduceSub, Int.reduceMul, Int.reduceNeg, Int.cast_ofNat_Int, false_and, and_false, show w32 (-10 - 1) = -11 from rfl]
      exact k h2 (C_no x w fd s2 mk2.past) (Cfr_d fd)
  simp only [rX11_bold_0, rX11_bold_1, rX11_bold_2, Cs_K200 m, Int.toNat_natCast, Int.natCast_nonneg, true_and, and_true, and_self, if_true, if_false, or_true, true_or, or_false, false_or, ne_eq, not_true_eq_false, not_false_eq_true, Nat.reduceLeDiff, Nat.reduceEqDiff, Nat.reduceLT, Nat.reduceAdd, Nat.reduceMul, Nat.reduceSub, Int.reduceLT, Int.reduceLE, Int.reduceEq, Int.reduceToNat, Int.reduceAdd, Int.reduceSub, Int.reduceMul, Int.reduceNeg, Int.cast_ofNat_Int, false_and, and_false, S_cGoer c, psh_some, rX11_bold_5]
  by_cases h1 : 0 ≤ g ∧ g < sA σ 2
  · rw [if_pos h1, if_neg (by decide)]
    obtain ⟨i, rfl⟩ := Int.eq_ofNat_of_zero_le h1.1
    have e := (x.1.2.2.2.1.2.2 i (by omega)).2
    simp only [rX11_bold_8, rX11_bold_9, rX11_bold_12, rX11_bold_15, rX11_bold_16, rX11_bold_17, rX11_bold_21, Cs_K200 m, Cs_R200_0 m, Cs_R200_1 m, Cs_R200_2 m, Cs_R200_3 m, Cs_R200_4 m, Cs_R200_5 m, Cs_R200_6 m, Cs_K201 m, Cs_R201_0 m, Cs_R201_1 m, Cs_K202 m, Cs_K203 m, Cs_K211 m, Cs_R211_0 m, Cs_R211_1 m, Cs_K212 m, Cs_K213 m, Cs_K214 m, Cs_R214_0 m, Cs_R214_1 m, Cs_K215 m, Cs_K216 m, Cs_K217 m, Cs_R217_0 m, Cs_R217_1 m, Cs_K218 m, Cs_K219 m, Cs_K220 m, Cs_R220_0 m, Cs_K221 m, Cs_K262 m, Cs_K271 m, Cs_R271_0 m, Cs_R271_1 m, Cs_K272 m, Cs_K276 m, Cs_R272_0 m, Cs_R276_0 m, Cs_K273 m, Cs_R273_0 m, Cs_R273_1 m, Cs_K274 m, Cs_K275 m, Cs_K277 m, Cs_R277_0 m, Cs_R277_1 m, Cs_K278 m, Cs_K279 m, Cs_R262_0 m, Cs_K263 m, Cs_R263_0 m, Cs_K264 m, Cs_R262_1 m, Cs_K265 m, Cs_R265_0 m, Cs_K266 m, Cs_R262_2 m, Cs_K267 m, Cs_R267_0 m, Cs_K268 m, Cs_R262_3 m, Cs_K269 m, Cs_R269_0 m, Cs_K270 m, Int.toNat_natCast, Int.natCast_nonneg, true_and, and_true, and_self, if_true, if_false, or_true, true_or, or_false, false_or, ne_eq, not_true_eq_false, not_false_eq_true, Nat.reduceLeDiff, Nat.reduceEqDiff, Nat.reduceLT, Nat.reduceAdd, Nat.reduceMul, Nat.reduceSub, Int.reduceLT, Int.reduceLE, Int.reduceEq, Int.reduceToNat, Int.reduceAdd, Int.reduceSub, Int.reduceMul, Int.reduceNeg, Int.cast_ofNat_Int, false_and, and_false, show (i : Int) < 6 by omega, e]
    exact e0 _ (fun _ => rfl)
  · rw [if_neg h1, if_pos (by trivial)]
    simp only [rX11_bold_20, rX11_bold_21]
    exact e0 _ (fun q => absurd q h1)
set_option maxHeartbeats 1000000 in
theorem R_bold {d : Nat} {σ : AS} {g n : Int} : RSpec (d + 3) mX12_bold [some (.inr (.inr 294)), some (.inl g), some (.inl n)] σ (.inl (if whyB (sA σ) g n = 0 then stA (sA σ) (8 + g.toNat) else -11)) (if whyB (sA σ) g n = 0 then nS σ (boB (stA (sA σ)) g.toNat n) else σ) := by
  refine RSpec5.of ?_ (fun h Q hk => by simp only [rX12_bold_0, rX12_bold_1, rX12_bold_2, hk, Int.toNat_natCast, Int.natCast_nonneg, true_and, and_true, and_self, if_true, if_false, or_true, true_or, or_false, false_or, ne_eq, not_true_eq_false, not_false_eq_true, Nat.reduceLeDiff, Nat.reduceEqDiff, Nat.reduceLT, Nat.reduceAdd, Nat.reduceMul, Nat.reduceSub, Int.reduceLT, Int.reduceLE, Int.reduceEq, Int.reduceToNat, Int.reduceAdd, Int.reduceSub, Int.reduceMul, Int.reduceNeg, Int.cast_ofNat_Int, false_and, and_false])
  intro h Q x w k
  have m := x.1
  have rs := x.rs w
  unfold whyB at k
  have no : ¬ ((0 ≤ g ∧ g < sA σ 2) ∧ 0 ≤ n ∧ n ≤ 9) → Q (some (.inl (-11))) h := by
    intro hn
    simp only [if_neg hn] at k
    rw [if_neg (by decide), if_neg (by decide)] at k
    exact k h x (Fp.refl _ h)
  simp only [rX12_bold_5, rX12_bold_6, rX12_bold_7, rX12_bold_8, rX12_bold_11, rX12_bold_14, rX12_bold_15, rX12_bold_16, rX12_bold_17, rX12_bold_20, rX12_bold_23, rX12_bold_26, rX12_bold_28, Md_K280 m, Md_R281 m, Md_K281 m, Md_R282 m, Md_K282 m, Md_R283 m, Md_K283 m, Md_R284 m, Md_K284 m, Md_R285 m, Md_K285 m, Md_R286 m, Md_K286 m, Md_R287 m, Md_K287 m, Md_R288 m, Md_K288 m, Md_R289 m, Md_K289 m, Md_R290 m, Md_K290 m, Md_R291 m, Md_K291 m, Md_R292 m, Md_K292 m, Md_R293 m, Md_K293 m, Md_R294 m, Md_K294 m, Md_R295 m, Md_K295 m, Md_R296 m, Md_K296 m, Md_R297 m, Md_K297 m, Md_R298 m, Md_K298 m, Md_R299 m, Md_K299 m, Int.toNat_natCast, Int.natCast_nonneg, true_and, and_true, and_self, if_true, if_false, or_true, true_or, or_false, false_or, ne_eq, not_true_eq_false, not_false_eq_true, Nat.reduceLeDiff, Nat.reduceEqDiff, Nat.reduceLT, Nat.reduceAdd, Nat.reduceMul, Nat.reduceSub, Int.reduceLT, Int.reduceLE, Int.reduceEq, Int.reduceToNat, Int.reduceAdd, Int.reduceSub, Int.reduceMul, Int.reduceNeg, Int.cast_ofNat_Int, false_and, and_false, S_rGoer' rs, S_within, psh_some]
  by_cases h1 : 0 ≤ g ∧ g < sA σ 2
  · rw [if_pos h1, if_neg (by decide)]
    by_cases h2 : 0 ≤ n ∧ n ≤ 9
    · rw [if_pos h2, if_neg (by decide)]
      simp only [if_pos (And.intro h1 h2), if_true] at k
      obtain ⟨i, rfl⟩ := Int.eq_ofNat_of_zero_le h1.1
      have n6 := w.1.2.2.2.1
      simp only [Int.toNat_natCast] at k
      simp only [rX12_bold_29, rX12_bold_30, Md_K280 m, Md_R281 m, Md_K281 m, Md_R282 m, Md_K282 m, Md_R283 m, Md_K283 m, Md_R284 m, Md_K284 m, Md_R285 m, Md_K285 m, Md_R286 m, Md_K286 m, Md_R287 m, Md_K287 m, Md_R288 m, Md_K288 m, Md_R289 m, Md_K289 m, Md_R290 m, Md_K290 m, Md_R291 m, Md_K291 m, Md_R292 m, Md_K292 m, Md_R293 m, Md_K293 m, Md_R294 m, Md_K294 m, Md_R295 m, Md_K295 m, Md_R296 m, Md_K296 m, Md_R297 m, Md_K297 m, Md_R298 m, Md_K298 m, Md_R299 m, Md_K299 m, Int.toNat_natCast, Int.natCast_nonneg, true_and, and_true, and_self, if_true, if_false, or_true, true_or, or_false, false_or, ne_eq, not_true_eq_false, not_false_eq_true, Nat.reduceLeDiff, Nat.reduceEqDiff, Nat.reduceLT, Nat.reduceAdd, Nat.reduceMul, Nat.reduceSub, Int.reduceLT, Int.reduceLE, Int.reduceEq, Int.reduceToNat, Int.reduceAdd, Int.reduceSub, Int.reduceMul, Int.reduceNeg, Int.cast_ofNat_Int, false_and, and_false]
      refine S_keeps rs ?_
      intro h2' f2 e2
      have rs2 := rs.ke f2
      have m2 := rs2.1
      simp only [psh_none, rX12_bold_33, rX12_bold_34, rX12_bold_37, rX12_bold_39, rX12_bold_40, rX12_bold_41, rX12_bold_42, rX12_bold_43, rX12_bold_44, hN_wI, hN_wJ, hN_wR, hS_wI, hS_wJ, hS_wR, hK_wI, hK_wJ, hK_wR, hI_wI, hI_wJ, hI_wR, hJ_wI, hJ_wJ, hJ_wR, hR_wI, hR_wJ, hR_wR, hN_nw, hS_nw, hK_nw, hI_nw, hJ_nw, hR_nw, psh_some, psh_none, Md_K280 m2, Md_R281 m2, Md_K281 m2, Md_R282 m2, Md_K282 m2, Md_R283 m2, Md_K283 m2, Md_R284 m2, Md_K284 m2, Md_R285 m2, Md_K285 m2, Md_R286 m2, Md_K286 m2, Md_R287 m2, Md_K287 m2, Md_R288 m2, Md_K288 m2, Md_R289 m2, Md_K289 m2, Md_R290 m2, Md_K290 m2, Md_R291 m2, Md_K291 m2, Md_R292 m2, Md_K292 m2, Md_R293 m2, Md_K293 m2, Md_R294 m2, Md_K294 m2, Md_R295 m2, Md_K295 m2, Md_R296 m2, Md_K296 m2, Md_R297 m2, Md_K297 m2, Md_R298 m2, Md_K298 m2, Md_R299 m2, Md_K299 m2, Int.toNat_natCast, Int.natCast_nonneg, true_and, and_true, and_self, if_true, if_false, or_true, true_or, or_false, false_or, ne_eq, not_true_eq_false, not_false_eq_true, Nat.reduceLeDiff, Nat.reduceEqDiff, Nat.reduceLT, Nat.reduceAdd, Nat.reduceMul, Nat.reduceSub, Int.reduceLT, Int.reduceLE, Int.reduceEq, Int.reduceToNat, Int.reduceAdd, Int.reduceSub, Int.reduceMul, Int.reduceNeg, Int.cast_ofNat_Int, false_and, and_false, w32_la (l := i) 41 (41 + i) (by omega) (by omega)]
      refine ⟨by omega, ?_⟩
      have f3 : Fp zP h2' (wI h2' 295 (41 + i) n) := (Fp.refl zP _).wI (by unfold zP; omega) _
      have rs3 : RS (wI h2' 295 (41 + i) n) (sA σ) (boB (stA (sA σ)) i n) := rs2.put f3 (boB_ok w.2.1 h2.1 h2.2) (fun j hj => by
        rw [hI_wI]
        unfold boB
        by_cases hji : j = 8 + i
        · rw [if_pos (by omega), if_pos hji]
        · rw [if_neg (by omega), if_neg hji]; exact rs2.b hj)
      have fq := (f2.mono (P' := qP) (fun a k q => keP_q q)).trans (f3.mono (fun a k q => zP_q q))
      have e3 : ∀ j, j < 14 → hI (wI h2' 295 (41 + i) n) 301 j = stA (sA σ) j := fun j hj => by rw [f3.I (by unfold zP lP; omega)]; exact e2 j hj
      refine S_notesNow x w fq rs3 e3 ?_
      intro h4 x4 f4 g4
      have m4 := x4.1
      have e : hI h4 301 (8 + i) = stA (sA σ) (8 + i) := by rw [g4.I (by unfold ntP; omega)]; exact e3 _ (by omega)
      simp only [psh_none, rX12_bold_47, rX12_bold_48, rX12_bold_51, rX12_bold_53, rX12_bold_54, rX12_bold_55, rX12_bold_56, Md_K280 m4, Md_R281 m4, Md_K281 m4, Md_R282 m4, Md_K282 m4, Md_R283 m4, Md_K283 m4, Md_R284 m4, Md_K284 m4, Md_R285 m4, Md_K285 m4, Md_R286 m4, Md_K286 m4, Md_R287 m4, Md_K287 m4, Md_R288 m4, Md_K288 m4, Md_R289 m4, Md_K289 m4, Md_R290 m4, Md_K290 m4, Md_R291 m4, Md_K291 m4, Md_R292 m4, Md_K292 m4, Md_R293 m4, Md_K293 m4, Md_R294 m4, Md_K294 m4, Md_R295 m4, Md_K295 m4, Md_R296 m4, Md_K296 m4, Md_R297 m4, Md_K297 m4, Md_R298 m4, Md_K298 m4, Md_R299 m4, Md_K299 m4, Int.toNat_natCast, Int.natCast_nonneg, true_and, and_true, and_self, if_true, if_false, or_true, true_or, or_false, false_or, ne_eq, not_true_eq_false, not_false_eq_true, Nat.reduceLeDiff, Nat.reduceEqDiff, Nat.reduceLT, Nat.reduceAdd, Nat.reduceMul, Nat.reduceSub, Int.reduceLT, Int.reduceLE, Int.reduceEq, Int.reduceToNat, Int.reduceAdd, Int.reduceSub, Int.reduceMul, Int.reduceNeg, Int.cast_ofNat_Int, false_and, and_false, w32_la (l := i) 8 (8 + i) (by omega) (by omega), e]
      refine ⟨by omega, ?_⟩
      exact k h4 x4 f4
    · rw [if_neg h2, if_pos (by trivial)]
      exact no (fun q => h2 q.2)
  · rw [if_neg h1, if_pos (by trivial)]
    exact no (fun q => h1 q.1)
/-- n calls undone -/
def unA (A : Nat → Int) (n : Int) : Nat → Int := fun k => if k = 47 then A 47 - n else if 33 ≤ k ∧ k < 47 then A (48 + 14 * (A 47 - n).toNat + (k - 33)) else A k
theorem unA_st (A : Nat → Int) (n : Int) {k : Nat} (hk : k < 14) : stA (unA A n) k = reA A (A 47 - n).toNat k := by
  unfold stA unA reA
  rw [if_neg (by omega), if_pos (by omega), show 33 + k - 33 = k by omega]
theorem unA_re (A : Nat → Int) (n : Int) (i : Nat) : reA (unA A n) i = reA A i := by
  funext k
  unfold reA unA
  rw [if_neg (by omega), if_neg (by omega)]
theorem unA_same (A : Nat → Int) (n : Int) : SameP A (unA A n) := fun k hk => by
  unfold unA
  rw [if_neg (by omega), if_neg (by omega)]
theorem WF.un {σ : AS} (w : WF σ) {n : Int} (h1 : 1 ≤ n) (h2 : n ≤ sA σ 47) : WF (wA σ (unA (sA σ) n)) := by
  have n1 := w.2.2.2.1
  refine w.w (unA_same _ _) (fun k hk => ?_) ((w.2.2.2.2.1 (sA σ 47 - n).toNat (by omega)).of (fun k hk => unA_st _ _ hk)) ?_ ?_ ?_
  · unfold unA; rw [if_neg (by omega), if_neg (by omega)]
  · show 0 ≤ sA σ 47 - n; omega
  · show sA σ 47 - n ≤ 10; omega
  · intro i hi
    have hi' : i < (sA σ 47 - n).toNat := hi
    rw [unA_re]
    exact w.2.2.2.2.1 i (by omega)
set_option maxHeartbeats 1000000 in
theorem C_undo {d : Nat} {σ : AS} {n : Int} : CSpec (d + 2) mX11_undo [some (.inr (.inr 200)), some (.inl n)] σ (.inl (if 1 ≤ n ∧ n ≤ sA σ 47 then sA σ 47 - n else -3)) (if 1 ≤ n ∧ n ≤ sA σ 47 then wA σ (unA (sA σ) n) else σ) := by
  intro h Q x w k
  have m := x.1.1
  have p := x.1.2.2.2.2.1
  obtain ⟨top, t1, t2, t3, t4⟩ := p
  have n1 := w.2.2.2.1
  simp only [rX11_undo_0, rX11_undo_1, rX11_undo_2, rX11_undo_5, rX11_undo_6, rX11_undo_7, rX11_undo_10, rX11_undo_13, rX11_undo_16, rX11_undo_18, Cs_K200 m, Cs_R200_0 m, Cs_R200_1 m, Cs_R200_2 m, Cs_R200_3 m, Cs_R200_4 m, Cs_R200_5 m, Cs_R200_6 m, Cs_K201 m, Cs_R201_0 m, Cs_R201_1 m, Cs_K202 m, Cs_K203 m, Cs_K211 m, Cs_R211_0 m, Cs_R211_1 m, Cs_K212 m, Cs_K213 m, Cs_K214 m, Cs_R214_0 m, Cs_R214_1 m, Cs_K215 m, Cs_K216 m, Cs_K217 m, Cs_R217_0 m, Cs_R217_1 m, Cs_K218 m, Cs_K219 m, Cs_K220 m, Cs_R220_0 m, Cs_K221 m, Cs_K262 m, Cs_K271 m, Cs_R271_0 m, Cs_R271_1 m, Cs_K272 m, Cs_K276 m, Cs_R272_0 m, Cs_R276_0 m, Cs_K273 m, Cs_R273_0 m, Cs_R273_1 m, Cs_K274 m, Cs_K275 m, Cs_K277 m, Cs_R277_0 m, Cs_R277_1 m, Cs_K278 m, Cs_K279 m, Cs_R262_0 m, Cs_K263 m, Cs_R263_0 m, Cs_K264 m, Cs_R262_1 m, Cs_K265 m, Cs_R265_0 m, Cs_K266 m, Cs_R262_2 m, Cs_K267 m, Cs_R267_0 m, Cs_K268 m, Cs_R262_3 m, Cs_K269 m, Cs_R269_0 m, Cs_K270 m, Int.toNat_natCast, Int.natCast_nonneg, true_and, and_true, and_self, if_true, if_false, or_true, true_or, or_false, false_or, ne_eq, not_true_eq_false, not_false_eq_true, Nat.reduceLeDiff, Nat.reduceEqDiff, Nat.reduceLT, Nat.reduceAdd, Nat.reduceMul, Nat.reduceSub, Int.reduceLT, Int.reduceLE, Int.reduceEq, Int.reduceToNat, Int.reduceAdd, Int.reduceSub, Int.reduceMul, Int.reduceNeg, Int.cast_ofNat_Int, false_and, and_false, t3]
  by_cases h1 : 1 ≤ n ∧ n ≤ sA σ 47
  · simp only [if_pos h1] at k
    rw [if_neg (by omega), if_neg (by omega)]
    obtain ⟨i, rfl⟩ := Int.eq_ofNat_of_zero_le (show 0 ≤ n by omega)
    have e1 : w32 ((top : Int) + 11) = ((top + 11 : Nat) : Int) := w32_al _ _ (by omega) (by omega)
    have e2 : w32 (((top + 11 : Nat) : Int) - (i : Int)) = ((top + 11 - i : Nat) : Int) := by rw [w32_i (by omega) (by omega)]; omega
    have e3 : Int.tmod ((top + 11 - i : Nat) : Int) 11 = (((top + 11 - i) % 11 : Nat) : Int) := by
      rw [tmod_n (by omega)]; omega
    have e4 : w32 (sA σ 47 - (i : Int)) = sA σ 47 - i := w32_i (by omega) (by omega)
    have tm : (top + 11 - i) % 11 < 11 := Nat.mod_lt _ (by omega)
    obtain ⟨r1, r2, r3, r4, r5, r6⟩ := Cs_ring m _ tm
    have f1 : Fp (fun a _ => a = 220) h (wI (wI h 220 1 (((top + 11 - i) % 11 : Nat) : Int)) 220 2 (sA σ 47 - i)) := ((Fp.refl (fun a _ => a = 220) h).wI rfl _).wI rfl _
    have m1 := m.fr f1
    simp only [rX11_undo_19, rX11_undo_20, rX11_undo_23, rX11_undo_24, rX11_undo_25, rX11_undo_28, rX4_bringBack_0, rX4_bringBack_1, rX4_bringBack_2, rX4_bringBack_5, rX4_bringBack_7, rX4_bringBack_8, rX4_bringBack_9, rX4_bringBack_10, rX4_bringBack_12, rX4_bringBack_13, rX4_bringBack_16, rX4_bringBack_17, rX4_bringBack_18, rX4_bringBack_21, rX4_bringBack_22, rX4_bringBack_23, rX4_bringBack_26, rX4_bringBack_27, rX4_bringBack_28, rX4_bringBack_31, rX4_bringBack_32, rX4_bringBack_35, hN_wI, hN_wJ, hN_wR, hS_wI, hS_wJ, hS_wR, hK_wI, hK_wJ, hK_wR, hI_wI, hI_wJ, hI_wR, hJ_wI, hJ_wJ, hJ_wR, hR_wI, hR_wJ, hR_wR, hN_nw, hS_nw, hK_nw, hI_nw, hJ_nw, hR_nw, psh_some, psh_none, Cs_K200 m, Cs_R200_0 m, Cs_R200_1 m, Cs_R200_2 m, Cs_R200_3 m, Cs_R200_4 m, Cs_R200_5 m, Cs_R200_6 m, Cs_K201 m, Cs_R201_0 m, Cs_R201_1 m, Cs_K202 m, Cs_K203 m, Cs_K211 m, Cs_R211_0 m, Cs_R211_1 m, Cs_K212 m, Cs_K213 m, Cs_K214 m, Cs_R214_0 m, Cs_R214_1 m, Cs_K215 m, Cs_K216 m, Cs_K217 m, Cs_R217_0 m, Cs_R217_1 m, Cs_K218 m, Cs_K219 m, Cs_K220 m, Cs_R220_0 m, Cs_K221 m, Cs_K262 m, Cs_K271 m, Cs_R271_0 m, Cs_R271_1 m, Cs_K272 m, Cs_K276 m, Cs_R272_0 m, Cs_R276_0 m, Cs_K273 m, Cs_R273_0 m, Cs_R273_1 m, Cs_K274 m, Cs_K275 m, Cs_K277 m, Cs_R277_0 m, Cs_R277_1 m, Cs_K278 m, Cs_K279 m, Cs_R262_0 m, Cs_K263 m, Cs_R263_0 m, Cs_K264 m, Cs_R262_1 m, Cs_K265 m, Cs_R265_0 m, Cs_K266 m, Cs_R262_2 m, Cs_K267 m, Cs_R267_0 m, Cs_K268 m, Cs_R262_3 m, Cs_K269 m, Cs_R269_0 m, Cs_K270 m, Int.toNat_natCast, Int.natCast_nonneg, true_and, and_true, and_self, if_true, if_false, or_true, true_or, or_false, false_or, ne_eq, not_true_eq_false, not_false_eq_true, Nat.reduceLeDiff, Nat.reduceEqDiff, Nat.reduceLT, Nat.reduceAdd, Nat.reduceMul, Nat.reduceSub, Int.reduceLT, Int.reduceLE, Int.reduceEq, Int.reduceToNat, Int.reduceAdd, Int.reduceSub, Int.reduceMul, Int.reduceNeg, Int.cast_ofNat_Int, false_and, and_false, t2, t3, e1, e2, e3, e4, r1, show (((top + 11 - i) % 11 : Nat) : Int) < 11 by omega]
    simp only [rX4_bringBack_36, hN_wI, hN_wJ, hN_wR, hS_wI, hS_wJ, hS_wR, hK_wI, hK_wJ, hK_wR, hI_wI, hI_wJ, hI_wR, hJ_wI, hJ_wJ, hJ_wR, hR_wI, hR_wJ, hR_wR, hN_nw, hS_nw, hK_nw, hI_nw, hJ_nw, hR_nw, psh_some, psh_none, Cs_K200 m, Cs_R200_0 m, Cs_R200_1 m, Cs_R200_2 m, Cs_R200_3 m, Cs_R200_4 m, Cs_R200_5 m, Cs_R200_6 m, Cs_K201 m, Cs_R201_0 m, Cs_R201_1 m, Cs_K202 m, Cs_K203 m, Cs_K211 m, Cs_R211_0 m, Cs_R211_1 m, Cs_K212 m, Cs_K213 m, Cs_K214 m, Cs_R214_0 m, Cs_R214_1 m, Cs_K215 m, Cs_K216 m, Cs_K217 m, Cs_R217_0 m, Cs_R217_1 m, Cs_K218 m, Cs_K219 m, Cs_K220 m, Cs_R220_0 m, Cs_K221 m, Cs_K262 m, Cs_K271 m, Cs_R271_0 m, Cs_R271_1 m, Cs_K272 m, Cs_K276 m, Cs_R272_0 m, Cs_R276_0 m, Cs_K273 m, Cs_R273_0 m, Cs_R273_1 m, Cs_K274 m, Cs_K275 m, Cs_K277 m, Cs_R277_0 m, Cs_R277_1 m, Cs_K278 m, Cs_K279 m, Cs_R262_0 m, Cs_K263 m, Cs_R263_0 m, Cs_K264 m, Cs_R262_1 m, Cs_K265 m, Cs_R265_0 m, Cs_K266 m, Cs_R262_2 m, Cs_K267 m, Cs_R267_0 m, Cs_K268 m, Cs_R262_3 m, Cs_K269 m, Cs_R269_0 m, Cs_K270 m, Int.toNat_natCast, Int.natCast_nonneg, true_and, and_true, and_self, if_true, if_false, or_true, true_or, or_false, false_or, ne_eq, not_true_eq_false, not_false_eq_true, Nat.reduceLeDiff, Nat.reduceEqDiff, Nat.reduceLT, Nat.reduceAdd, Nat.reduceMul, Nat.reduceSub, Int.reduceLT, Int.reduceLE, Int.reduceEq, Int.reduceToNat, Int.reduceAdd, Int.reduceSub, Int.reduceMul, Int.reduceNeg, Int.cast_ofNat_Int, false_and, and_false]
    have hi : (sA σ 47 - (i : Int)).toNat < (sA σ 47).toNat := by omega
    have st := t4 _ hi
    have ej : top + 11 - (sA σ 47).toNat + (sA σ 47 - (i : Int)).toNat = top + 11 - i := by omega
    rw [ej] at st
    refine S_become (Cs_nowS m1) (Cs_ringS m1 tm) (by omega) (st.fp f1 (fun a k h1 h2 => by omega)) ?_
    intro h2 f2 s2
    have fd := (f1.mono (P' := dP) (fun a k q => e220_d q)).trans (f2.mono (fun a k q => by unfold stP at q; unfold dP; omega))
    have m2 := m.fr fd
    have e5 : hI h2 220 2 = sA σ 47 - i := by
      rw [f2.I (by unfold stP; omega)]
      simp only [hN_wI, hN_wJ, hN_wR, hS_wI, hS_wJ, hS_wR, hK_wI, hK_wJ, hK_wR, hI_wI, hI_wJ, hI_wR, hJ_wI, hJ_wJ, hJ_wR, hR_wI, hR_wJ, hR_wR, hN_nw, hS_nw, hK_nw, hI_nw, hJ_nw, hR_nw, psh_some, psh_none, Int.toNat_natCast, Int.natCast_nonneg, true_and, and_true, and_self, if_true, if_false, or_true, true_or, or_false, false_or, ne_eq, not_true_eq_false, not_false_eq_true, Nat.reduceLeDiff, Nat.reduceEqDiff, Nat.reduceLT, Nat.reduceAdd, Nat.reduceMul, Nat.reduceSub, Int.reduceLT, Int.reduceLE, Int.reduceEq, Int.reduceToNat, Int.reduceAdd, Int.reduceSub, Int.reduceMul, Int.reduceNeg, Int.cast_ofNat_Int, false_and, and_false]
    have e6 : hI h2 220 1 = (((top + 11 - i) % 11 : Nat) : Int) := by
      rw [f2.I (by unfold stP; omega)]
      simp only [hN_wI, hN_wJ, hN_wR, hS_wI, hS_wJ, hS_wR, hK_wI, hK_wJ, hK_wR, hI_wI, hI_wJ, hI_wR, hJ_wI, hJ_wJ, hJ_wR, hR_wI, hR_wJ, hR_wR, hN_nw, hS_nw, hK_nw, hI_nw, hJ_nw, hR_nw, psh_some, psh_none, Int.toNat_natCast, Int.natCast_nonneg, true_and, and_true, and_self, if_true, if_false, or_true, true_or, or_false, false_or, ne_eq, not_true_eq_false, not_false_eq_true, Nat.reduceLeDiff, Nat.reduceEqDiff, Nat.reduceLT, Nat.reduceAdd, Nat.reduceMul, Nat.reduceSub, Int.reduceLT, Int.reduceLE, Int.reduceEq, Int.reduceToNat, Int.reduceAdd, Int.reduceSub, Int.reduceMul, Int.reduceNeg, Int.cast_ofNat_Int, false_and, and_false]
    simp only [psh_none, rX4_bringBack_39, rX11_undo_31, rX11_undo_32, rX11_undo_35, rX11_undo_38, Cs_K200 m2, Cs_R200_0 m2, Cs_R200_1 m2, Cs_R200_2 m2, Cs_R200_3 m2, Cs_R200_4 m2, Cs_R200_5 m2, Cs_R200_6 m2, Cs_K201 m2, Cs_R201_0 m2, Cs_R201_1 m2, Cs_K202 m2, Cs_K203 m2, Cs_K211 m2, Cs_R211_0 m2, Cs_R211_1 m2, Cs_K212 m2, Cs_K213 m2, Cs_K214 m2, Cs_R214_0 m2, Cs_R214_1 m2, Cs_K215 m2, Cs_K216 m2, Cs_K217 m2, Cs_R217_0 m2, Cs_R217_1 m2, Cs_K218 m2, Cs_K219 m2, Cs_K220 m2, Cs_R220_0 m2, Cs_K221 m2, Cs_K262 m2, Cs_K271 m2, Cs_R271_0 m2, Cs_R271_1 m2, Cs_K272 m2, Cs_K276 m2, Cs_R272_0 m2, Cs_R276_0 m2, Cs_K273 m2, Cs_R273_0 m2, Cs_R273_1 m2, Cs_K274 m2, Cs_K275 m2, Cs_K277 m2, Cs_R277_0 m2, Cs_R277_1 m2, Cs_K278 m2, Cs_K279 m2, Cs_R262_0 m2, Cs_K263 m2, Cs_R263_0 m2, Cs_K264 m2, Cs_R262_1 m2, Cs_K265 m2, Cs_R265_0 m2, Cs_K266 m2, Cs_R262_2 m2, Cs_K267 m2, Cs_R267_0 m2, Cs_K268 m2, Cs_R262_3 m2, Cs_K269 m2, Cs_R269_0 m2, Cs_K270 m2, Int.toNat_natCast, Int.natCast_nonneg, true_and, and_true, and_self, if_true, if_false, or_true, true_or, or_false, false_or, ne_eq, not_true_eq_false, not_false_eq_true, Nat.reduceLeDiff, Nat.reduceEqDiff, Nat.reduceLT, Nat.reduceAdd, Nat.reduceMul, Nat.reduceSub, Int.reduceLT, Int.reduceLE, Int.reduceEq, Int.reduceToNat, Int.reduceAdd, Int.reduceSub, Int.reduceMul, Int.reduceNeg, Int.cast_ofNat_Int, false_and, and_false, e5]
    refine k h2 (x.deed fd w (unA_same _ _) (fun k hk => by unfold unA; rw [if_neg (by omega), if_neg (by omega)]) (s2.of (fun k hk => unA_st _ _ hk)) ⟨(top + 11 - i) % 11, tm, e6, e5, fun j hj => ?_⟩) (Cfr_d fd)
    have hj' : j < (sA σ 47 - (i : Int)).toNat := hj
    rw [unA_re]
    show StIs h2 (222 + 3 * (((top + 11 - i) % 11 + 11 - (sA σ 47 - (i : Int)).toNat + j) % 11)) (reA (sA σ) j)
    have ej : ((top + 11 - i) % 11 + 11 - (sA σ 47 - (i : Int)).toNat + j) % 11 = (top + 11 - (sA σ 47).toNat + j) % 11 := by omega
    rw [ej]
    have := Nat.mod_lt (top + 11 - (sA σ 47).toNat + j) (show 0 < 11 by omega)
    exact ((t4 j (by omega)).fp f1 (fun a k h1 h2 => by omega)).fp f2 (fun a k h1 h2 => by unfold stP; omega)
  · have k0 := k h (by rw [if_neg h1]; exact x) (Cfr.refl h)
    rw [if_neg h1] at k0
    by_cases h2 : n < 1
    · rw [if_pos h2]; exact k0
    · rw [if_neg h2, if_pos (by omega)]; exact k0
set_option maxHeartbeats 1000000 in
theorem R_undo {d : Nat} {σ : AS} {n : Int} : RSpec (d + 2) mX12_undo [some (.inr (.inr 294)), some (.inl n), none] σ (.inl (if 1 ≤ n ∧ n ≤ sA σ 47 then sA σ 47 - n else -3)) (if 1 ≤ n ∧ n ≤ sA σ 47 then wA σ (unA (sA σ) n) else σ) := by
  refine RSpec5.of ?_ (fun h Q hk => by simp only [rX12_undo_0, rX12_undo_1, rX12_undo_2, hk, Int.toNat_natCast, Int.natCast_nonneg, true_and, and_true, and_self, if_true, if_false, or_true, true_or, or_false, false_or, ne_eq, not_true_eq_false, not_false_eq_true, Nat.reduceLeDiff, Nat.reduceEqDiff, Nat.reduceLT, Nat.reduceAdd, Nat.reduceMul, Nat.reduceSub, Int.reduceLT, Int.reduceLE, Int.reduceEq, Int.reduceToNat, Int.reduceAdd, Int.reduceSub, Int.reduceMul, Int.reduceNeg, Int.cast_ofNat_Int, false_and, and_false])
  intro h Q x w k
  have m := x.1
  have a := x.2.1
  have n1 := w.2.2.2.1
  have no : ¬ (1 ≤ n ∧ n ≤ sA σ 47) → Q (some (.inl (-3))) h := by
    intro hn
    simp only [if_neg hn] at k
    exact k h x (Fp.refl _ h)
  simp only [rX12_undo_5, rX12_undo_6, rX12_undo_7, rX12_undo_8, rX12_undo_11, rX12_undo_14, S_within, psh_some]
  by_cases h1 : 1 ≤ n ∧ n ≤ 10
  · rw [if_pos h1, if_neg (by decide)]
    simp only [rX12_undo_17, rX12_undo_18, rX12_undo_19, rX12_undo_22, rX12_undo_24, rX12_undo_25, rX12_undo_28, rX12_undo_30, Md_K280 m, Md_R281 m, Md_K281 m, Md_R282 m, Md_K282 m, Md_R283 m, Md_K283 m, Md_R284 m, Md_K284 m, Md_R285 m, Md_K285 m, Md_R286 m, Md_K286 m, Md_R287 m, Md_K287 m, Md_R288 m, Md_K288 m, Md_R289 m, Md_K289 m, Md_R290 m, Md_K290 m, Md_R291 m, Md_K291 m, Md_R292 m, Md_K292 m, Md_R293 m, Md_K293 m, Md_R294 m, Md_K294 m, Md_R295 m, Md_K295 m, Md_R296 m, Md_K296 m, Md_R297 m, Md_K297 m, Md_R298 m, Md_K298 m, Md_R299 m, Md_K299 m, Int.toNat_natCast, Int.natCast_nonneg, true_and, and_true, and_self, if_true, if_false, or_true, true_or, or_false, false_or, ne_eq, not_true_eq_false, not_false_eq_true, Nat.reduceLeDiff, Nat.reduceEqDiff, Nat.reduceLT, Nat.reduceAdd, Nat.reduceMul, Nat.reduceSub, Int.reduceLT, Int.reduceLE, Int.reduceEq, Int.reduceToNat, Int.reduceAdd, Int.reduceSub, Int.reduceMul, Int.reduceNeg, Int.cast_ofNat_Int, false_and, and_false, a 47 (by omega)]
    by_cases h2 : n ≤ sA σ 47
    · simp only [if_pos (And.intro h1.1 h2)] at k
      rw [if_neg (by omega)]
      obtain ⟨i, rfl⟩ := Int.eq_ofNat_of_zero_le (show 0 ≤ n by omega)
      obtain ⟨c, hc⟩ := Int.eq_ofNat_of_zero_le (show 0 ≤ sA σ 47 - (i : Int) by omega)
      have e4 : w32 (sA σ 47 - (i : Int)) = (c : Int) := by rw [hc]; exact w32_i (by omega) (by omega)
      simp only [rX12_undo_31, rX12_undo_32, rX12_undo_35, rX12_undo_37, rX12_undo_38, rX12_undo_39, rX12_undo_40, rX12_undo_41, rX12_undo_42, rX12_undo_43, hN_wI, hN_wJ, hN_wR, hS_wI, hS_wJ, hS_wR, hK_wI, hK_wJ, hK_wR, hI_wI, hI_wJ, hI_wR, hJ_wI, hJ_wJ, hJ_wR, hR_wI, hR_wJ, hR_wR, hN_nw, hS_nw, hK_nw, hI_nw, hJ_nw, hR_nw, psh_some, psh_none, Md_K280 m, Md_R281 m, Md_K281 m, Md_R282 m, Md_K282 m, Md_R283 m, Md_K283 m, Md_R284 m, Md_K284 m, Md_R285 m, Md_K285 m, Md_R286 m, Md_K286 m, Md_R287 m, Md_K287 m, Md_R288 m, Md_K288 m, Md_R289 m, Md_K289 m, Md_R290 m, Md_K290 m, Md_R291 m, Md_K291 m, Md_R292 m, Md_K292 m, Md_R293 m, Md_K293 m, Md_R294 m, Md_K294 m, Md_R295 m, Md_K295 m, Md_R296 m, Md_K296 m, Md_R297 m, Md_K297 m, Md_R298 m, Md_K298 m, Md_R299 m, Md_K299 m, Int.toNat_natCast, Int.natCast_nonneg, true_and, and_true, and_self, if_true, if_false, or_true, true_or, or_false, false_or, ne_eq, not_true_eq_false, not_false_eq_true, Nat.reduceLeDiff, Nat.reduceEqDiff, Nat.reduceLT, Nat.reduceAdd, Nat.reduceMul, Nat.reduceSub, Int.reduceLT, Int.reduceLE, Int.reduceEq, Int.reduceToNat, Int.reduceAdd, Int.reduceSub, Int.reduceMul, Int.reduceNeg, Int.cast_ofNat_Int, false_and, and_false, a 47 (by omega), e4]
      have f1 : Fp qP h (wI h 295 47 (c : Int)) := (Fp.refl _ h).wI (Or.inr rfl) _
      refine wp_for (fun j h' => WP (d + 2) mX12_undo 44 [some (.inr (.inr 294)), some (.inl (i : Int)), some (.inl (j : Int))] [] h' Q) (fun j h' => Fp qP h h' ∧ ∀ q, q < 3267 → hI h' 295 q = if q = 47 then (c : Int) else if 33 ≤ q ∧ q < 33 + j then sA σ (48 + 14 * c + (q - 33)) else sA σ q) 14 ?_ ?_ 0 _ (by omega) ⟨f1, fun q hq => ?_⟩
      · rintro j h' hj ⟨f, e⟩ kk
        have m' := m.fr f
        have l1 : (j : Int) < 14 := by omega
        have l2 : w32 (33 + (j : Int)) = ((33 + j : Nat) : Int) := w32_la _ _ (by omega) (by omega)
        have l3 : w32 ((j : Int) + 1) = ((j + 1 : Nat) : Int) := w32_s (by omega)
        have l4 : ((33 + j : Nat) : Int) < 3267 := by omega
        have l5 : ((48 + 14 * c + j : Nat) : Int) < 3267 := by omega
        have c7 : hI h' 295 47 = (c : Int) := by rw [e 47 (by omega), if_pos (by trivial)]
        have cv : hI h' 295 (48 + 14 * c + j) = sA σ (48 + 14 * c + j) := by rw [e _ (by omega), if_neg (by omega), if_neg (by omega)]
        have e1 : w32 (14 * (c : Int)) = ((14 * c : Nat) : Int) := by rw [w32_i (by omega) (by omega)]; omega
        have e2 : w32 (48 + ((14 * c : Nat) : Int)) = ((48 + 14 * c : Nat) : Int) := w32_la _ _ (by omega) (by omega)
        have e3 : w32 (((48 + 14 * c : Nat) : Int) + (j : Int)) = ((48 + 14 * c + j : Nat) : Int) := w32_ll (by omega)
        rw [rX12_undo_44]
        simp only [rX12_undo_45, rX12_undo_47, rX12_undo_50, rX12_undo_51, rX12_undo_54, rX12_undo_56, rX12_undo_57, rX12_undo_58, rX12_undo_59, rX12_undo_62, rX12_undo_64, rX12_undo_66, rX12_undo_67, rX12_undo_70, rX12_undo_72, rX12_undo_73, rX12_undo_74, rX12_undo_75, rX12_undo_76, rX12_undo_77, rX12_undo_78, rX12_undo_79, rX12_undo_82, Md_K280 m', Md_R281 m', Md_K281 m', Md_R282 m', Md_K282 m', Md_R283 m', Md_K283 m', Md_R284 m', Md_K284 m', Md_R285 m', Md_K285 m', Md_R286 m', Md_K286 m', Md_R287 m', Md_K287 m', Md_R288 m', Md_K288 m', Md_R289 m', Md_K289 m', Md_R290 m', Md_K290 m', Md_R291 m', Md_K291 m', Md_R292 m', Md_K292 m', Md_R293 m', Md_K293 m', Md_R294 m', Md_K294 m', Md_R295 m', Md_K295 m', Md_R296 m', Md_K296 m', Md_R297 m', Md_K297 m', Md_R298 m', Md_K298 m', Md_R299 m', Md_K299 m', Int.toNat_natCast, Int.natCast_nonneg, true_and, and_true, and_self, if_true, if_false, or_true, true_or, or_false, false_or, ne_eq, not_true_eq_false, not_false_eq_true, Nat.reduceLeDiff, Nat.reduceEqDiff, Nat.reduceLT, Nat.reduceAdd, Nat.reduceMul, Nat.reduceSub, Int.reduceLT, Int.reduceLE, Int.reduceEq, Int.reduceToNat, Int.reduceAdd, Int.reduceSub, Int.reduceMul, Int.reduceNeg, Int.cast_ofNat_Int, false_and, and_false, l1, c7, e1, e2, e3, cv, l2, l3, l4, l5]
        refine kk _ ⟨f.wI (Or.inr rfl) _, fun q hq => ?_⟩
        clear cv c7 e1 e2 e3 l2 l3 l4 l5 kk no k hc e4
        rw [hI_wI]
        by_cases hq1 : q = 33 + j
        · rw [if_pos ⟨rfl, hq1⟩, if_neg (by omega), if_pos (by omega)]
          exact congrArg _ (by omega)
        · rw [if_neg (by omega), e q hq]
          by_cases q7 : q = 47
          · rw [if_pos q7, if_pos q7]
          · rw [if_neg q7, if_neg q7]
            by_cases hb : 33 ≤ q ∧ q < 33 + j
            · rw [if_pos hb, if_pos (by omega)]
            · rw [if_neg hb, if_neg (by omega)]
      · rintro h' ⟨f, e⟩
        have m' := m.fr f
        have c7 : hI h' 295 47 = (c : Int) := by rw [e 47 (by omega), if_pos (by trivial)]
        simp only [rX12_undo_44, rX12_undo_45, rX12_undo_47, rX12_undo_85, rX12_undo_86, rX12_undo_89, rX12_undo_91, rX12_undo_92, Md_K280 m', Md_R281 m', Md_K281 m', Md_R282 m', Md_K282 m', Md_R283 m', Md_K283 m', Md_R284 m', Md_K284 m', Md_R285 m', Md_K285 m', Md_R286 m', Md_K286 m', Md_R287 m', Md_K287 m', Md_R288 m', Md_K288 m', Md_R289 m', Md_K289 m', Md_R290 m', Md_K290 m', Md_R291 m', Md_K291 m', Md_R292 m', Md_K292 m', Md_R293 m', Md_K293 m', Md_R294 m', Md_K294 m', Md_R295 m', Md_K295 m', Md_R296 m', Md_K296 m', Md_R297 m', Md_K297 m', Md_R298 m', Md_K298 m', Md_R299 m', Md_K299 m', Int.toNat_natCast, Int.natCast_nonneg, true_and, and_true, and_self, if_true, if_false, or_true, true_or, or_false, false_or, ne_eq, not_true_eq_false, not_false_eq_true, Nat.reduceLeDiff, Nat.reduceEqDiff, Nat.reduceLT, Nat.reduceAdd, Nat.reduceMul, Nat.reduceSub, Int.reduceLT, Int.reduceLE, Int.reduceEq, Int.reduceToNat, Int.reduceAdd, Int.reduceSub, Int.reduceMul, Int.reduceNeg, Int.cast_ofNat_Int, false_and, and_false, c7]
        have k0 := k h' (x.a f (A' := unA (sA σ) i) (fun q hq => ?_)) (f.mono (fun a k q => qP_r q))
        · rw [hc] at k0; exact k0
        · rw [e q hq]
          unfold unA
          rw [hc, Int.toNat_natCast]
      · rw [hI_wI]
        by_cases q7 : q = 47
        · rw [if_pos ⟨rfl, q7⟩, if_pos q7]
        · rw [if_neg (by omega), if_neg q7, if_neg (by omega)]; exact a q hq
    · rw [if_pos (by omega)]
      exact no (by omega)
  · rw [if_neg h1, if_pos (by trivial)]
    simp only [rX12_undo_28, rX12_undo_30]
    exact no (by omega)
