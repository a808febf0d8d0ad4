/-! what can come of a set -/
def Cf0 (h h' : Hp) : Prop := Cfr h h' ∧ Phn h' ≤ Phn h ∧ Phs h' ≤ Phs h
theorem Cf0.refl (h : Hp) : Cf0 h h := ⟨Cfr.refl h, Nat.le_refl _, Nat.le_refl _⟩
theorem Cf0.trans {h h1 h2 : Hp} (a : Cf0 h h1) (b : Cf0 h1 h2) : Cf0 h h2 := ⟨a.1.trans0 b.1 a.2.1 a.2.2, Nat.le_trans b.2.1 a.2.1, Nat.le_trans b.2.2 a.2.2⟩
theorem Cf0.of {P : Nat → Nat → Prop} {h h' : Hp} (f : Fp P h h') (hs : ∀ a k, P a k → cfP a k) : Cf0 h h' := by
  refine ⟨Cfr.of f hs, ?_, ?_⟩
  · unfold Phn; rw [f.R, f.R, f.R, f.N]; exact Nat.le_refl _
  · unfold Phs; rw [f.R, f.R, f.R, f.S]; exact Nat.le_refl _
def cnP (se a k : Nat) : Prop := exP se a k ∨ a = se + 11
theorem cn_no4 {se k j : Nat} (h3 : 314 ≤ se) (h : j ≤ 10) : ¬ (se + j = se + 11 ∧ k = k) := fun q => by omega
theorem Shp.cm {h : Hp} {se : Nat} (x : Shp h se) : hK h se = (7, 0) ∧ hR h se 9 = se + 11 ∧ hK h (se + 11) = (21, 64) := by
  obtain ⟨K0, R0, R1, R2, R3, R4, R5, R6, R7, R8, R9, K1, r0, r1, K2, K3, K4, K5, K6, K7, K8, K9, K10, K11⟩ := x
  exact ⟨K0, R9, K11⟩
theorem Sx.c11 {h : Hp} {se : Nat} {A F : Nat → Int} (x : Sx h se A F) {set : Nat} (v : Int) (hv : v = (thU (Lst A F set) : Int)) : Sx (wI h (se + 11) set v) se A F := by
  obtain ⟨x1, x2, x3, x4, x5, x6, x7⟩ := x
  have h3 := x2.2.1
  have f : Fp (fun a _ => a = se + 11) h (wI h (se + 11) set v) := (Fp.refl (fun a _ => a = se + 11) h).wI rfl _
  have e0 : ∀ k, hI (wI h (se + 11) set v) se k = hI h se k := fun k => f.I (by omega)
  have ej : ∀ j k, 4 ≤ j → j ≤ 10 → hI (wI h (se + 11) set v) (se + j) k = hI h (se + j) k := fun j k h1 h2 => f.I (by omega)
  refine ⟨x1.fr f, x2.fr f, x3.fr f, x4.fr f x2 (fun a k q => ⟨Or.inr (by omega), by omega⟩), x5.cg ej, fun s hs => ?_, ?_⟩
  · rw [hI_wI]
    by_cases he : s = set
    · rw [if_pos ⟨rfl, he⟩, hv, he]; exact Or.inr rfl
    · rw [if_neg (fun q => he q.2)]; exact x6 s hs
  · rw [e0]
    rcases x7 with q | ⟨s, q⟩
    · exact Or.inl q
    · exact Or.inr ⟨s, q.cg e0 ej⟩
theorem S_thingsAt {d : Nat} {h : Hp} {Q : Option PV → Hp → Prop} {se p s : Nat} (sh : Shp h se) (hp : p < 1600) (e : hI h (se + 6) p = (s : Int)) (hs : s < 6400) : WP (d + 1) mX7_thingsAt 0 [some (.inr (.inr se)), some (.inl (p : Int))] [] h Q = Q (some (.inl ((s / 100 : Nat) : Int))) h := by
  obtain ⟨K0, R4, K6⟩ := sh.o
  have p6 : (p : Int) < 1600 := Int.ofNat_lt.2 hp
  simp only [rX7_thingsAt_0, rX7_thingsAt_1, rX7_thingsAt_4, rX7_thingsAt_5, rX7_thingsAt_6, rX7_thingsAt_9, K0, R4, K6, p6, e, S_thingsOf (s := s) (by omega), psh_some, Int.toNat_natCast, Int.natCast_nonneg, true_and, and_true, and_self, if_true, if_false, or_true, true_or, or_false, false_or, ne_eq, not_true_eq_false, not_false_eq_true, Nat.reduceLeDiff, Nat.reduceEqDiff, Nat.reduceLT, Nat.reduceAdd, Nat.reduceMul, Nat.reduceSub, Int.reduceLT, Int.reduceLE, Int.reduceEq, Int.reduceToNat, Int.reduceAdd, Int.reduceSub, Int.reduceMul, Int.reduceNeg, Int.cast_ofNat_Int, false_and, and_false]
theorem S_boardAt {d : Nat} {h : Hp} {Q : Option PV → Hp → Prop} {se p s : Nat} (sh : Shp h se) (hp : p < 1600) (e : hI h (se + 6) p = (s : Int)) : WP (d + 1) mX7_boardAt 0 [some (.inr (.inr se)), some (.inl (p : Int))] [] h Q = Q (some (.inl ((s % 100 : Nat) : Int))) h := by
  obtain ⟨K0, R4, K6⟩ := sh.o
  have p6 : (p : Int) < 1600 := Int.ofNat_lt.2 hp
  simp only [rX7_boardAt_0, rX7_boardAt_1, rX7_boardAt_4, rX7_boardAt_5, rX7_boardAt_6, rX7_boardAt_9, K0, R4, K6, p6, e, S_boardOf, psh_some, Int.toNat_natCast, Int.natCast_nonneg, true_and, and_true, and_self, if_true, if_false, or_true, true_or, or_false, false_or, ne_eq, not_true_eq_false, not_false_eq_true, Nat.reduceLeDiff, Nat.reduceEqDiff, Nat.reduceLT, Nat.reduceAdd, Nat.reduceMul, Nat.reduceSub, Int.reduceLT, Int.reduceLE, Int.reduceEq, Int.reduceToNat, Int.reduceAdd, Int.reduceSub, Int.reduceMul, Int.reduceNeg, Int.cast_ofNat_Int, false_and, and_false]
set_option maxHeartbeats 1000000 in
theorem S_canBe {d : Nat} {Q : Option PV → Hp → Prop} {h : Hp} {se : Nat} {A F : Nat → Int} (x : Sx h se A F) {set : Nat} (hset : set < 2 ^ (A 2).toNat)
    (k : ∀ h', Fp (cnP se) h h' → Sx h' se A F → Q (some (.inl (thU (Lst A F set) : Int))) h') :
    WP (d + 6) mX7_canBe 0 [some (.inr (.inr se)), some (.inl (set : Int)), none, none] [] h Q := by
  have po := x.2.2.2.1.1
  have so := x.2.2.2.1.2.1
  have s64 := set64 po hset
  have s64' : (set : Int) < 64 := Int.ofNat_lt.2 s64
  have h3 := x.2.1.2.1
  have g11 : 200 ≤ se + 11 := by omega
  obtain ⟨K0, R9, K11⟩ := x.2.2.1.cm
  have tu0 : ((thU (Lst A F set) : Nat) : Int) ≠ -1 := by omega
  simp only [rX7_canBe_0, rX7_canBe_1, rX7_canBe_4, rX7_canBe_5, rX7_canBe_6, rX7_canBe_7, K0, R9, K11, s64', Int.toNat_natCast, Int.natCast_nonneg, true_and, and_true, and_self, if_true, if_false, or_true, true_or, or_false, false_or, ne_eq, not_true_eq_false, not_false_eq_true, Nat.reduceLeDiff, Nat.reduceEqDiff, Nat.reduceLT, Nat.reduceAdd, Nat.reduceMul, Nat.reduceSub, Int.reduceLT, Int.reduceLE, Int.reduceEq, Int.reduceToNat, Int.reduceAdd, Int.reduceSub, Int.reduceMul, Int.reduceNeg, Int.cast_ofNat_Int, false_and, and_false]
  rcases x.2.2.2.2.2.1 set hset with q | q
  · rw [if_pos q]
    simp only [rX7_canBe_10, rX7_canBe_11, rX7_canBe_12, K0, Int.toNat_natCast, Int.natCast_nonneg, true_and, and_true, and_self, if_true, if_false, or_true, true_or, or_false, false_or, ne_eq, not_true_eq_false, not_false_eq_true, Nat.reduceLeDiff, Nat.reduceEqDiff, Nat.reduceLT, Nat.reduceAdd, Nat.reduceMul, Nat.reduceSub, Int.reduceLT, Int.reduceLE, Int.reduceEq, Int.reduceToNat, Int.reduceAdd, Int.reduceSub, Int.reduceMul, Int.reduceNeg, Int.cast_ofNat_Int, false_and, and_false]
    refine S_explore x hset ?_
    intro h1 f1 x1 srx
    obtain ⟨K01, R91, K111⟩ := x1.2.2.1.cm
    have sh1 := x1.2.2.1
    have ok := Lst_ok po so set
    have l16 := Lst_le po so set
    have len := srx.len
    have ord := fun p hp => srx.ord (p := p) hp
    have tl := thU_or (Lst A F set)
    have fin := k (wI h1 (se + 11) set (thU (Lst A F set) : Int)) ((f1.mono (P' := cnP se) (fun a k q => Or.inl q)).wI (Or.inr rfl) _) (x1.c11 _ rfl)
    rw [tl] at fin
    generalize Lst A F set = L at ok l16 len ord fin
    have ll := ok.len
    simp only [psh_none, rX7_canBe_15, rX7_canBe_16, rX7_canBe_17, rX7_canBe_18]
    have main : ∀ n i, i + n = L.length → WP (d + 6) mX7_canBe 19 [some (.inr (.inr se)), some (.inl (set : Int)), some (.inl (orL L i : Int)), some (.inl (i : Int))] [] h1 Q := by
      intro n
      induction n with
      | zero =>
        intro i hi
        have e : i = L.length := by omega
        subst e
        rw [rX7_canBe_19]
        simp only [rX7_canBe_20, rX7_canBe_21, rX7_canBe_24, rX7_canBe_41, rX7_canBe_42, rX7_canBe_45, rX7_canBe_46, rX7_canBe_47, rX7_canBe_48, rX7_canBe_49, rX7_canBe_52, rX7_canBe_53, rX7_canBe_54, hN_wI, hN_wJ, hN_wR, hS_wI, hS_wJ, hS_wR, hK_wI, hK_wJ, hK_wR, hI_wI, hI_wJ, hI_wR, hJ_wI, hJ_wJ, hJ_wR, hR_wI, hR_wJ, hR_wR, hN_nw, hS_nw, hK_nw, hI_nw, hJ_nw, hR_nw, psh_some, psh_none, K01, R91, K111, len, s64', g11, Int.lt_irrefl, Int.toNat_natCast, Int.natCast_nonneg, true_and, and_true, and_self, if_true, if_false, or_true, true_or, or_false, false_or, ne_eq, not_true_eq_false, not_false_eq_true, Nat.reduceLeDiff, Nat.reduceEqDiff, Nat.reduceLT, Nat.reduceAdd, Nat.reduceMul, Nat.reduceSub, Int.reduceLT, Int.reduceLE, Int.reduceEq, Int.reduceToNat, Int.reduceAdd, Int.reduceSub, Int.reduceMul, Int.reduceNeg, Int.cast_ofNat_Int, false_and, and_false]
        exact fin
      | succ n ih =>
        intro i hi
        have c1 : (i : Int) < (L.length : Int) := by omega
        have il : i < L.length := by omega
        have i6 : i < 1600 := by omega
        have l2 : w32 ((i : Int) + 1) = ((i + 1 : Nat) : Int) := w32_s (by omega)
        have ol := orL_lt ok i (by omega)
        have gl := getD_lt ok il
        have l3 : ior (orL L i : Int) ((L.getD i 0 / 100 : Nat) : Int) = (orL L (i + 1) : Int) := ior_n (by omega) (by omega)
        rw [rX7_canBe_19]
        simp only [rX7_canBe_20, rX7_canBe_21, rX7_canBe_24, rX7_canBe_27, rX7_canBe_28, rX7_canBe_29, rX7_canBe_30, rX7_canBe_33, rX7_canBe_34, rX7_canBe_35, rX7_canBe_38, K01, len, c1, S_thingsAt sh1 i6 (ord i il) gl, psh_some, l3, l2, Int.toNat_natCast, Int.natCast_nonneg, true_and, and_true, and_self, if_true, if_false, or_true, true_or, or_false, false_or, ne_eq, not_true_eq_false, not_false_eq_true, Nat.reduceLeDiff, Nat.reduceEqDiff, Nat.reduceLT, Nat.reduceAdd, Nat.reduceMul, Nat.reduceSub, Int.reduceLT, Int.reduceLE, Int.reduceEq, Int.reduceToNat, Int.reduceAdd, Int.reduceSub, Int.reduceMul, Int.reduceNeg, Int.cast_ofNat_Int, false_and, and_false]
        exact ih (i + 1) (by omega)
    exact main L.length 0 (Nat.zero_add _)
  · rw [q, if_neg tu0]
    simp only [rX7_canBe_48, rX7_canBe_49, rX7_canBe_52, rX7_canBe_53, rX7_canBe_54, K0, R9, K11, s64', q, Int.toNat_natCast, Int.natCast_nonneg, true_and, and_true, and_self, if_true, if_false, or_true, true_or, or_false, false_or, ne_eq, not_true_eq_false, not_false_eq_true, Nat.reduceLeDiff, Nat.reduceEqDiff, Nat.reduceLT, Nat.reduceAdd, Nat.reduceMul, Nat.reduceSub, Int.reduceLT, Int.reduceLE, Int.reduceEq, Int.reduceToNat, Int.reduceAdd, Int.reduceSub, Int.reduceMul, Int.reduceNeg, Int.cast_ofNat_Int, false_and, and_false]
    exact k h (Fp.refl _ h) x
theorem CRep.cn {h h' : Hp} {σ : AS} {se : Nat} (x : CRep h σ) (sx : Sx h se (sA σ) (stA (sA σ))) (f : Fp (cnP se) h h') (sx' : Sx h' se (sA σ) (stA (sA σ))) : CRep h' σ ∧ Cf0 h h' := by
  have h8 : hR h 200 8 = se := sx.2.1.1
  have h3 := sx.2.1.2.1
  have fa := f.fa (S := fun a => (211 ≤ a ∧ a ≤ 213) ∨ seS se a) (fun a k q => by unfold cnP exP at q; unfold seS; omega)
  exact ⟨x.sr fa (by rw [h8]; omega) (fun a q => by rw [h8]; exact q) (x.1.1.fr f) (by rw [h8]; exact sx'.ok), Cf0.of f (fun a k q => by unfold cnP exP at q; unfold cfP; omega)⟩
noncomputable def psV (σ : AS) (t : Int) : Int := if 0 ≤ t ∧ t < ((2 ^ (sA σ 2).toNat : Nat) : Int) then (thU (Lst (sA σ) (stA (sA σ)) t.toNat) : Int) else -3
theorem C_possible {d : Nat} {σ : AS} {t : Int} (ht : i32 t) : CSpec (d + 7) mX11_possible [some (.inr (.inr 200)), some (.inl t)] σ (.inl (psV σ t)) σ := by
  intro h Q x w k
  have m := x.1.1
  unfold psV at k
  simp only [rX11_possible_0, rX11_possible_1, rX11_possible_2, rX11_possible_5, Cs_K200 m, Cs_R200_0 m, Cs_R200_1 m, Cs_R200_2 m, Cs_R200_3 m, Cs_R200_4 m, Cs_R200_5 m, Cs_R200_6 m, Cs_K201 m, Cs_R201_0 m, Cs_R201_1 m, Cs_K202 m, Cs_K203 m, Cs_K211 m, Cs_R211_0 m, Cs_R211_1 m, Cs_K212 m, Cs_K213 m, Cs_K214 m, Cs_R214_0 m, Cs_R214_1 m, Cs_K215 m, Cs_K216 m, Cs_K217 m, Cs_R217_0 m, Cs_R217_1 m, Cs_K218 m, Cs_K219 m, Cs_K220 m, Cs_R220_0 m, Cs_K221 m, Cs_K262 m, Cs_K271 m, Cs_R271_0 m, Cs_R271_1 m, Cs_K272 m, Cs_K276 m, Cs_R272_0 m, Cs_R276_0 m, Cs_K273 m, Cs_R273_0 m, Cs_R273_1 m, Cs_K274 m, Cs_K275 m, Cs_K277 m, Cs_R277_0 m, Cs_R277_1 m, Cs_K278 m, Cs_K279 m, Cs_R262_0 m, Cs_K263 m, Cs_R263_0 m, Cs_K264 m, Cs_R262_1 m, Cs_K265 m, Cs_R265_0 m, Cs_K266 m, Cs_R262_2 m, Cs_K267 m, Cs_R267_0 m, Cs_K268 m, Cs_R262_3 m, Cs_K269 m, Cs_R269_0 m, Cs_K270 m, Int.toNat_natCast, Int.natCast_nonneg, true_and, and_true, and_self, if_true, if_false, or_true, true_or, or_false, false_or, ne_eq, not_true_eq_false, not_false_eq_true, Nat.reduceLeDiff, Nat.reduceEqDiff, Nat.reduceLT, Nat.reduceAdd, Nat.reduceMul, Nat.reduceSub, Int.reduceLT, Int.reduceLE, Int.reduceEq, Int.reduceToNat, Int.reduceAdd, Int.reduceSub, Int.reduceMul, Int.reduceNeg, Int.cast_ofNat_Int, false_and, and_false, S_cSet (x.cp w) ht, psh_some]
  by_cases h1 : 0 ≤ t ∧ t < ((2 ^ (sA σ 2).toNat : Nat) : Int)
  · simp only [if_pos h1] at k
    rw [if_pos h1, if_neg (by decide)]
    obtain ⟨s, rfl, hs⟩ := set_nat h1
    simp only [rX11_possible_8, rX11_possible_9, Cs_K200 m, Cs_R200_0 m, Cs_R200_1 m, Cs_R200_2 m, Cs_R200_3 m, Cs_R200_4 m, Cs_R200_5 m, Cs_R200_6 m, Cs_K201 m, Cs_R201_0 m, Cs_R201_1 m, Cs_K202 m, Cs_K203 m, Cs_K211 m, Cs_R211_0 m, Cs_R211_1 m, Cs_K212 m, Cs_K213 m, Cs_K214 m, Cs_R214_0 m, Cs_R214_1 m, Cs_K215 m, Cs_K216 m, Cs_K217 m, Cs_R217_0 m, Cs_R217_1 m, Cs_K218 m, Cs_K219 m, Cs_K220 m, Cs_R220_0 m, Cs_K221 m, Cs_K262 m, Cs_K271 m, Cs_R271_0 m, Cs_R271_1 m, Cs_K272 m, Cs_K276 m, Cs_R272_0 m, Cs_R276_0 m, Cs_K273 m, Cs_R273_0 m, Cs_R273_1 m, Cs_K274 m, Cs_K275 m, Cs_K277 m, Cs_R277_0 m, Cs_R277_1 m, Cs_K278 m, Cs_K279 m, Cs_R262_0 m, Cs_K263 m, Cs_R263_0 m, Cs_K264 m, Cs_R262_1 m, Cs_K265 m, Cs_R265_0 m, Cs_K266 m, Cs_R262_2 m, Cs_K267 m, Cs_R267_0 m, Cs_K268 m, Cs_R262_3 m, Cs_K269 m, Cs_R269_0 m, Cs_K270 m, Int.toNat_natCast, Int.natCast_nonneg, true_and, and_true, and_self, if_true, if_false, or_true, true_or, or_false, false_or, ne_eq, not_true_eq_false, not_false_eq_true, Nat.reduceLeDiff, Nat.reduceEqDiff, Nat.reduceLT, Nat.reduceAdd, Nat.reduceMul, Nat.reduceSub, Int.reduceLT, Int.reduceLE, Int.reduceEq, Int.reduceToNat, Int.reduceAdd, Int.reduceSub, Int.reduceMul, Int.reduceNeg, Int.cast_ofNat_Int, false_and, and_false]
    refine S_ready (d := d + 3) x w ?_
    intro h' se x' c' pn ps sx
    simp only [psh_some, rX11_possible_12, rX11_possible_13, sx.2.2.1.1, Int.toNat_natCast, Int.natCast_nonneg, true_and, and_true, and_self, if_true, if_false, or_true, true_or, or_false, false_or, ne_eq, not_true_eq_false, not_false_eq_true, Nat.reduceLeDiff, Nat.reduceEqDiff, Nat.reduceLT, Nat.reduceAdd, Nat.reduceMul, Nat.reduceSub, Int.reduceLT, Int.reduceLE, Int.reduceEq, Int.reduceToNat, Int.reduceAdd, Int.reduceSub, Int.reduceMul, Int.reduceNeg, Int.cast_ofNat_Int, false_and, and_false]
    refine S_canBe sx hs ?_
    intro h2 f2 sx2
    obtain ⟨x2, c2⟩ := x'.cn sx f2 sx2
    simp only [psh_some, rX11_possible_16, rX11_possible_21]
    exact k h2 x2 (c'.trans0 c2.1 pn ps)
  · simp only [if_neg h1] at k
    rw [if_neg h1, if_pos (by trivial)]
    simp only [rX11_possible_19, rX11_possible_21]
    exact k h x (Cfr.refl h)
theorem div100 {s : Nat} (hs : s < 6400) : w32 ((s : Int).tdiv 100) = ((s / 100 : Nat) : Int) := by rw [tdiv_n (by omega), w32_i (by omega) (by omega)]; omega
theorem R_possible {d : Nat} {σ : AS} {t : Int} : RSpec (d + 4) mX12_possible [some (.inr (.inr 294)), some (.inl t), none, none] σ (.inl (psV σ t)) σ := by
  refine RSpec5.of (RSpec5.u ?_) (fun h Q hk => by simp only [rX12_possible_0, rX12_possible_1, rX12_possible_2, hk, Int.toNat_natCast, Int.natCast_nonneg, true_and, and_true, and_self, if_true, if_false, or_true, true_or, or_false, false_or, ne_eq, not_true_eq_false, not_false_eq_true, Nat.reduceLeDiff, Nat.reduceEqDiff, Nat.reduceLT, Nat.reduceAdd, Nat.reduceMul, Nat.reduceSub, Int.reduceLT, Int.reduceLE, Int.reduceEq, Int.reduceToNat, Int.reduceAdd, Int.reduceSub, Int.reduceMul, Int.reduceNeg, Int.cast_ofNat_Int, false_and, and_false])
  intro h Q x w k
  have m := x.1
  unfold psV at k
  simp only [rX12_possible_5, rX12_possible_6, rX12_possible_7, rX12_possible_10, rX12_possible_13, rX12_possible_15, Md_K280 m, Md_R281 m, Md_K281 m, Md_R282 m, Md_K282 m, Md_R283 m, Md_K283 m, Md_R284 m, Md_K284 m, Md_R285 m, Md_K285 m, Md_R286 m, Md_K286 m, Md_R287 m, Md_K287 m, Md_R288 m, Md_K288 m, Md_R289 m, Md_K289 m, Md_R290 m, Md_K290 m, Md_R291 m, Md_K291 m, Md_R292 m, Md_K292 m, Md_R293 m, Md_K293 m, Md_R294 m, Md_K294 m, Md_R295 m, Md_K295 m, Md_R296 m, Md_K296 m, Md_R297 m, Md_K297 m, Md_R298 m, Md_K298 m, Md_R299 m, Md_K299 m, Int.toNat_natCast, Int.natCast_nonneg, true_and, and_true, and_self, if_true, if_false, or_true, true_or, or_false, false_or, ne_eq, not_true_eq_false, not_false_eq_true, Nat.reduceLeDiff, Nat.reduceEqDiff, Nat.reduceLT, Nat.reduceAdd, Nat.reduceMul, Nat.reduceSub, Int.reduceLT, Int.reduceLE, Int.reduceEq, Int.reduceToNat, Int.reduceAdd, Int.reduceSub, Int.reduceMul, Int.reduceNeg, Int.cast_ofNat_Int, false_and, and_false, S_rSet (x.rp w), psh_some]
  by_cases h1 : 0 ≤ t ∧ t < ((2 ^ (sA σ 2).toNat : Nat) : Int)
  · simp only [if_pos h1] at k
    rw [if_pos h1, if_neg (by decide)]
    obtain ⟨s, rfl, hs⟩ := set_nat h1
    simp only [Int.toNat_natCast] at k
    simp only [rX12_possible_16, rX12_possible_17, rX12_possible_18, Md_K280 m, Md_R281 m, Md_K281 m, Md_R282 m, Md_K282 m, Md_R283 m, Md_K283 m, Md_R284 m, Md_K284 m, Md_R285 m, Md_K285 m, Md_R286 m, Md_K286 m, Md_R287 m, Md_K287 m, Md_R288 m, Md_K288 m, Md_R289 m, Md_K289 m, Md_R290 m, Md_K290 m, Md_R291 m, Md_K291 m, Md_R292 m, Md_K292 m, Md_R293 m, Md_K293 m, Md_R294 m, Md_K294 m, Md_R295 m, Md_K295 m, Md_R296 m, Md_K296 m, Md_R297 m, Md_K297 m, Md_R298 m, Md_K298 m, Md_R299 m, Md_K299 m, Int.toNat_natCast, Int.natCast_nonneg, true_and, and_true, and_self, if_true, if_false, or_true, true_or, or_false, false_or, ne_eq, not_true_eq_false, not_false_eq_true, Nat.reduceLeDiff, Nat.reduceEqDiff, Nat.reduceLT, Nat.reduceAdd, Nat.reduceMul, Nat.reduceSub, Int.reduceLT, Int.reduceLE, Int.reduceEq, Int.reduceToNat, Int.reduceAdd, Int.reduceSub, Int.reduceMul, Int.reduceNeg, Int.cast_ofNat_Int, false_and, and_false]
    refine S_laysStands (x.rp w) w.2.1 (set64 w.1 hs) ?_
    intro h' f' x'
    have m' := x'.1
    have k0 := k h' (f'.mono (fun a k q => rsP_u q))
    rw [thU_or] at k0
    have len := x'.2.2.1
    have ok := x'.2.2.2.1
    have ord := x'.2.2.2.2.1
    generalize Lst (sA σ) (stA (sA σ)) s = L at ok len ord k0
    simp only [psh_none, rX12_possible_21, rX12_possible_22, rX12_possible_23, rX12_possible_24]
    have main : ∀ n i, i + n = L.length → WP (d + 4) mX12_possible 25 [some (.inr (.inr 294)), some (.inl (s : Int)), some (.inl (orL L i : Int)), some (.inl (i : Int))] [] h' Q := by
      have ll := ok.len
      intro n
      induction n with
      | zero =>
        intro i hi
        have e : i = L.length := by omega
        subst e
        rw [rX12_possible_25]
        simp only [rX12_possible_26, rX12_possible_27, rX12_possible_30, rX12_possible_51, rX12_possible_52, Md_K280 m', Md_R281 m', Md_K281 m', Md_R282 m', Md_K282 m', Md_R283 m', Md_K283 m', Md_R284 m', Md_K284 m', Md_R285 m', Md_K285 m', Md_R286 m', Md_K286 m', Md_R287 m', Md_K287 m', Md_R288 m', Md_K288 m', Md_R289 m', Md_K289 m', Md_R290 m', Md_K290 m', Md_R291 m', Md_K291 m', Md_R292 m', Md_K292 m', Md_R293 m', Md_K293 m', Md_R294 m', Md_K294 m', Md_R295 m', Md_K295 m', Md_R296 m', Md_K296 m', Md_R297 m', Md_K297 m', Md_R298 m', Md_K298 m', Md_R299 m', Md_K299 m', len, Int.lt_irrefl, Int.toNat_natCast, Int.natCast_nonneg, true_and, and_true, and_self, if_true, if_false, or_true, true_or, or_false, false_or, ne_eq, not_true_eq_false, not_false_eq_true, Nat.reduceLeDiff, Nat.reduceEqDiff, Nat.reduceLT, Nat.reduceAdd, Nat.reduceMul, Nat.reduceSub, Int.reduceLT, Int.reduceLE, Int.reduceEq, Int.reduceToNat, Int.reduceAdd, Int.reduceSub, Int.reduceMul, Int.reduceNeg, Int.cast_ofNat_Int, false_and, and_false]
        exact k0
      | succ n ih =>
        intro i hi
        have c1 : (i : Int) < (L.length : Int) := by omega
        have il : i < L.length := by omega
        have c2 : (i : Int) < 6400 := by omega
        have l2 : w32 ((i : Int) + 1) = ((i + 1 : Nat) : Int) := w32_s (by omega)
        have ol := orL_lt ok i (by omega)
        have gl := getD_lt ok il
        have l3 : ior (orL L i : Int) ((L.getD i 0 / 100 : Nat) : Int) = (orL L (i + 1) : Int) := ior_n (by omega) (by omega)
        have go := ih (i + 1) (by omega)
        rw [rX12_possible_25]
        simp only [rX12_possible_26, rX12_possible_27, rX12_possible_30, rX12_possible_33, rX12_possible_34, rX12_possible_35, rX12_possible_38, rX12_possible_39, rX12_possible_40, rX12_possible_42, rX12_possible_43, rX12_possible_44, rX12_possible_45, rX12_possible_48, Md_K280 m', Md_R281 m', Md_K281 m', Md_R282 m', Md_K282 m', Md_R283 m', Md_K283 m', Md_R284 m', Md_K284 m', Md_R285 m', Md_K285 m', Md_R286 m', Md_K286 m', Md_R287 m', Md_K287 m', Md_R288 m', Md_K288 m', Md_R289 m', Md_K289 m', Md_R290 m', Md_K290 m', Md_R291 m', Md_K291 m', Md_R292 m', Md_K292 m', Md_R293 m', Md_K293 m', Md_R294 m', Md_K294 m', Md_R295 m', Md_K295 m', Md_R296 m', Md_K296 m', Md_R297 m', Md_K297 m', Md_R298 m', Md_K298 m', Md_R299 m', Md_K299 m', len, c1, c2, ord i il, div100 gl, l3, l2, Int.toNat_natCast, Int.natCast_nonneg, true_and, and_true, and_self, if_true, if_false, or_true, true_or, or_false, false_or, ne_eq, not_true_eq_false, not_false_eq_true, Nat.reduceLeDiff, Nat.reduceEqDiff, Nat.reduceLT, Nat.reduceAdd, Nat.reduceMul, Nat.reduceSub, Int.reduceLT, Int.reduceLE, Int.reduceEq, Int.reduceToNat, Int.reduceAdd, Int.reduceSub, Int.reduceMul, Int.reduceNeg, Int.cast_ofNat_Int, false_and, and_false]
        exact go
    exact main L.length 0 (Nat.zero_add _)
  · simp only [if_neg h1] at k
    rw [if_neg h1, if_pos (by trivial)]
    exact k h (Fp.refl _ h)
theorem orL_bit {L : List Nat} {t : Nat} : ∀ n, (orL L n).testBit t = true ↔ ∃ p, p < n ∧ (L.getD p 0 / 100).testBit t = true := by
  intro n
  induction n with
  | zero => constructor
            · intro h; exact absurd h (by show ¬ (0 : Nat).testBit t = true; simp)
            · rintro ⟨p, hp, _⟩; omega
  | succ n ih =>
    show (orL L n ||| L.getD n 0 / 100).testBit t = true ↔ _
    rw [Nat.testBit_or, Bool.or_eq_true, ih]
    constructor
    · rintro (⟨p, hp, e⟩ | e)
      · exact ⟨p, by omega, e⟩
      · exact ⟨n, by omega, e⟩
    · rintro ⟨p, hp, e⟩
      by_cases he : p = n
      · rw [he] at e; exact Or.inr e
      · exact Or.inl ⟨p, by omega, e⟩
theorem S_isGoal {d : Nat} {h : Hp} {Q : Option PV → Hp → Prop} {s t : Nat} (hs : s < 6400) (ht : t < 6) : WP (d + 1) mX12_isGoal 0 [some (.inl (s : Int)), some (.inl (t : Int))] [] h Q = Q (some (.inl (if (s / 100).testBit t = true then 1 else 0))) h := by
  have t1 : (t : Int) < 100 := by omega
  have s1 : s / 100 < 64 := by omega
  simp only [rX12_isGoal_0, rX12_isGoal_1, rX12_isGoal_3, rX12_isGoal_6, rX12_isGoal_7, rX12_isGoal_9, rX12_isGoal_10, rX12_isGoal_11, rX12_isGoal_12, rX12_isGoal_15, rX12_isGoal_18, rX12_isGoal_19, rX12_isGoal_21, rX12_isGoal_22, rX12_isGoal_23, rX12_isGoal_25, rX12_isGoal_26, rX12_isGoal_29, rX12_isGoal_30, rX12_isGoal_33, rX12_isGoal_34, t1, div100 hs, S_isIn s1 ht, psh_some, Int.toNat_natCast, Int.natCast_nonneg, true_and, and_true, and_self, if_true, if_false, or_true, true_or, or_false, false_or, ne_eq, not_true_eq_false, not_false_eq_true, Nat.reduceLeDiff, Nat.reduceEqDiff, Nat.reduceLT, Nat.reduceAdd, Nat.reduceMul, Nat.reduceSub, Int.reduceLT, Int.reduceLE, Int.reduceEq, Int.reduceToNat, Int.reduceAdd, Int.reduceSub, Int.reduceMul, Int.reduceNeg, Int.cast_ofNat_Int, false_and, and_false]
  by_cases hb : (s / 100).testBit t = true <;> simp [hb]
theorem S_canCome {d : Nat} {Q : Option PV → Hp → Prop} {h : Hp} {A : Nat → Int} (x : RpF h A) (so : stOk (stA A)) {set t : Nat} (hset : set < 64) (ht : t < 6)
    (k : ∀ h', Fp rsP h h' → Q (some (.inl (if (thU (Lst A (stA A) set)).testBit t = true then 1 else 0))) h') : WP (d + 4) mX12_canCome 0 [some (.inr (.inr 294)), some (.inl (t : Int)), some (.inl (set : Int)), none] [] h Q := by
  have m := x.1
  simp only [rX12_canCome_0, rX12_canCome_1, rX12_canCome_2, Md_K280 m, Md_R281 m, Md_K281 m, Md_R282 m, Md_K282 m, Md_R283 m, Md_K283 m, Md_R284 m, Md_K284 m, Md_R285 m, Md_K285 m, Md_R286 m, Md_K286 m, Md_R287 m, Md_K287 m, Md_R288 m, Md_K288 m, Md_R289 m, Md_K289 m, Md_R290 m, Md_K290 m, Md_R291 m, Md_K291 m, Md_R292 m, Md_K292 m, Md_R293 m, Md_K293 m, Md_R294 m, Md_K294 m, Md_R295 m, Md_K295 m, Md_R296 m, Md_K296 m, Md_R297 m, Md_K297 m, Md_R298 m, Md_K298 m, Md_R299 m, Md_K299 m, Int.toNat_natCast, Int.natCast_nonneg, true_and, and_true, and_self, if_true, if_false, or_true, true_or, or_false, false_or, ne_eq, not_true_eq_false, not_false_eq_true, Nat.reduceLeDiff, Nat.reduceEqDiff, Nat.reduceLT, Nat.reduceAdd, Nat.reduceMul, Nat.reduceSub, Int.reduceLT, Int.reduceLE, Int.reduceEq, Int.reduceToNat, Int.reduceAdd, Int.reduceSub, Int.reduceMul, Int.reduceNeg, Int.cast_ofNat_Int, false_and, and_false]
  refine S_laysStands x so hset ?_
  intro h' f' x'
  have m' := x'.1
  have k0 := k h' f'
  rw [thU_or] at k0
  have len := x'.2.2.1
  have ok := x'.2.2.2.1
  have ord := x'.2.2.2.2.1
  generalize Lst A (stA A) set = L at ok len ord k0
  simp only [psh_none, rX12_canCome_5, rX12_canCome_6]
  have main : ∀ n i, i + n = L.length → (∀ p, p < i → (L.getD p 0 / 100).testBit t = false) → WP (d + 4) mX12_canCome 7 [some (.inr (.inr 294)), some (.inl (t : Int)), some (.inl (set : Int)), some (.inl (i : Int))] [] h' Q := by
    have ll := ok.len
    intro n
    induction n with
    | zero =>
      intro i hi hno
      have e : i = L.length := by omega
      subst e
      rw [rX12_canCome_7]
      simp only [rX12_canCome_8, rX12_canCome_9, rX12_canCome_12, rX12_canCome_36, rX12_canCome_37, Md_K280 m', Md_R281 m', Md_K281 m', Md_R282 m', Md_K282 m', Md_R283 m', Md_K283 m', Md_R284 m', Md_K284 m', Md_R285 m', Md_K285 m', Md_R286 m', Md_K286 m', Md_R287 m', Md_K287 m', Md_R288 m', Md_K288 m', Md_R289 m', Md_K289 m', Md_R290 m', Md_K290 m', Md_R291 m', Md_K291 m', Md_R292 m', Md_K292 m', Md_R293 m', Md_K293 m', Md_R294 m', Md_K294 m', Md_R295 m', Md_K295 m', Md_R296 m', Md_K296 m', Md_R297 m', Md_K297 m', Md_R298 m', Md_K298 m', Md_R299 m', Md_K299 m', len, Int.lt_irrefl, Int.toNat_natCast, Int.natCast_nonneg, true_and, and_true, and_self, if_true, if_false, or_true, true_or, or_false, false_or, ne_eq, not_true_eq_false, not_false_eq_true, Nat.reduceLeDiff, Nat.reduceEqDiff, Nat.reduceLT, Nat.reduceAdd, Nat.reduceMul, Nat.reduceSub, Int.reduceLT, Int.reduceLE, Int.reduceEq, Int.reduceToNat, Int.reduceAdd, Int.reduceSub, Int.reduceMul, Int.reduceNeg, Int.cast_ofNat_Int, false_and, and_false]
      rw [if_neg (fun q => by obtain ⟨p, hp, e⟩ := (orL_bit _).1 q; rw [hno p hp] at e; exact absurd e (by decide))] at k0
      exact k0
    | succ n ih =>
      intro i hi hno
      have c1 : (i : Int) < (L.length : Int) := by omega
      have il : i < L.length := by omega
      have c2 : (i : Int) < 6400 := by omega
      have l2 : w32 ((i : Int) + 1) = ((i + 1 : Nat) : Int) := w32_s (by omega)
      have gl := getD_lt ok il
      have go := ih (i + 1) (by omega)
      rw [rX12_canCome_7]
      simp only [rX12_canCome_8, rX12_canCome_9, rX12_canCome_12, rX12_canCome_15, rX12_canCome_16, rX12_canCome_19, rX12_canCome_20, rX12_canCome_21, rX12_canCome_22, rX12_canCome_25, Md_K280 m', Md_R281 m', Md_K281 m', Md_R282 m', Md_K282 m', Md_R283 m', Md_K283 m', Md_R284 m', Md_K284 m', Md_R285 m', Md_K285 m', Md_R286 m', Md_K286 m', Md_R287 m', Md_K287 m', Md_R288 m', Md_K288 m', Md_R289 m', Md_K289 m', Md_R290 m', Md_K290 m', Md_R291 m', Md_K291 m', Md_R292 m', Md_K292 m', Md_R293 m', Md_K293 m', Md_R294 m', Md_K294 m', Md_R295 m', Md_K295 m', Md_R296 m', Md_K296 m', Md_R297 m', Md_K297 m', Md_R298 m', Md_K298 m', Md_R299 m', Md_K299 m', len, c1, c2, ord i il, S_isGoal gl ht, psh_some, Int.toNat_natCast, Int.natCast_nonneg, true_and, and_true, and_self, if_true, if_false, or_true, true_or, or_false, false_or, ne_eq, not_true_eq_false, not_false_eq_true, Nat.reduceLeDiff, Nat.reduceEqDiff, Nat.reduceLT, Nat.reduceAdd, Nat.reduceMul, Nat.reduceSub, Int.reduceLT, Int.reduceLE, Int.reduceEq, Int.reduceToNat, Int.reduceAdd, Int.reduceSub, Int.reduceMul, Int.reduceNeg, Int.cast_ofNat_Int, false_and, and_false]
      by_cases hb : (L.getD i 0 / 100).testBit t = true
      · rw [if_pos hb, if_neg (by decide)]
        simp only [rX12_canCome_28, rX12_canCome_29, Int.toNat_natCast, Int.natCast_nonneg, true_and, and_true, and_self, if_true, if_false, or_true, true_or, or_false, false_or, ne_eq, not_true_eq_false, not_false_eq_true, Nat.reduceLeDiff, Nat.reduceEqDiff, Nat.reduceLT, Nat.reduceAdd, Nat.reduceMul, Nat.reduceSub, Int.reduceLT, Int.reduceLE, Int.reduceEq, Int.reduceToNat, Int.reduceAdd, Int.reduceSub, Int.reduceMul, Int.reduceNeg, Int.cast_ofNat_Int, false_and, and_false]
        rw [if_pos ((orL_bit _).2 ⟨i, il, hb⟩)] at k0
        exact k0
      · rw [if_neg hb, if_pos (by trivial)]
        simp only [rX12_canCome_30, rX12_canCome_33, l2]
        refine go (fun p hp => ?_)
        by_cases he : p = i
        · rw [he]; simpa using hb
        · exact hno p (by omega)
  exact main L.length 0 (Nat.zero_add _) (fun p hp => by omega)
/-! who is needed -/
theorem all_lt {A : Nat → Int} : 2 ^ (A 2).toNat - 1 < 2 ^ (A 2).toNat := by have := Nat.one_le_two_pow (n := (A 2).toNat); omega
theorem wo_n {G g : Nat} (hG : G ≤ 6) (hg : g < 6) : iand ((2 ^ G - 1 : Nat) : Int) (ixor (ishl 1 (g : Int)) (-1)) = (without (2 ^ G - 1) (2 ^ g) : Int) := by
  have := pow6 hG
  exact without_n (by have := Nat.one_le_two_pow (n := G); omega) hg
theorem wo_lt (G g : Nat) : without (2 ^ G - 1) (2 ^ g) < 2 ^ G := by
  have := without_le (2 ^ G - 1) (2 ^ g)
  have := Nat.one_le_two_pow (n := G)
  omega
/-- whether a thing can come of a set -/
noncomputable def ccB (A F : Nat → Int) (set t : Nat) : Bool := (thU (Lst A F set)).testBit t
noncomputable def ndS (A F : Nat → Int) (t G : Nat) : Nat → Nat
  | 0 => 0
  | n + 1 => if ccB A F (without (2 ^ G - 1) (2 ^ n)) t = true then ndS A F t G n else ndS A F t G n ||| 2 ^ n
theorem ndS_lt (A F : Nat → Int) (t G : Nat) : ∀ n, n ≤ 6 → ndS A F t G n < 64 := by
  intro n
  induction n with
  | zero => intro _; exact (by decide : 0 < 64)
  | succ n ih =>
    intro hn
    have := ih (by omega)
    unfold ndS; split
    · exact this
    · exact Nat.or_lt_two_pow (n := 6) this (Nat.pow_lt_pow_right (a := 2) (by decide) (by omega))
theorem cc_now {A F : Nat → Int} (so : stOk F) {set t : Nat} (h : (F 1).toNat.testBit t = true) : ccB A F set t = true := by
  unfold ccB
  rw [thU_or]
  refine (orL_bit _).2 ⟨0, (Lst_0 A F set).2, ?_⟩
  rw [(Lst_0 A F set).1, (stt_mod so).2]
  exact h
theorem ndS_now {A F : Nat → Int} (so : stOk F) {t G : Nat} (h : (F 1).toNat.testBit t = true) : ∀ n, ndS A F t G n = 0 := by
  intro n
  induction n with
  | zero => rfl
  | succ n ih =>
    unfold ndS
    rw [if_pos (cc_now so h), ih]
noncomputable def ndV (σ : AS) (t : Int) : Int := if 0 ≤ t ∧ t < sA σ 1 then (if ccB (sA σ) (stA (sA σ)) (2 ^ (sA σ 2).toNat - 1) t.toNat = true then (ndS (sA σ) (stA (sA σ)) t.toNat (sA σ 2).toNat (sA σ 2).toNat : Int) else 0) else -2
theorem tl31 {A F : Nat → Int} (po : poolOk A) (so : stOk F) (s : Nat) : thU (Lst A F s) < 2147483648 := by
  rw [thU_or]
  have := orL_lt (Lst_ok po so s) _ (Nat.le_refl _)
  omega
theorem th31 {F : Nat → Int} (so : stOk F) : (F 1).toNat < 2147483648 := by have := so.2.2.2.1; omega
theorem C_G {h : Hp} {σ : AS} (x : CRep h σ) (w : WF σ) : ∃ p, hR h 200 7 = p ∧ hK h p = (5, 0) ∧ hI h p 11 = sA σ 2 := by
  obtain ⟨p, hp, _, _, _, pk, _, _, _, _, _, _, _, _, _, pG, _⟩ := (x.cp w).get
  exact ⟨p, hp, pk, pG⟩
set_option maxHeartbeats 1000000 in
theorem nd_loop {d : Nat} {Q : Option PV → Hp → Prop} {h0 : Hp} {σ : AS} (w : WF σ) {n se : Nat} (n31 : n < 31) (k : ∀ h', CRep h' σ → Cf0 h0 h' → Q (some (.inl (ndS (sA σ) (stA (sA σ)) n (sA σ 2).toNat (sA σ 2).toNat : Int))) h') :
    ∀ q i h', i + q = (sA σ 2).toNat → CRep h' σ → Cf0 h0 h' → Sx h' se (sA σ) (stA (sA σ)) → WP (d + 7) mX11_needed 52 [some (.inr (.inr 200)), some (.inl (n : Int)), some (.inr (.inr se)), some (.inl (ndS (sA σ) (stA (sA σ)) n (sA σ 2).toNat i : Int)), some (.inl (i : Int))] [] h' Q := by
  have G0 := w.1.2.2.1
  have G6 := w.1.2.2.2.1
  have gN : (sA σ 2).toNat ≤ 6 := by omega
  intro q
  induction q with
  | zero =>
    intro i h' hi x' cf' sx'
    have e : (i : Int) = sA σ 2 := by omega
    have e' : i = (sA σ 2).toNat := by omega
    have m' := x'.1.1
    obtain ⟨p, hp, pk, pG⟩ := C_G x' w
    rw [rX11_needed_52]
    simp only [rX11_needed_54, rX11_needed_55, rX11_needed_58, rX11_needed_61, rX11_needed_99, rX11_needed_100, Cs_K200 m', hp, pk, pG, e, Int.lt_irrefl, Int.toNat_natCast, Int.natCast_nonneg, true_and, and_true, and_self, if_true, if_false, or_true, true_or, or_false, false_or, ne_eq, not_true_eq_false, not_false_eq_true, Nat.reduceLeDiff, Nat.reduceEqDiff, Nat.reduceLT, Nat.reduceAdd, Nat.reduceMul, Nat.reduceSub, Int.reduceLT, Int.reduceLE, Int.reduceEq, Int.reduceToNat, Int.reduceAdd, Int.reduceSub, Int.reduceMul, Int.reduceNeg, Int.cast_ofNat_Int, false_and, and_false]
    rw [e']
    exact k h' x' cf'
  | succ q ih =>
    intro i h' hi x' cf' sx'
    have l1 : (i : Int) < sA σ 2 := by omega
    have i6 : i < 6 := by omega
    have i31 : i < 31 := by omega
    have l2 : w32 ((i : Int) + 1) = ((i + 1 : Nat) : Int) := w32_s (by omega)
    have hi' : i + 1 + q = (sA σ 2).toNat := by omega
    have nl := ndS_lt (sA σ) (stA (sA σ)) n (sA σ 2).toNat i (by omega)
    have ob := orb_n (a := ndS (sA σ) (stA (sA σ)) n (sA σ 2).toNat i) (i := i) (Nat.lt_trans nl (by decide)) i31
    have wo := wo_n gN i6
    have wl := wo_lt (sA σ 2).toNat i
    have m' := x'.1.1
    obtain ⟨p, hp, pk, pG⟩ := C_G x' w
    rw [rX11_needed_52]
    simp only [rX11_needed_54, rX11_needed_55, rX11_needed_58, rX11_needed_61, Cs_K200 m', hp, pk, pG, l1, Int.toNat_natCast, Int.natCast_nonneg, true_and, and_true, and_self, if_true, if_false, or_true, true_or, or_false, false_or, ne_eq, not_true_eq_false, not_false_eq_true, Nat.reduceLeDiff, Nat.reduceEqDiff, Nat.reduceLT, Nat.reduceAdd, Nat.reduceMul, Nat.reduceSub, Int.reduceLT, Int.reduceLE, Int.reduceEq, Int.reduceToNat, Int.reduceAdd, Int.reduceSub, Int.reduceMul, Int.reduceNeg, Int.cast_ofNat_Int, false_and, and_false]
    simp only [rX11_needed_64, rX11_needed_65, rX11_needed_66, rX11_needed_69, rX11_needed_70, rX11_needed_72, rX11_needed_73, rX11_needed_74, rX11_needed_75, rX11_needed_76, Cs_K200 m', S_cAll (x'.cp w), psh_some, wo, sx'.2.2.1.1, Int.toNat_natCast, Int.natCast_nonneg, true_and, and_true, and_self, if_true, if_false, or_true, true_or, or_false, false_or, ne_eq, not_true_eq_false, not_false_eq_true, Nat.reduceLeDiff, Nat.reduceEqDiff, Nat.reduceLT, Nat.reduceAdd, Nat.reduceMul, Nat.reduceSub, Int.reduceLT, Int.reduceLE, Int.reduceEq, Int.reduceToNat, Int.reduceAdd, Int.reduceSub, Int.reduceMul, Int.reduceNeg, Int.cast_ofNat_Int, false_and, and_false]
    refine S_canBe sx' wl ?_
    intro h3 f3 sx3
    obtain ⟨x3, cf3⟩ := x'.cn sx' f3 sx3
    simp only [psh_some, rX11_needed_79, rX11_needed_80, rX11_needed_83, S_has (tl31 w.1 w.2.1 _) n31, Int.toNat_natCast, Int.natCast_nonneg, true_and, and_true, and_self, if_true, if_false, or_true, true_or, or_false, false_or, ne_eq, not_true_eq_false, not_false_eq_true, Nat.reduceLeDiff, Nat.reduceEqDiff, Nat.reduceLT, Nat.reduceAdd, Nat.reduceMul, Nat.reduceSub, Int.reduceLT, Int.reduceLE, Int.reduceEq, Int.reduceToNat, Int.reduceAdd, Int.reduceSub, Int.reduceMul, Int.reduceNeg, Int.cast_ofNat_Int, false_and, and_false]
    have go := ih (i + 1) h3 hi' x3 (cf'.trans cf3) sx3
    unfold ndS at go
    by_cases hd : ccB (sA σ) (stA (sA σ)) (without (2 ^ (sA σ 2).toNat - 1) (2 ^ i)) n = true
    · have hd' : (thU (Lst (sA σ) (stA (sA σ)) (without (2 ^ (sA σ 2).toNat - 1) (2 ^ i)))).testBit n = true := hd
      rw [if_pos hd] at go
      rw [if_pos hd', if_neg (by decide)]
      simp only [rX11_needed_93, rX11_needed_96, l2]
      exact go
    · have hd' : ¬ (thU (Lst (sA σ) (stA (sA σ)) (without (2 ^ (sA σ 2).toNat - 1) (2 ^ i)))).testBit n = true := hd
      rw [if_neg hd] at go
      rw [if_neg hd', if_pos (by trivial)]
      simp only [rX11_needed_86, rX11_needed_87, rX11_needed_88, rX11_needed_90, rX11_needed_91, rX11_needed_92, rX11_needed_93, rX11_needed_96, ob, l2]
      exact go
set_option maxHeartbeats 1000000 in
theorem C_needed {d : Nat} {σ : AS} {t : Int} : CSpec (d + 7) mX11_needed [some (.inr (.inr 200)), some (.inl t), none, none, none] σ (.inl (ndV σ t)) σ := by
  intro h Q x w k
  have m := x.1.1
  unfold ndV at k
  simp only [rX11_needed_0, rX11_needed_1, rX11_needed_2, rX11_needed_5, rX11_needed_8, rX11_needed_10, Cs_K200 m, Cs_R200_0 m, Cs_R200_1 m, Cs_R200_2 m, Cs_R200_3 m, Cs_R200_4 m, Cs_R200_5 m, Cs_R200_6 m, Cs_K201 m, Cs_R201_0 m, Cs_R201_1 m, Cs_K202 m, Cs_K203 m, Cs_K211 m, Cs_R211_0 m, Cs_R211_1 m, Cs_K212 m, Cs_K213 m, Cs_K214 m, Cs_R214_0 m, Cs_R214_1 m, Cs_K215 m, Cs_K216 m, Cs_K217 m, Cs_R217_0 m, Cs_R217_1 m, Cs_K218 m, Cs_K219 m, Cs_K220 m, Cs_R220_0 m, Cs_K221 m, Cs_K262 m, Cs_K271 m, Cs_R271_0 m, Cs_R271_1 m, Cs_K272 m, Cs_K276 m, Cs_R272_0 m, Cs_R276_0 m, Cs_K273 m, Cs_R273_0 m, Cs_R273_1 m, Cs_K274 m, Cs_K275 m, Cs_K277 m, Cs_R277_0 m, Cs_R277_1 m, Cs_K278 m, Cs_K279 m, Cs_R262_0 m, Cs_K263 m, Cs_R263_0 m, Cs_K264 m, Cs_R262_1 m, Cs_K265 m, Cs_R265_0 m, Cs_K266 m, Cs_R262_2 m, Cs_K267 m, Cs_R267_0 m, Cs_K268 m, Cs_R262_3 m, Cs_K269 m, Cs_R269_0 m, Cs_K270 m, Int.toNat_natCast, Int.natCast_nonneg, true_and, and_true, and_self, if_true, if_false, or_true, true_or, or_false, false_or, ne_eq, not_true_eq_false, not_false_eq_true, Nat.reduceLeDiff, Nat.reduceEqDiff, Nat.reduceLT, Nat.reduceAdd, Nat.reduceMul, Nat.reduceSub, Int.reduceLT, Int.reduceLE, Int.reduceEq, Int.reduceToNat, Int.reduceAdd, Int.reduceSub, Int.reduceMul, Int.reduceNeg, Int.cast_ofNat_Int, false_and, and_false, S_cThing (x.cp w), psh_some]
  by_cases h1 : 0 ≤ t ∧ t < sA σ 1
  · simp only [if_pos h1] at k
    rw [if_pos h1, if_neg (by decide)]
    obtain ⟨n, rfl⟩ := Int.eq_ofNat_of_zero_le h1.1
    have n6 : n < 6 := by have := w.1.2.1; omega
    have n31 : n < 31 := by omega
    simp only [Int.toNat_natCast] at k
    simp only [rX11_needed_11, rX11_needed_12, Cs_K200 m, Cs_R200_0 m, Cs_R200_1 m, Cs_R200_2 m, Cs_R200_3 m, Cs_R200_4 m, Cs_R200_5 m, Cs_R200_6 m, Cs_K201 m, Cs_R201_0 m, Cs_R201_1 m, Cs_K202 m, Cs_K203 m, Cs_K211 m, Cs_R211_0 m, Cs_R211_1 m, Cs_K212 m, Cs_K213 m, Cs_K214 m, Cs_R214_0 m, Cs_R214_1 m, Cs_K215 m, Cs_K216 m, Cs_K217 m, Cs_R217_0 m, Cs_R217_1 m, Cs_K218 m, Cs_K219 m, Cs_K220 m, Cs_R220_0 m, Cs_K221 m, Cs_K262 m, Cs_K271 m, Cs_R271_0 m, Cs_R271_1 m, Cs_K272 m, Cs_K276 m, Cs_R272_0 m, Cs_R276_0 m, Cs_K273 m, Cs_R273_0 m, Cs_R273_1 m, Cs_K274 m, Cs_K275 m, Cs_K277 m, Cs_R277_0 m, Cs_R277_1 m, Cs_K278 m, Cs_K279 m, Cs_R262_0 m, Cs_K263 m, Cs_R263_0 m, Cs_K264 m, Cs_R262_1 m, Cs_K265 m, Cs_R265_0 m, Cs_K266 m, Cs_R262_2 m, Cs_K267 m, Cs_R267_0 m, Cs_K268 m, Cs_R262_3 m, Cs_K269 m, Cs_R269_0 m, Cs_K270 m, Int.toNat_natCast, Int.natCast_nonneg, true_and, and_true, and_self, if_true, if_false, or_true, true_or, or_false, false_or, ne_eq, not_true_eq_false, not_false_eq_true, Nat.reduceLeDiff, Nat.reduceEqDiff, Nat.reduceLT, Nat.reduceAdd, Nat.reduceMul, Nat.reduceSub, Int.reduceLT, Int.reduceLE, Int.reduceEq, Int.reduceToNat, Int.reduceAdd, Int.reduceSub, Int.reduceMul, Int.reduceNeg, Int.cast_ofNat_Int, false_and, and_false]
    refine S_ready (d := d + 3) x w ?_
    intro h1' se x1 c1 pn ps sx
    have cf1 : Cf0 h h1' := ⟨c1, pn, ps⟩
    have m1 := x1.1.1
    have so := w.2.1
    have e3 : hI h1' 214 3 = (((stA (sA σ) 1).toNat : Nat) : Int) := by rw [x1.1.2.2.2.1.2.1, toN so.2.2.1]
    simp only [psh_some, rX11_needed_15, rX11_needed_16, rX11_needed_17, rX11_needed_20, rX11_needed_23, rX11_needed_24, rX11_needed_27, Cs_K200 m1, Cs_R200_0 m1, Cs_R200_1 m1, Cs_R200_2 m1, Cs_R200_3 m1, Cs_R200_4 m1, Cs_R200_5 m1, Cs_R200_6 m1, Cs_K201 m1, Cs_R201_0 m1, Cs_R201_1 m1, Cs_K202 m1, Cs_K203 m1, Cs_K211 m1, Cs_R211_0 m1, Cs_R211_1 m1, Cs_K212 m1, Cs_K213 m1, Cs_K214 m1, Cs_R214_0 m1, Cs_R214_1 m1, Cs_K215 m1, Cs_K216 m1, Cs_K217 m1, Cs_R217_0 m1, Cs_R217_1 m1, Cs_K218 m1, Cs_K219 m1, Cs_K220 m1, Cs_R220_0 m1, Cs_K221 m1, Cs_K262 m1, Cs_K271 m1, Cs_R271_0 m1, Cs_R271_1 m1, Cs_K272 m1, Cs_K276 m1, Cs_R272_0 m1, Cs_R276_0 m1, Cs_K273 m1, Cs_R273_0 m1, Cs_R273_1 m1, Cs_K274 m1, Cs_K275 m1, Cs_K277 m1, Cs_R277_0 m1, Cs_R277_1 m1, Cs_K278 m1, Cs_K279 m1, Cs_R262_0 m1, Cs_K263 m1, Cs_R263_0 m1, Cs_K264 m1, Cs_R262_1 m1, Cs_K265 m1, Cs_R265_0 m1, Cs_K266 m1, Cs_R262_2 m1, Cs_K267 m1, Cs_R267_0 m1, Cs_K268 m1, Cs_R262_3 m1, Cs_K269 m1, Cs_R269_0 m1, Cs_K270 m1, e3, S_has (th31 so) n31, Int.toNat_natCast, Int.natCast_nonneg, true_and, and_true, and_self, if_true, if_false, or_true, true_or, or_false, false_or, ne_eq, not_true_eq_false, not_false_eq_true, Nat.reduceLeDiff, Nat.reduceEqDiff, Nat.reduceLT, Nat.reduceAdd, Nat.reduceMul, Nat.reduceSub, Int.reduceLT, Int.reduceLE, Int.reduceEq, Int.reduceToNat, Int.reduceAdd, Int.reduceSub, Int.reduceMul, Int.reduceNeg, Int.cast_ofNat_Int, false_and, and_false]
    by_cases hb : (stA (sA σ) 1).toNat.testBit n = true
    · rw [if_pos hb, if_neg (by decide)]
      simp only [rX11_needed_45, rX11_needed_46]
      rw [cc_now so hb, if_pos rfl, ndS_now so hb] at k
      exact k h1' x1 c1
    · rw [if_neg hb, if_pos (by trivial)]
      simp only [rX11_needed_30, rX11_needed_31, rX11_needed_32, rX11_needed_35, Cs_K200 m1, Cs_R200_0 m1, Cs_R200_1 m1, Cs_R200_2 m1, Cs_R200_3 m1, Cs_R200_4 m1, Cs_R200_5 m1, Cs_R200_6 m1, Cs_K201 m1, Cs_R201_0 m1, Cs_R201_1 m1, Cs_K202 m1, Cs_K203 m1, Cs_K211 m1, Cs_R211_0 m1, Cs_R211_1 m1, Cs_K212 m1, Cs_K213 m1, Cs_K214 m1, Cs_R214_0 m1, Cs_R214_1 m1, Cs_K215 m1, Cs_K216 m1, Cs_K217 m1, Cs_R217_0 m1, Cs_R217_1 m1, Cs_K218 m1, Cs_K219 m1, Cs_K220 m1, Cs_R220_0 m1, Cs_K221 m1, Cs_K262 m1, Cs_K271 m1, Cs_R271_0 m1, Cs_R271_1 m1, Cs_K272 m1, Cs_K276 m1, Cs_R272_0 m1, Cs_R276_0 m1, Cs_K273 m1, Cs_R273_0 m1, Cs_R273_1 m1, Cs_K274 m1, Cs_K275 m1, Cs_K277 m1, Cs_R277_0 m1, Cs_R277_1 m1, Cs_K278 m1, Cs_K279 m1, Cs_R262_0 m1, Cs_K263 m1, Cs_R263_0 m1, Cs_K264 m1, Cs_R262_1 m1, Cs_K265 m1, Cs_R265_0 m1, Cs_K266 m1, Cs_R262_2 m1, Cs_K267 m1, Cs_R267_0 m1, Cs_K268 m1, Cs_R262_3 m1, Cs_K269 m1, Cs_R269_0 m1, Cs_K270 m1, S_cAll (x1.cp w), psh_some, sx.2.2.1.1, Int.toNat_natCast, Int.natCast_nonneg, true_and, and_true, and_self, if_true, if_false, or_true, true_or, or_false, false_or, ne_eq, not_true_eq_false, not_false_eq_true, Nat.reduceLeDiff, Nat.reduceEqDiff, Nat.reduceLT, Nat.reduceAdd, Nat.reduceMul, Nat.reduceSub, Int.reduceLT, Int.reduceLE, Int.reduceEq, Int.reduceToNat, Int.reduceAdd, Int.reduceSub, Int.reduceMul, Int.reduceNeg, Int.cast_ofNat_Int, false_and, and_false]
      refine S_canBe sx all_lt ?_
      intro h2 f2 sx2
      obtain ⟨x2, cf2⟩ := x1.cn sx f2 sx2
      simp only [psh_some, rX11_needed_38, rX11_needed_39, rX11_needed_42, S_has (tl31 w.1 so _) n31, Int.toNat_natCast, Int.natCast_nonneg, true_and, and_true, and_self, if_true, if_false, or_true, true_or, or_false, false_or, ne_eq, not_true_eq_false, not_false_eq_true, Nat.reduceLeDiff, Nat.reduceEqDiff, Nat.reduceLT, Nat.reduceAdd, Nat.reduceMul, Nat.reduceSub, Int.reduceLT, Int.reduceLE, Int.reduceEq, Int.reduceToNat, Int.reduceAdd, Int.reduceSub, Int.reduceMul, Int.reduceNeg, Int.cast_ofNat_Int, false_and, and_false]
      by_cases hc : ccB (sA σ) (stA (sA σ)) (2 ^ (sA σ 2).toNat - 1) n = true
      · have hc' : (thU (Lst (sA σ) (stA (sA σ)) (2 ^ (sA σ 2).toNat - 1))).testBit n = true := hc
        rw [if_pos hc] at k
        rw [if_pos hc', if_neg (by decide)]
        simp only [rX11_needed_47, rX11_needed_48, rX11_needed_49, rX11_needed_50]
        exact nd_loop w n31 (fun h' x' cf' => k h' x' cf'.1) _ 0 h2 (Nat.zero_add _) x2 (cf1.trans cf2) sx2
      · have hc' : ¬ (thU (Lst (sA σ) (stA (sA σ)) (2 ^ (sA σ 2).toNat - 1))).testBit n = true := hc
        rw [if_neg hc] at k
        rw [if_neg hc', if_pos (by trivial)]
        simp only [rX11_needed_45, rX11_needed_46]
        exact k h2 x2 (cf1.trans cf2).1
  · simp only [if_neg h1] at k
    rw [if_neg h1, if_pos (by trivial)]
    exact k h x (Cfr.refl h)
