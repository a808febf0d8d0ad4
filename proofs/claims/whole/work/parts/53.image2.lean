theorem CsOk.of {h h' : Hp} (m : CsOk h) (eK : ∀ a, a < 294 → hK h' a = hK h a) (eR : ∀ a k, a < 294 → (a = 200 → k ≤ 6) → (a = 272 ∨ a = 283 → k = 0) → (a = 201 → k ≤ 1) → hR h' a k = hR h a k) : CsOk h' :=
  ⟨by rw [eK _ (by omega)]; exact Cs_K200 m,
  by rw [eR _ _ (by omega) (by omega) (by omega) (by omega)]; exact Cs_R200_0 m,
  by rw [eR _ _ (by omega) (by omega) (by omega) (by omega)]; exact Cs_R200_1 m,
  by rw [eR _ _ (by omega) (by omega) (by omega) (by omega)]; exact Cs_R200_2 m,
  by rw [eR _ _ (by omega) (by omega) (by omega) (by omega)]; exact Cs_R200_3 m,
  by rw [eR _ _ (by omega) (by omega) (by omega) (by omega)]; exact Cs_R200_4 m,
  by rw [eR _ _ (by omega) (by omega) (by omega) (by omega)]; exact Cs_R200_5 m,
  by rw [eR _ _ (by omega) (by omega) (by omega) (by omega)]; exact Cs_R200_6 m,
  by rw [eK _ (by omega)]; exact Cs_K201 m,
  by rw [eR _ _ (by omega) (by omega) (by omega) (by omega)]; exact Cs_R201_0 m,
  by rw [eR _ _ (by omega) (by omega) (by omega) (by omega)]; exact Cs_R201_1 m,
  by rw [eK _ (by omega)]; exact Cs_K202 m,
  by rw [eK _ (by omega)]; exact Cs_K203 m,
  by rw [eK _ (by omega)]; exact Cs_K211 m,
  by rw [eR _ _ (by omega) (by omega) (by omega) (by omega)]; exact Cs_R211_0 m,
  by rw [eR _ _ (by omega) (by omega) (by omega) (by omega)]; exact Cs_R211_1 m,
  by rw [eK _ (by omega)]; exact Cs_K212 m,
  by rw [eK _ (by omega)]; exact Cs_K213 m,
  by rw [eK _ (by omega)]; exact Cs_K214 m,
  by rw [eR _ _ (by omega) (by omega) (by omega) (by omega)]; exact Cs_R214_0 m,
  by rw [eR _ _ (by omega) (by omega) (by omega) (by omega)]; exact Cs_R214_1 m,
  by rw [eK _ (by omega)]; exact Cs_K215 m,
  by rw [eK _ (by omega)]; exact Cs_K216 m,
  by rw [eK _ (by omega)]; exact Cs_K217 m,
  by rw [eR _ _ (by omega) (by omega) (by omega) (by omega)]; exact Cs_R217_0 m,
  by rw [eR _ _ (by omega) (by omega) (by omega) (by omega)]; exact Cs_R217_1 m,
  by rw [eK _ (by omega)]; exact Cs_K218 m,
  by rw [eK _ (by omega)]; exact Cs_K219 m,
  by rw [eK _ (by omega)]; exact Cs_K220 m,
  by rw [eR _ _ (by omega) (by omega) (by omega) (by omega)]; exact Cs_R220_0 m,
  by rw [eK _ (by omega)]; exact Cs_K221 m,
  by rw [eK _ (by omega)]; exact Cs_K262 m,
  by rw [eK _ (by omega)]; exact Cs_K271 m,
  by rw [eR _ _ (by omega) (by omega) (by omega) (by omega)]; exact Cs_R271_0 m,
  by rw [eR _ _ (by omega) (by omega) (by omega) (by omega)]; exact Cs_R271_1 m,
  by rw [eK _ (by omega)]; exact Cs_K272 m,
  by rw [eK _ (by omega)]; exact Cs_K276 m,
  by rw [eR _ _ (by omega) (by omega) (by omega) (by omega)]; exact Cs_R272_0 m,
  by rw [eR _ _ (by omega) (by omega) (by omega) (by omega)]; exact Cs_R276_0 m,
  by rw [eK _ (by omega)]; exact Cs_K273 m,
  by rw [eR _ _ (by omega) (by omega) (by omega) (by omega)]; exact Cs_R273_0 m,
  by rw [eR _ _ (by omega) (by omega) (by omega) (by omega)]; exact Cs_R273_1 m,
  by rw [eK _ (by omega)]; exact Cs_K274 m,
  by rw [eK _ (by omega)]; exact Cs_K275 m,
  by rw [eK _ (by omega)]; exact Cs_K277 m,
  by rw [eR _ _ (by omega) (by omega) (by omega) (by omega)]; exact Cs_R277_0 m,
  by rw [eR _ _ (by omega) (by omega) (by omega) (by omega)]; exact Cs_R277_1 m,
  by rw [eK _ (by omega)]; exact Cs_K278 m,
  by rw [eK _ (by omega)]; exact Cs_K279 m,
  by rw [eR _ _ (by omega) (by omega) (by omega) (by omega)]; exact Cs_R262_0 m,
  by rw [eK _ (by omega)]; exact Cs_K263 m,
  by rw [eR _ _ (by omega) (by omega) (by omega) (by omega)]; exact Cs_R263_0 m,
  by rw [eK _ (by omega)]; exact Cs_K264 m,
  by rw [eR _ _ (by omega) (by omega) (by omega) (by omega)]; exact Cs_R262_1 m,
  by rw [eK _ (by omega)]; exact Cs_K265 m,
  by rw [eR _ _ (by omega) (by omega) (by omega) (by omega)]; exact Cs_R265_0 m,
  by rw [eK _ (by omega)]; exact Cs_K266 m,
  by rw [eR _ _ (by omega) (by omega) (by omega) (by omega)]; exact Cs_R262_2 m,
  by rw [eK _ (by omega)]; exact Cs_K267 m,
  by rw [eR _ _ (by omega) (by omega) (by omega) (by omega)]; exact Cs_R267_0 m,
  by rw [eK _ (by omega)]; exact Cs_K268 m,
  by rw [eR _ _ (by omega) (by omega) (by omega) (by omega)]; exact Cs_R262_3 m,
  by rw [eK _ (by omega)]; exact Cs_K269 m,
  by rw [eR _ _ (by omega) (by omega) (by omega) (by omega)]; exact Cs_R269_0 m,
  by rw [eK _ (by omega)]; exact Cs_K270 m,
  fun i hi => by
    obtain ⟨a1, a2, a3, a4, a5, a6⟩ := Cs_ring m i hi
    exact ⟨by rw [eR _ _ (by omega) (by omega) (by omega) (by omega)]; exact a1, by rw [eK _ (by omega)]; exact a2, by rw [eR _ _ (by omega) (by omega) (by omega) (by omega)]; exact a3, by rw [eR _ _ (by omega) (by omega) (by omega) (by omega)]; exact a4, by rw [eK _ (by omega)]; exact a5, by rw [eK _ (by omega)]; exact a6⟩⟩
theorem CsOk.wR {h : Hp} (m : CsOk h) {a k v : Nat} (hk : (a = 200 ∧ k = 7) ∨ (a = 272 ∧ k = 1) ∨ (a = 283 ∧ k = 1)) : CsOk (wR h a k v) :=
  m.of (fun _ _ => rfl) (fun b j h0 h1 h2 h3 => by rw [hR_wR, if_neg (by omega)])
def imV (i : Int) : Int := if 0 ≤ i ∧ i < 2 then 0 else -2
set_option maxHeartbeats 1000000 in
theorem C_image {d : Nat} {σ : AS} {i : Int} : CSpec (d + 1) mX11_image [some (.inr (.inr 200)), some (.inl i)] σ (.inl (imV i)) (if imV i = 0 then imS σ i.toNat else σ) := by
  intro h Q x w k
  have m := x.1.1
  unfold imV at k
  simp only [rX11_image_0, rX11_image_1, rX11_image_4, rX11_image_5, rX11_image_6, rX11_image_9, rX11_image_10, rX11_image_13, rX11_image_15, Cs_K200 m, Cs_R200_0 m, Cs_R200_1 m, Cs_R200_2 m, Cs_R200_3 m, Cs_R200_4 m, Cs_R200_5 m, Cs_R200_6 m, Cs_K201 m, Cs_R201_0 m, Cs_R201_1 m, Cs_K202 m, Cs_K203 m, Cs_K211 m, Cs_R211_0 m, Cs_R211_1 m, Cs_K212 m, Cs_K213 m, Cs_K214 m, Cs_R214_0 m, Cs_R214_1 m, Cs_K215 m, Cs_K216 m, Cs_K217 m, Cs_R217_0 m, Cs_R217_1 m, Cs_K218 m, Cs_K219 m, Cs_K220 m, Cs_R220_0 m, Cs_K221 m, Cs_K262 m, Cs_K271 m, Cs_R271_0 m, Cs_R271_1 m, Cs_K272 m, Cs_K276 m, Cs_R272_0 m, Cs_R276_0 m, Cs_K273 m, Cs_R273_0 m, Cs_R273_1 m, Cs_K274 m, Cs_K275 m, Cs_K277 m, Cs_R277_0 m, Cs_R277_1 m, Cs_K278 m, Cs_K279 m, Cs_R262_0 m, Cs_K263 m, Cs_R263_0 m, Cs_K264 m, Cs_R262_1 m, Cs_K265 m, Cs_R265_0 m, Cs_K266 m, Cs_R262_2 m, Cs_K267 m, Cs_R267_0 m, Cs_K268 m, Cs_R262_3 m, Cs_K269 m, Cs_R269_0 m, Cs_K270 m, Int.toNat_natCast, Int.natCast_nonneg, true_and, and_true, and_self, if_true, if_false, or_true, true_or, or_false, false_or, ne_eq, not_true_eq_false, not_false_eq_true, Nat.reduceLeDiff, Nat.reduceEqDiff, Nat.reduceLT, Nat.reduceAdd, Nat.reduceMul, Nat.reduceSub, Int.reduceLT, Int.reduceLE, Int.reduceEq, Int.reduceToNat, Int.reduceAdd, Int.reduceSub, Int.reduceMul, Int.reduceNeg, Int.cast_ofNat_Int, false_and, and_false]
  by_cases h1 : 0 ≤ i ∧ i < 2
  · simp only [if_pos h1, if_true] at k
    rw [if_neg (by omega), if_pos h1.2]
    obtain ⟨j, rfl⟩ := Int.eq_ofNat_of_zero_le h1.1
    have j2 : j < 2 := by omega
    have j2' : (j : Int) < 2 := by omega
    obtain ⟨r1, r2, r3⟩ := Cs_img m j2
    have ge : 200 ≤ 272 + 11 * j := by omega
    have n1 : ¬ (271 = 272 + 11 * j) := by omega
    have n2 : ¬ (200 = 272 + 11 * j) := by omega
    simp only [rX11_image_16, rX11_image_17, rX11_image_20, rX11_image_21, rX11_image_22, rX11_image_23, rX11_image_26, rX11_image_27, rX11_image_30, rX11_image_31, rX11_image_32, rX11_image_33, rX11_image_36, rX11_image_39, rX11_image_40, rX11_image_43, rX11_image_44, rX11_image_45, rX11_image_48, rX11_image_49, rX11_image_52, hN_wI, hN_wJ, hN_wR, hS_wI, hS_wJ, hS_wR, hK_wI, hK_wJ, hK_wR, hI_wI, hI_wJ, hI_wR, hJ_wI, hJ_wJ, hJ_wR, hR_wI, hR_wJ, hR_wR, hN_nw, hS_nw, hK_nw, hI_nw, hJ_nw, hR_nw, psh_some, psh_none, Cs_K200 m, Cs_R200_0 m, Cs_R200_1 m, Cs_R200_2 m, Cs_R200_3 m, Cs_R200_4 m, Cs_R200_5 m, Cs_R200_6 m, Cs_K201 m, Cs_R201_0 m, Cs_R201_1 m, Cs_K202 m, Cs_K203 m, Cs_K211 m, Cs_R211_0 m, Cs_R211_1 m, Cs_K212 m, Cs_K213 m, Cs_K214 m, Cs_R214_0 m, Cs_R214_1 m, Cs_K215 m, Cs_K216 m, Cs_K217 m, Cs_R217_0 m, Cs_R217_1 m, Cs_K218 m, Cs_K219 m, Cs_K220 m, Cs_R220_0 m, Cs_K221 m, Cs_K262 m, Cs_K271 m, Cs_R271_0 m, Cs_R271_1 m, Cs_K272 m, Cs_K276 m, Cs_R272_0 m, Cs_R276_0 m, Cs_K273 m, Cs_R273_0 m, Cs_R273_1 m, Cs_K274 m, Cs_K275 m, Cs_K277 m, Cs_R277_0 m, Cs_R277_1 m, Cs_K278 m, Cs_K279 m, Cs_R262_0 m, Cs_K263 m, Cs_R263_0 m, Cs_K264 m, Cs_R262_1 m, Cs_K265 m, Cs_R265_0 m, Cs_K266 m, Cs_R262_2 m, Cs_K267 m, Cs_R267_0 m, Cs_K268 m, Cs_R262_3 m, Cs_K269 m, Cs_R269_0 m, Cs_K270 m, Int.toNat_natCast, Int.natCast_nonneg, true_and, and_true, and_self, if_true, if_false, or_true, true_or, or_false, false_or, ne_eq, not_true_eq_false, not_false_eq_true, Nat.reduceLeDiff, Nat.reduceEqDiff, Nat.reduceLT, Nat.reduceAdd, Nat.reduceMul, Nat.reduceSub, Int.reduceLT, Int.reduceLE, Int.reduceEq, Int.reduceToNat, Int.reduceAdd, Int.reduceSub, Int.reduceMul, Int.reduceNeg, Int.cast_ofNat_Int, false_and, and_false, j2', r1, r2, r3, ge, n1, n2]
    have m1 : CsOk (wI h (272 + 11 * j) 2 1) := m.fr ((Fp.refl (fun _ _ => True) h).wI trivial _)
    have m2 : CsOk (wR (wI h (272 + 11 * j) 2 1) (272 + 11 * j) 1 (hR h 200 7)) := m1.wR (by omega)
    have f2 : Fa (igS j) h (wR (wI h (272 + 11 * j) 2 1) (272 + 11 * j) 1 (hR h 200 7)) := ((Fa.refl (igS j) h).wI (by unfold igS; omega) _ _).wR (by unfold igS; omega) _ _
    have hs : ∀ a, igS j a → a < 314 ∧ a ≠ 90 ∧ (a < 255 ∨ 261 < a) := fun a q => by unfold igS at q; omega
    have nS : ∀ a, ¬ (272 ≤ a ∧ a ≤ 286) → ¬ igS j a := fun a h1 q => by unfold igS at q; omega
    have hn := x.1.2.1
    have s1 := x.1.2.2.2.1.fa f2 (by omega) (nS _ (by omega)) (nS _ (by omega)) (nS _ (by omega))
    refine ⟨by rw [(Cs_imgS m j2).2.1], ?_⟩
    refine S_become (Cs_imgS m2 j2) (Cs_nowS m2) (by omega) s1 ?_
    intro h3 f3 s3
    have m3 := m2.fr f3
    have f4 : Fa (igS j) h h3 := f2.stand f3 (fun a h1 h2 => by unfold igS; omega)
    have e2 : hI h3 (272 + 11 * j) 2 = 1 := by rw [f3.I (by unfold stP; omega), hI_wR, hI_wI, if_pos ⟨rfl, rfl⟩]
    have e1 : hR h3 (272 + 11 * j) 1 = hR h 200 7 := by rw [f3.R, hR_wR, if_pos ⟨rfl, rfl⟩]
    have r8 : ∀ k, hR h3 200 k = hR h 200 k := fun k => f4.R (by omega) (nS _ (by omega)) k
    simp only [psh_none, rX11_image_55, rX11_image_56]
    have eN : hN h3 = hN h := by rw [f3.N]; rfl
    have eS : hS h3 = hS h := by rw [f3.S]; rfl
    obtain ⟨⟨_, _, ⟨p1, p2⟩, _, pa, tr, im', rd⟩, _⟩ := id x
    have lo := fun k (hk : k < 1089) => imW_lo (sA σ) j hk
    have pn : PoolIs h3 (hR h 200 7) (sA σ) ∧ PoolIn h3 (hR h 200 7) := ⟨(p1.fa f4 (pc_of hs p2)).1, p2.fa2 f4 (fun k _ => r8 k) (pc_of hs p2 _ (Or.inl ⟨by omega, by omega⟩)).2⟩
    refine k h3 (x.mk (σ' := imS σ j) f4 (fun k _ => r8 k) hs m3 ?_ ?_ ?_ ?_ ?_ ?_) (Cfr.fa f4 hn (fun k _ => r8 k) (fun a q => by unfold igS at q; omega) (by omega) (by omega))
    · rw [r8]
      exact ⟨pn.1.same w.1 (SameP.of lo), pn.2⟩
    · have := x.1.2.2.2.1.fa f4 (by omega) (nS _ (by omega)) (nS _ (by omega)) (nS _ (by omega))
      exact this.of (fun k hk => lo _ (by omega))
    · have := pa.fa f4 hn (fun a h1 h2 => nS _ (by omega))
      obtain ⟨top, t1, t2, t3, t4⟩ := this
      have e47 : sA (imS σ j) 47 = sA σ 47 := lo 47 (by omega)
      refine ⟨top, t1, t2, by rw [e47]; exact t3, fun q hq => ?_⟩
      rw [e47] at hq ⊢
      have := w.2.2.2.1
      exact (t4 q hq).of (fun k hk => lo _ (by omega))
    · exact tr.fa f4 hn (fun a h1 h2 => nS _ (by omega))
    · intro q hq
      show hI h3 (272 + 11 * q) 2 = upI (sH σ) j 1 q ∧ (upI (sH σ) j 1 q = 1 → PoolIs h3 (hR h3 (272 + 11 * q) 1) (imA (imW (sA σ) j) q) ∧ PoolIn h3 (hR h3 (272 + 11 * q) 1) ∧ StIs h3 (273 + 11 * q) (stA (imA (imW (sA σ) j) q)))
      by_cases hqj : q = j
      · subst hqj
        rw [upI_eq, e1]
        refine ⟨e2, fun _ => ⟨pn.1.same w.1 (SameP.of (fun k hk => imW_im (sA σ) q hk)), pn.2, s3.of (fun k hk => imW_im (sA σ) q (by omega))⟩⟩
      · rw [upI_ne _ _ hqj]
        have nq : ¬ igS j (272 + 11 * q) := by unfold igS; omega
        obtain ⟨y1, y2⟩ := im' q hq
        rw [f4.I (by omega) nq, f4.R (by omega) nq]
        refine ⟨y1, fun h1 => ?_⟩
        obtain ⟨z1, z2, z3⟩ := y2 h1
        refine ⟨((z1.fa f4 (pc_of hs z2)).1).same ((w.2.2.2.2.2.1 q hq).2 h1).1 (SameP.of (fun k hk => imW_ne (sA σ) hqj hk)), z2.fa2 f4 (fun k _ => r8 k) (pc_of hs z2 _ (Or.inl ⟨by omega, by omega⟩)).2, ?_⟩
        exact (z3.fa f4 (by omega) (by unfold igS; omega) (by unfold igS; omega) (by unfold igS; omega)).of (fun k hk => imW_ne (sA σ) hqj (by omega))
    · exact rd.fa f4 hn (nS _ (by omega)) (nS _ (by omega))
  · simp only [if_neg h1] at k
    rw [if_neg (by decide)] at k
    have k0 := k h x (Cfr.refl h)
    by_cases h2 : i < 0
    · rw [if_pos h2]; exact k0
    · rw [if_neg h2, if_neg (by omega)]; exact k0
theorem RRep.ah {h h' : Hp} {σ : AS} (f : Fp (fun a k => uP a k ∨ a = 295 ∨ a = 296) h h') (x : RRep h σ) {A' H' : Nat → Int} (a : AtA h' A') (e : ∀ i, i < 2 → hI h' 296 i = H' i) : RRep h' (wAH σ A' H') := by
  obtain ⟨x1, x2, x3, x4, x5, x6, x7, x8, x9⟩ := x
  refine ⟨x1.fr f, a, e, ?_, fun k hk => ?_, ?_, ?_, fun i hi => ?_, fun k hk => ?_⟩
  · rw [f.I (by unfold uP; omega)]; exact x4
  · rw [f.I (by unfold uP; omega)]; exact x5 k hk
  · rw [f.I (by unfold uP; omega)]; exact x6
  · rw [f.I (by unfold uP; omega)]; exact x7
  · rw [f.I (by unfold uP; omega), f.I (by unfold uP; omega)]; exact x8 i hi
  · rw [f.J (by unfold uP; omega)]; exact x9 k hk
set_option maxHeartbeats 1000000 in
theorem R_image {d : Nat} {σ : AS} {i : Int} : RSpec (d + 1) mX12_image [some (.inr (.inr 294)), some (.inl i), none] σ (.inl (imV i)) (if imV i = 0 then imS σ i.toNat else σ) := by
  refine RSpec5.of ?_ (fun h Q hk => by simp only [rX12_image_0, rX12_image_1, rX12_image_2, hk, Int.toNat_natCast, Int.natCast_nonneg, true_and, and_true, and_self, if_true, if_false, or_true, true_or, or_false, false_or, ne_eq, not_true_eq_false, not_false_eq_true, Nat.reduceLeDiff, Nat.reduceEqDiff, Nat.reduceLT, Nat.reduceAdd, Nat.reduceMul, Nat.reduceSub, Int.reduceLT, Int.reduceLE, Int.reduceEq, Int.reduceToNat, Int.reduceAdd, Int.reduceSub, Int.reduceMul, Int.reduceNeg, Int.cast_ofNat_Int, false_and, and_false])
  intro h Q x w k
  have m := x.1
  unfold imV at k
  simp only [rX12_image_5, rX12_image_6, rX12_image_7, rX12_image_8, rX12_image_9, rX12_image_12, rX12_image_15, rX12_image_17, S_within, psh_some]
  by_cases h1 : 0 ≤ i ∧ i < 2
  · simp only [if_pos h1, if_true] at k
    rw [if_pos (show 0 ≤ i ∧ i ≤ 1 by omega), if_neg (by decide)]
    obtain ⟨j, rfl⟩ := Int.eq_ofNat_of_zero_le h1.1
    have j2 : j < 2 := by omega
    simp only [Int.toNat_natCast] at k
    simp only [rX12_image_18, rX12_image_19]
    refine wp_for (fun q h' => WP (d + 1) mX12_image 20 [some (.inr (.inr 294)), some (.inl (j : Int)), some (.inl (q : Int))] [] h' Q) (fun q h' => Fp (fun a _ => a = 295) h h' ∧ ∀ k, k < 3267 → hI h' 295 k = if 1089 * (j + 1) ≤ k ∧ k < 1089 * (j + 1) + q then sA σ (k - 1089 * (j + 1)) else sA σ k) 1089 ?_ ?_ 0 h (by omega) ⟨Fp.refl _ h, fun k hk => ?_⟩
    · rintro q h' hq ⟨f, e⟩ kk
      have m' := m.fr f
      have l1 : (q : Int) < 1089 := by omega
      have l2 : w32 ((j : Int) + 1) = ((j + 1 : Nat) : Int) := w32_s (by omega)
      have l3 : w32 (1089 * ((j + 1 : Nat) : Int)) = ((1089 * (j + 1) : Nat) : Int) := by rw [w32_i (by omega) (by omega)]; omega
      have l4 : w32 (((1089 * (j + 1) : Nat) : Int) + (q : Int)) = ((1089 * (j + 1) + q : Nat) : Int) := w32_ll (by omega)
      have l5 : ((1089 * (j + 1) + q : Nat) : Int) < 3267 := by omega
      have l6 : w32 ((q : Int) + 1) = ((q + 1 : Nat) : Int) := w32_s (by omega)
      have l7 : (q : Int) < 3267 := by omega
      have ev : hI h' 295 q = sA σ q := by rw [e q (by omega), if_neg (by omega)]
      rw [rX12_image_20]
      simp only [rX12_image_21, rX12_image_24, rX12_image_27, rX12_image_28, rX12_image_31, rX12_image_34, rX12_image_35, rX12_image_36, rX12_image_37, rX12_image_38, rX12_image_39, rX12_image_40, rX12_image_41, rX12_image_44, rX12_image_45, rX12_image_46, rX12_image_47, rX12_image_50, Md_K280 m', Md_R281 m', Md_K281 m', Md_R282 m', Md_K282 m', Md_R283 m', Md_K283 m', Md_R284 m', Md_K284 m', Md_R285 m', Md_K285 m', Md_R286 m', Md_K286 m', Md_R287 m', Md_K287 m', Md_R288 m', Md_K288 m', Md_R289 m', Md_K289 m', Md_R290 m', Md_K290 m', Md_R291 m', Md_K291 m', Md_R292 m', Md_K292 m', Md_R293 m', Md_K293 m', Md_R294 m', Md_K294 m', Md_R295 m', Md_K295 m', Md_R296 m', Md_K296 m', Md_R297 m', Md_K297 m', Md_R298 m', Md_K298 m', Md_R299 m', Md_K299 m', Int.toNat_natCast, Int.natCast_nonneg, true_and, and_true, and_self, if_true, if_false, or_true, true_or, or_false, false_or, ne_eq, not_true_eq_false, not_false_eq_true, Nat.reduceLeDiff, Nat.reduceEqDiff, Nat.reduceLT, Nat.reduceAdd, Nat.reduceMul, Nat.reduceSub, Int.reduceLT, Int.reduceLE, Int.reduceEq, Int.reduceToNat, Int.reduceAdd, Int.reduceSub, Int.reduceMul, Int.reduceNeg, Int.cast_ofNat_Int, false_and, and_false, l1, l2, l3, l4, l5, l6, l7, ev]
      refine kk _ ⟨f.wI (by exact rfl) _, fun k hk => ?_⟩
      clear ev l1 l2 l3 l4 l5 l6 l7 kk
      rw [hI_wI]
      by_cases hkq : k = 1089 * (j + 1) + q
      · rw [if_pos ⟨rfl, hkq⟩, if_pos (by omega), hkq]
        exact congrArg (sA σ) (by omega)
      · rw [if_neg (by omega), e k hk]
        by_cases hb : 1089 * (j + 1) ≤ k ∧ k < 1089 * (j + 1) + q
        · rw [if_pos hb, if_pos (by omega)]
        · rw [if_neg hb, if_neg (by omega)]
    · rintro h' ⟨f, e⟩
      have m' := m.fr f
      rw [rX12_image_20]
      simp only [rX12_image_21, rX12_image_24, rX12_image_53, rX12_image_54, rX12_image_57, rX12_image_58, rX12_image_59, rX12_image_60, rX12_image_61, Md_K280 m', Md_R281 m', Md_K281 m', Md_R282 m', Md_K282 m', Md_R283 m', Md_K283 m', Md_R284 m', Md_K284 m', Md_R285 m', Md_K285 m', Md_R286 m', Md_K286 m', Md_R287 m', Md_K287 m', Md_R288 m', Md_K288 m', Md_R289 m', Md_K289 m', Md_R290 m', Md_K290 m', Md_R291 m', Md_K291 m', Md_R292 m', Md_K292 m', Md_R293 m', Md_K293 m', Md_R294 m', Md_K294 m', Md_R295 m', Md_K295 m', Md_R296 m', Md_K296 m', Md_R297 m', Md_K297 m', Md_R298 m', Md_K298 m', Md_R299 m', Md_K299 m', Int.toNat_natCast, Int.natCast_nonneg, true_and, and_true, and_self, if_true, if_false, or_true, true_or, or_false, false_or, ne_eq, not_true_eq_false, not_false_eq_true, Nat.reduceLeDiff, Nat.reduceEqDiff, Nat.reduceLT, Nat.reduceAdd, Nat.reduceMul, Nat.reduceSub, Int.reduceLT, Int.reduceLE, Int.reduceEq, Int.reduceToNat, Int.reduceAdd, Int.reduceSub, Int.reduceMul, Int.reduceNeg, Int.cast_ofNat_Int, false_and, and_false, show (j : Int) < 2 by omega]
      have f2 : Fp (fun a k => uP a k ∨ a = 295 ∨ a = 296) h (wI h' 296 j 1) := (f.mono (P' := fun a k => uP a k ∨ a = 295 ∨ a = 296) (fun a k q => Or.inr (Or.inl q))).wI (by exact Or.inr (Or.inr rfl)) _
      refine k _ (x.ah f2 (fun q hq => ?_) (fun q hq => ?_)) (f2.mono (fun a k q => by unfold uP at q; unfold rfP; omega))
      · rw [hI_wI, if_neg (by omega), e q hq]
        unfold imW
        rw [show 1089 * (j + 1) + 1089 = 1089 * (j + 2) by omega]
      · rw [hI_wI]
        unfold upI
        by_cases hqj : q = j
        · rw [if_pos ⟨rfl, hqj⟩, if_pos hqj]
        · rw [if_neg (by omega), if_neg hqj, f.I (by omega)]; exact x.2.2.1 q hq
    · rw [if_neg (by omega)]; exact x.2.1 k hk
  · simp only [if_neg h1] at k
    rw [if_neg (by decide)] at k
    rw [if_neg (show ¬ (0 ≤ i ∧ i ≤ 1) by omega), if_pos (by trivial)]
    exact k h x (Fp.refl _ h)
def rsW (A : Nat → Int) (i : Nat) : Nat → Int := fun k => if k = 47 then 0 else if k < 1089 then A (1089 * (i + 1) + k) else A k
def rsV (σ : AS) (i : Int) : Int := if 0 ≤ i ∧ i < 2 then (if sH σ i.toNat = 1 then 0 else -5) else -2
theorem rsW_im (A : Nat → Int) (i : Nat) {k : Nat} (h : k < 1089) (h7 : k ≠ 47) : rsW A i k = imA A i k := by
  unfold rsW imA
  rw [if_neg h7, if_pos h]
theorem WF.rs {σ : AS} (w : WF σ) {i : Nat} (hi : i < 2) (h1 : sH σ i = 1) : WF (wA σ (rsW (sA σ) i)) := by
  obtain ⟨w1, w2, w3, w4, w5, w6, w7⟩ := w
  have q := (w6 i hi).2 h1
  refine ⟨poolOk_same q.1 (fun k hk => rsW_im _ _ (by omega) (by omega)), q.2.of (fun k hk => rsW_im _ _ (by omega) (by omega)), Int.le_refl _, (by show (0 : Int) ≤ 10; decide), fun j hj => absurd hj (by exact Nat.not_lt_zero _), fun j hj => ?_, w7⟩
  have e : imA (rsW (sA σ) i) j = imA (sA σ) j := by
    funext k
    unfold imA rsW
    rw [if_neg (by omega), if_neg (by omega)]
  obtain ⟨v1, v2⟩ := w6 j hj
  refine ⟨v1, fun hh => ?_⟩
  have := v2 hh
  rw [sA_w, e]
  exact this
def rtS (a : Nat) : Prop := a = 200 ∨ (214 ≤ a ∧ a ≤ 216) ∨ a = 220
set_option maxHeartbeats 1000000 in
theorem C_restore {d : Nat} {σ : AS} {i : Int} : CSpec (d + 1) mX11_restore [some (.inr (.inr 200)), some (.inl i)] σ (.inl (rsV σ i)) (if rsV σ i = 0 then wA σ (rsW (sA σ) i.toNat) else σ) := by
  intro h Q x w k
  have m := x.1.1
  have no : rsV σ i ≠ 0 → Q (some (.inl (rsV σ i))) h := by
    intro hn
    rw [if_neg hn] at k
    exact k h x (Cfr.refl h)
  unfold rsV at k no
  simp only [rX11_restore_0, rX11_restore_1, rX11_restore_4, rX11_restore_5, rX11_restore_6, rX11_restore_9, rX11_restore_10, rX11_restore_13, rX11_restore_15, Cs_K200 m, Cs_R200_0 m, Cs_R200_1 m, Cs_R200_2 m, Cs_R200_3 m, Cs_R200_4 m, Cs_R200_5 m, Cs_R200_6 m, Cs_K201 m, Cs_R201_0 m, Cs_R201_1 m, Cs_K202 m, Cs_K203 m, Cs_K211 m, Cs_R211_0 m, Cs_R211_1 m, Cs_K212 m, Cs_K213 m, Cs_K214 m, Cs_R214_0 m, Cs_R214_1 m, Cs_K215 m, Cs_K216 m, Cs_K217 m, Cs_R217_0 m, Cs_R217_1 m, Cs_K218 m, Cs_K219 m, Cs_K220 m, Cs_R220_0 m, Cs_K221 m, Cs_K262 m, Cs_K271 m, Cs_R271_0 m, Cs_R271_1 m, Cs_K272 m, Cs_K276 m, Cs_R272_0 m, Cs_R276_0 m, Cs_K273 m, Cs_R273_0 m, Cs_R273_1 m, Cs_K274 m, Cs_K275 m, Cs_K277 m, Cs_R277_0 m, Cs_R277_1 m, Cs_K278 m, Cs_K279 m, Cs_R262_0 m, Cs_K263 m, Cs_R263_0 m, Cs_K264 m, Cs_R262_1 m, Cs_K265 m, Cs_R265_0 m, Cs_K266 m, Cs_R262_2 m, Cs_K267 m, Cs_R267_0 m, Cs_K268 m, Cs_R262_3 m, Cs_K269 m, Cs_R269_0 m, Cs_K270 m, Int.toNat_natCast, Int.natCast_nonneg, true_and, and_true, and_self, if_true, if_false, or_true, true_or, or_false, false_or, ne_eq, not_true_eq_false, not_false_eq_true, Nat.reduceLeDiff, Nat.reduceEqDiff, Nat.reduceLT, Nat.reduceAdd, Nat.reduceMul, Nat.reduceSub, Int.reduceLT, Int.reduceLE, Int.reduceEq, Int.reduceToNat, Int.reduceAdd, Int.reduceSub, Int.reduceMul, Int.reduceNeg, Int.cast_ofNat_Int, false_and, and_false]
  by_cases h1 : 0 ≤ i ∧ i < 2
  · rw [if_pos h1] at no
    simp only [if_pos h1] at k
    rw [if_neg (by omega), if_pos h1.2]
    obtain ⟨j, rfl⟩ := Int.eq_ofNat_of_zero_le h1.1
    have j2 : j < 2 := by omega
    have j2' : (j : Int) < 2 := by omega
    simp only [Int.toNat_natCast] at k no
    obtain ⟨r1, r2, r3⟩ := Cs_img m j2
    obtain ⟨⟨_, hn, ⟨p1, p2⟩, _, pa, tr, im', rd⟩, _⟩ := id x
    obtain ⟨y1, y2⟩ := im' j j2
    simp only [rX11_restore_16, rX11_restore_17, rX11_restore_20, rX11_restore_21, rX11_restore_22, rX11_restore_25, rX11_restore_28, rX11_restore_30, Cs_K200 m, Cs_R200_0 m, Cs_R200_1 m, Cs_R200_2 m, Cs_R200_3 m, Cs_R200_4 m, Cs_R200_5 m, Cs_R200_6 m, Cs_K201 m, Cs_R201_0 m, Cs_R201_1 m, Cs_K202 m, Cs_K203 m, Cs_K211 m, Cs_R211_0 m, Cs_R211_1 m, Cs_K212 m, Cs_K213 m, Cs_K214 m, Cs_R214_0 m, Cs_R214_1 m, Cs_K215 m, Cs_K216 m, Cs_K217 m, Cs_R217_0 m, Cs_R217_1 m, Cs_K218 m, Cs_K219 m, Cs_K220 m, Cs_R220_0 m, Cs_K221 m, Cs_K262 m, Cs_K271 m, Cs_R271_0 m, Cs_R271_1 m, Cs_K272 m, Cs_K276 m, Cs_R272_0 m, Cs_R276_0 m, Cs_K273 m, Cs_R273_0 m, Cs_R273_1 m, Cs_K274 m, Cs_K275 m, Cs_K277 m, Cs_R277_0 m, Cs_R277_1 m, Cs_K278 m, Cs_K279 m, Cs_R262_0 m, Cs_K263 m, Cs_R263_0 m, Cs_K264 m, Cs_R262_1 m, Cs_K265 m, Cs_R265_0 m, Cs_K266 m, Cs_R262_2 m, Cs_K267 m, Cs_R267_0 m, Cs_K268 m, Cs_R262_3 m, Cs_K269 m, Cs_R269_0 m, Cs_K270 m, Int.toNat_natCast, Int.natCast_nonneg, true_and, and_true, and_self, if_true, if_false, or_true, true_or, or_false, false_or, ne_eq, not_true_eq_false, not_false_eq_true, Nat.reduceLeDiff, Nat.reduceEqDiff, Nat.reduceLT, Nat.reduceAdd, Nat.reduceMul, Nat.reduceSub, Int.reduceLT, Int.reduceLE, Int.reduceEq, Int.reduceToNat, Int.reduceAdd, Int.reduceSub, Int.reduceMul, Int.reduceNeg, Int.cast_ofNat_Int, false_and, and_false, j2', r1, r2, y1]
    by_cases h2 : sH σ j = 1
    · simp only [if_pos h2, if_true] at k
      rw [h2, if_neg (by decide)]
      obtain ⟨z1, z2, z3⟩ := y2 h2
      have ge : ¬ (272 + 11 * j = 200) := by omega
      simp only [rX11_restore_31, rX11_restore_32, rX11_restore_33, rX11_restore_36, rX11_restore_37, rX11_restore_38, rX11_restore_41, rX11_restore_44, rX11_restore_45, rX11_restore_48, rX11_restore_49, rX11_restore_52, rX11_restore_53, rX11_restore_54, rX11_restore_57, hN_wI, hN_wJ, hN_wR, hS_wI, hS_wJ, hS_wR, hK_wI, hK_wJ, hK_wR, hI_wI, hI_wJ, hI_wR, hJ_wI, hJ_wJ, hJ_wR, hR_wI, hR_wJ, hR_wR, hN_nw, hS_nw, hK_nw, hI_nw, hJ_nw, hR_nw, psh_some, psh_none, Cs_K200 m, Cs_R200_0 m, Cs_R200_1 m, Cs_R200_2 m, Cs_R200_3 m, Cs_R200_4 m, Cs_R200_5 m, Cs_R200_6 m, Cs_K201 m, Cs_R201_0 m, Cs_R201_1 m, Cs_K202 m, Cs_K203 m, Cs_K211 m, Cs_R211_0 m, Cs_R211_1 m, Cs_K212 m, Cs_K213 m, Cs_K214 m, Cs_R214_0 m, Cs_R214_1 m, Cs_K215 m, Cs_K216 m, Cs_K217 m, Cs_R217_0 m, Cs_R217_1 m, Cs_K218 m, Cs_K219 m, Cs_K220 m, Cs_R220_0 m, Cs_K221 m, Cs_K262 m, Cs_K271 m, Cs_R271_0 m, Cs_R271_1 m, Cs_K272 m, Cs_K276 m, Cs_R272_0 m, Cs_R276_0 m, Cs_K273 m, Cs_R273_0 m, Cs_R273_1 m, Cs_K274 m, Cs_K275 m, Cs_K277 m, Cs_R277_0 m, Cs_R277_1 m, Cs_K278 m, Cs_K279 m, Cs_R262_0 m, Cs_K263 m, Cs_R263_0 m, Cs_K264 m, Cs_R262_1 m, Cs_K265 m, Cs_R265_0 m, Cs_K266 m, Cs_R262_2 m, Cs_K267 m, Cs_R267_0 m, Cs_K268 m, Cs_R262_3 m, Cs_K269 m, Cs_R269_0 m, Cs_K270 m, Int.toNat_natCast, Int.natCast_nonneg, true_and, and_true, and_self, if_true, if_false, or_true, true_or, or_false, false_or, ne_eq, not_true_eq_false, not_false_eq_true, Nat.reduceLeDiff, Nat.reduceEqDiff, Nat.reduceLT, Nat.reduceAdd, Nat.reduceMul, Nat.reduceSub, Int.reduceLT, Int.reduceLE, Int.reduceEq, Int.reduceToNat, Int.reduceAdd, Int.reduceSub, Int.reduceMul, Int.reduceNeg, Int.cast_ofNat_Int, false_and, and_false, j2', r1, r2, r3, ge]
      generalize hq : hR h (272 + 11 * j) 1 = q at z1 z2
      have m1 : CsOk (wR h 200 7 q) := m.wR (Or.inl ⟨rfl, rfl⟩)
      have f1 : Fa rtS h (wR h 200 7 q) := (Fa.refl rtS h).wR (Or.inl rfl) _ _
      have hs : ∀ a, rtS a → a < 314 ∧ a ≠ 90 ∧ (a < 255 ∨ 261 < a) := fun a z => by unfold rtS at z; omega
      have s1 := z3.fa f1 (by omega) (by unfold rtS; omega) (by unfold rtS; omega) (by unfold rtS; omega)
      refine S_become (Cs_nowS m1) (Cs_imgS m1 j2) (by omega) s1 ?_
      intro h3 f3 s3
      have m3 := m1.fr f3
      simp only [psh_none, rX11_restore_60, rX11_restore_61, rX11_restore_64, rX4_forget_0, rX4_forget_1, rX4_forget_2, rX4_forget_5, rX11_restore_67, rX11_restore_68, Cs_K200 m3, Cs_R200_0 m3, Cs_R200_1 m3, Cs_R200_2 m3, Cs_R200_3 m3, Cs_R200_4 m3, Cs_R200_5 m3, Cs_R200_6 m3, Cs_K201 m3, Cs_R201_0 m3, Cs_R201_1 m3, Cs_K202 m3, Cs_K203 m3, Cs_K211 m3, Cs_R211_0 m3, Cs_R211_1 m3, Cs_K212 m3, Cs_K213 m3, Cs_K214 m3, Cs_R214_0 m3, Cs_R214_1 m3, Cs_K215 m3, Cs_K216 m3, Cs_K217 m3, Cs_R217_0 m3, Cs_R217_1 m3, Cs_K218 m3, Cs_K219 m3, Cs_K220 m3, Cs_R220_0 m3, Cs_K221 m3, Cs_K262 m3, Cs_K271 m3, Cs_R271_0 m3, Cs_R271_1 m3, Cs_K272 m3, Cs_K276 m3, Cs_R272_0 m3, Cs_R276_0 m3, Cs_K273 m3, Cs_R273_0 m3, Cs_R273_1 m3, Cs_K274 m3, Cs_K275 m3, Cs_K277 m3, Cs_R277_0 m3, Cs_R277_1 m3, Cs_K278 m3, Cs_K279 m3, Cs_R262_0 m3, Cs_K263 m3, Cs_R263_0 m3, Cs_K264 m3, Cs_R262_1 m3, Cs_K265 m3, Cs_R265_0 m3, Cs_K266 m3, Cs_R262_2 m3, Cs_K267 m3, Cs_R267_0 m3, Cs_K268 m3, Cs_R262_3 m3, Cs_K269 m3, Cs_R269_0 m3, Cs_K270 m3, Int.toNat_natCast, Int.natCast_nonneg, true_and, and_true, and_self, if_true, if_false, or_true, true_or, or_false, false_or, ne_eq, not_true_eq_false, not_false_eq_true, Nat.reduceLeDiff, Nat.reduceEqDiff, Nat.reduceLT, Nat.reduceAdd, Nat.reduceMul, Nat.reduceSub, Int.reduceLT, Int.reduceLE, Int.reduceEq, Int.reduceToNat, Int.reduceAdd, Int.reduceSub, Int.reduceMul, Int.reduceNeg, Int.cast_ofNat_Int, false_and, and_false]
      have f4 : Fa rtS h (wI h3 220 2 0) := ((f1.stand f3 (fun a h1 h2 => by unfold rtS; omega))).wI (Or.inr (Or.inr rfl)) _ _
      have m4 : CsOk (wI h3 220 2 0) := m3.fr ((Fp.refl (fun _ _ => True) h3).wI trivial _)
      have r8 : ∀ k, 8 ≤ k → hR (wI h3 220 2 0) 200 k = hR h 200 k := fun k hk => by rw [hR_wI, f3.R, hR_wR, if_neg (by omega)]
      have r7 : hR (wI h3 220 2 0) 200 7 = q := by rw [hR_wI, f3.R, hR_wR, if_pos ⟨rfl, rfl⟩]
      have t1 : ∃ top : Nat, top < 11 ∧ hI h3 220 1 = (top : Int) := by
        obtain ⟨top, t1, t2, _⟩ := pa
        exact ⟨top, t1, by rw [f3.I (by unfold stP; omega), hI_wR]; exact t2⟩
      obtain ⟨top, t1, t2⟩ := t1
      have nS : ∀ a, ¬ rtS a → ∀ k, hI (wI h3 220 2 0) a k = hI h a k ∧ hJ (wI h3 220 2 0) a k = hJ h a k := fun a na k => by
        have n1 : ¬ (a = 220) := fun z => na (by unfold rtS; omega)
        have n2 : ¬ stP 214 a k := fun z => na (by unfold stP at z; unfold rtS; omega)
        exact ⟨by rw [hI_wI, if_neg (by omega), f3.I n2]; rfl, by rw [hJ_wI, f3.J n2]; rfl⟩
      refine k _ (x.mk (σ' := wA σ (rsW (sA σ) j)) f4 r8 hs m4 ?_ ?_ ?_ ?_ ?_ ?_) (Cfr.fa f4 hn r8 (fun a z => by unfold rtS at z; omega) ?_ ?_)
      · rw [r7]
        have := (w.2.2.2.2.2.1 j j2).2 h2
        exact ⟨((z1.fa f4 (pc_of hs z2)).1).same this.1 (fun k hk => rsW_im _ _ (by omega) (by omega)), z2.fa2 f4 r8 (pc_of hs z2 _ (Or.inl ⟨by omega, by omega⟩)).2⟩
      · have := s3.fp (P := fun a _ => a = 220) (h' := wI h3 220 2 0) ((Fp.refl (fun a _ => a = 220) h3).wI rfl _) (fun a k h1 h2 => by omega)
        exact this.of (fun k hk => rsW_im _ _ (by omega) (by omega))
      · refine ⟨top, t1, by rw [hI_wI, if_neg (by omega)]; exact t2, by rw [hI_wI, if_pos ⟨rfl, rfl⟩]; rfl, fun a ha => absurd ha (by exact Nat.not_lt_zero _)⟩
      · exact tr.fa f4 hn (fun a h1 h2 => by unfold rtS; omega)
      · intro a ha
        have e : imA (rsW (sA σ) j) a = imA (sA σ) a := by
          funext k
          unfold imA rsW
          rw [if_neg (by omega), if_neg (by omega)]
        obtain ⟨b1, b2⟩ := im' a ha
        have nq : ¬ rtS (272 + 11 * a) := by unfold rtS; omega
        rw [f4.I (by omega) nq, f4.R (by omega) nq, sA_w, e]
        refine ⟨b1, fun hh => ?_⟩
        obtain ⟨c1, c2, c3⟩ := b2 hh
        exact ⟨(c1.fa f4 (pc_of hs c2)).1, c2.fa2 f4 r8 (pc_of hs c2 _ (Or.inl ⟨by omega, by omega⟩)).2, c3.fa f4 (by omega) (by unfold rtS; omega) (by unfold rtS; omega) (by unfold rtS; omega)⟩
      · exact rd.fa f4 hn (by unfold rtS; omega) (by unfold rtS; omega)
      · rw [hN_wI, f3.N]; show hN h ≤ hN h + 920; omega
      · rw [hS_wI, f3.S]; show hS h ≤ hS h + 2000; omega
    · rw [if_neg h2] at no
      have h0 := ((w.2.2.2.2.2.1 j j2).1).resolve_right h2
      rw [h0, if_pos (by trivial)]
      exact no (by decide)
  · rw [if_neg h1] at no
    have k0 := no (by decide)
    by_cases h2 : i < 0
    · rw [if_pos h2]; exact k0
    · rw [if_neg h2, if_neg (by omega)]; exact k0
set_option maxHeartbeats 1000000 in
theorem R_restore {d : Nat} {σ : AS} {i : Int} : RSpec (d + 1) mX12_restore [some (.inr (.inr 294)), some (.inl i), none] σ (.inl (rsV σ i)) (if rsV σ i = 0 then wA σ (rsW (sA σ) i.toNat) else σ) := by
  refine RSpec5.of ?_ (fun h Q hk => by simp only [rX12_restore_0, rX12_restore_1, rX12_restore_2, hk, Int.toNat_natCast, Int.natCast_nonneg, true_and, and_true, and_self, if_true, if_false, or_true, true_or, or_false, false_or, ne_eq, not_true_eq_false, not_false_eq_true, Nat.reduceLeDiff, Nat.reduceEqDiff, Nat.reduceLT, Nat.reduceAdd, Nat.reduceMul, Nat.reduceSub, Int.reduceLT, Int.reduceLE, Int.reduceEq, Int.reduceToNat, Int.reduceAdd, Int.reduceSub, Int.reduceMul, Int.reduceNeg, Int.cast_ofNat_Int, false_and, and_false])
  intro h Q x w k
  have m := x.1
  have no : rsV σ i ≠ 0 → Q (some (.inl (rsV σ i))) h := by
    intro hn
    rw [if_neg hn] at k
    exact k h x (Fp.refl _ h)
  unfold rsV at k no
  simp only [rX12_restore_5, rX12_restore_6, rX12_restore_7, rX12_restore_8, rX12_restore_9, rX12_restore_12, rX12_restore_15, rX12_restore_17, S_within, psh_some]
  by_cases h1 : 0 ≤ i ∧ i < 2
  · rw [if_pos h1] at no
    simp only [if_pos h1] at k
    rw [if_pos (show 0 ≤ i ∧ i ≤ 1 by omega), if_neg (by decide)]
    obtain ⟨j, rfl⟩ := Int.eq_ofNat_of_zero_le h1.1
    have j2 : j < 2 := by omega
    simp only [Int.toNat_natCast] at k no
    simp only [rX12_restore_18, rX12_restore_19, rX12_restore_22, rX12_restore_23, rX12_restore_24, rX12_restore_27, rX12_restore_29, Md_K280 m, Md_R281 m, Md_K281 m, Md_R282 m, Md_K282 m, Md_R283 m, Md_K283 m, Md_R284 m, Md_K284 m, Md_R285 m, Md_K285 m, Md_R286 m, Md_K286 m, Md_R287 m, Md_K287 m, Md_R288 m, Md_K288 m, Md_R289 m, Md_K289 m, Md_R290 m, Md_K290 m, Md_R291 m, Md_K291 m, Md_R292 m, Md_K292 m, Md_R293 m, Md_K293 m, Md_R294 m, Md_K294 m, Md_R295 m, Md_K295 m, Md_R296 m, Md_K296 m, Md_R297 m, Md_K297 m, Md_R298 m, Md_K298 m, Md_R299 m, Md_K299 m, Int.toNat_natCast, Int.natCast_nonneg, true_and, and_true, and_self, if_true, if_false, or_true, true_or, or_false, false_or, ne_eq, not_true_eq_false, not_false_eq_true, Nat.reduceLeDiff, Nat.reduceEqDiff, Nat.reduceLT, Nat.reduceAdd, Nat.reduceMul, Nat.reduceSub, Int.reduceLT, Int.reduceLE, Int.reduceEq, Int.reduceToNat, Int.reduceAdd, Int.reduceSub, Int.reduceMul, Int.reduceNeg, Int.cast_ofNat_Int, false_and, and_false, show (j : Int) < 2 by omega, x.2.2.1 j j2]
    by_cases h2 : sH σ j = 1
    · simp only [if_pos h2, if_true] at k
      rw [h2, if_neg (by decide)]
      simp only [rX12_restore_30, rX12_restore_31]
      refine wp_for (fun q h' => WP (d + 1) mX12_restore 32 [some (.inr (.inr 294)), some (.inl (j : Int)), some (.inl (q : Int))] [] h' Q) (fun q h' => Fp (fun a _ => a = 295) h h' ∧ ∀ k, k < 3267 → hI h' 295 k = if k < q then sA σ (1089 * (j + 1) + k) else sA σ k) 1089 ?_ ?_ 0 h (by omega) ⟨Fp.refl _ h, fun k hk => ?_⟩
      · rintro q h' hq ⟨f, e⟩ kk
        have m' := m.fr f
        have l1 : (q : Int) < 1089 := by omega
        have l2 : w32 ((j : Int) + 1) = ((j + 1 : Nat) : Int) := w32_s (by omega)
        have l3 : w32 (1089 * ((j + 1 : Nat) : Int)) = ((1089 * (j + 1) : Nat) : Int) := by rw [w32_i (by omega) (by omega)]; omega
        have l4 : w32 (((1089 * (j + 1) : Nat) : Int) + (q : Int)) = ((1089 * (j + 1) + q : Nat) : Int) := w32_ll (by omega)
        have l5 : ((1089 * (j + 1) + q : Nat) : Int) < 3267 := by omega
        have l6 : w32 ((q : Int) + 1) = ((q + 1 : Nat) : Int) := w32_s (by omega)
        have l7 : (q : Int) < 3267 := by omega
        have ev : hI h' 295 (1089 * (j + 1) + q) = sA σ (1089 * (j + 1) + q) := by rw [e _ (by omega), if_neg (by omega)]
        rw [rX12_restore_32]
        simp only [rX12_restore_33, rX12_restore_36, rX12_restore_39, rX12_restore_40, rX12_restore_43, rX12_restore_44, rX12_restore_45, rX12_restore_48, rX12_restore_51, rX12_restore_52, rX12_restore_53, rX12_restore_54, rX12_restore_55, rX12_restore_56, rX12_restore_57, rX12_restore_58, rX12_restore_59, rX12_restore_62, Md_K280 m', Md_R281 m', Md_K281 m', Md_R282 m', Md_K282 m', Md_R283 m', Md_K283 m', Md_R284 m', Md_K284 m', Md_R285 m', Md_K285 m', Md_R286 m', Md_K286 m', Md_R287 m', Md_K287 m', Md_R288 m', Md_K288 m', Md_R289 m', Md_K289 m', Md_R290 m', Md_K290 m', Md_R291 m', Md_K291 m', Md_R292 m', Md_K292 m', Md_R293 m', Md_K293 m', Md_R294 m', Md_K294 m', Md_R295 m', Md_K295 m', Md_R296 m', Md_K296 m', Md_R297 m', Md_K297 m', Md_R298 m', Md_K298 m', Md_R299 m', Md_K299 m', Int.toNat_natCast, Int.natCast_nonneg, true_and, and_true, and_self, if_true, if_false, or_true, true_or, or_false, false_or, ne_eq, not_true_eq_false, not_false_eq_true, Nat.reduceLeDiff, Nat.reduceEqDiff, Nat.reduceLT, Nat.reduceAdd, Nat.reduceMul, Nat.reduceSub, Int.reduceLT, Int.reduceLE, Int.reduceEq, Int.reduceToNat, Int.reduceAdd, Int.reduceSub, Int.reduceMul, Int.reduceNeg, Int.cast_ofNat_Int, false_and, and_false, l1, l2, l3, l4, l5, l6, l7, ev]
        refine kk _ ⟨f.wI (by exact rfl) _, fun k hk => ?_⟩
        clear ev l1 l2 l3 l4 l5 l6 l7 kk
        rw [hI_wI]
        by_cases hkq : k = q
        · rw [if_pos ⟨rfl, hkq⟩, if_pos (by omega), hkq]
        · rw [if_neg (by omega), e k hk]
          by_cases hb : k < q
          · rw [if_pos hb, if_pos (by omega)]
          · rw [if_neg hb, if_neg (by omega)]
      · rintro h' ⟨f, e⟩
        have m' := m.fr f
        rw [rX12_restore_32]
        simp only [rX12_restore_33, rX12_restore_36, rX12_restore_65, rX12_restore_66, rX12_restore_69, rX12_restore_71, rX12_restore_72, rX12_restore_73, rX12_restore_74, Md_K280 m', Md_R281 m', Md_K281 m', Md_R282 m', Md_K282 m', Md_R283 m', Md_K283 m', Md_R284 m', Md_K284 m', Md_R285 m', Md_K285 m', Md_R286 m', Md_K286 m', Md_R287 m', Md_K287 m', Md_R288 m', Md_K288 m', Md_R289 m', Md_K289 m', Md_R290 m', Md_K290 m', Md_R291 m', Md_K291 m', Md_R292 m', Md_K292 m', Md_R293 m', Md_K293 m', Md_R294 m', Md_K294 m', Md_R295 m', Md_K295 m', Md_R296 m', Md_K296 m', Md_R297 m', Md_K297 m', Md_R298 m', Md_K298 m', Md_R299 m', Md_K299 m', Int.toNat_natCast, Int.natCast_nonneg, true_and, and_true, and_self, if_true, if_false, or_true, true_or, or_false, false_or, ne_eq, not_true_eq_false, not_false_eq_true, Nat.reduceLeDiff, Nat.reduceEqDiff, Nat.reduceLT, Nat.reduceAdd, Nat.reduceMul, Nat.reduceSub, Int.reduceLT, Int.reduceLE, Int.reduceEq, Int.reduceToNat, Int.reduceAdd, Int.reduceSub, Int.reduceMul, Int.reduceNeg, Int.cast_ofNat_Int, false_and, and_false]
        have f2 : Fp qP h (wI h' 295 47 0) := (f.mono (fun a k q => Or.inr q)).wI (Or.inr rfl) _
        refine k _ (x.a f2 (fun q hq => ?_)) (f2.mono (fun a k q => qP_r q))
        rw [hI_wI]
        unfold rsW
        by_cases q7 : q = 47
        · rw [if_pos ⟨rfl, q7⟩, if_pos q7]
        · rw [if_neg (by omega), if_neg q7]; exact e q hq
      · rw [if_neg (by omega)]; exact x.2.1 k hk
    · rw [if_neg h2] at no
      have h0 := ((w.2.2.2.2.2.1 j j2).1).resolve_right h2
      rw [h0, if_pos (by trivial)]
      exact no (by decide)
  · rw [if_neg h1] at no
    rw [if_neg (show ¬ (0 ≤ i ∧ i ≤ 1) by omega), if_pos (by trivial)]
    exact no (by decide)
