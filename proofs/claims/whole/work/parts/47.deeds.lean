/-! calls that do a deed -/
def nS (σ : AS) (B : Nat → Int) : AS := wA σ (ntA (putS (sA σ) B) (stA (sA σ)))
theorem Marked.of {h : Hp} {A A' W : Nat → Int} (e : ∀ k, 47 ≤ k → A' k = A k) (x : Marked h A W) : Marked h A' W := by
  obtain ⟨top, t1, t2, t3, t4, t5⟩ := x
  refine ⟨top, t1, t2, by rw [e 47 (by omega)]; exact t3, fun i hi => ?_, t5⟩
  rw [e 47 (by omega)] at hi ⊢
  exact (t4 i hi).of (fun k hk => e _ (by omega))
theorem Marked.fr {P : Nat → Nat → Prop} {h h' : Hp} {A W : Nat → Int} (f : Fp P h h') (hs : ∀ a k, P a k → a < 220 ∨ 254 < a) (x : Marked h A W) : Marked h' A W := by
  obtain ⟨top, t1, t2, t3, t4, t5⟩ := x
  refine ⟨top, t1, by rw [f.I (fun q => by have := hs _ _ q; omega)]; exact t2, by rw [f.I (fun q => by have := hs _ _ q; omega)]; exact t3, fun i hi => ?_, ?_⟩
  · have := Nat.mod_lt (top + 11 - (A 47).toNat + i) (show 0 < 11 by omega)
    exact (t4 i hi).fp f (fun a k h1 h2 q => by have := hs _ _ q; omega)
  · exact t5.fp f (fun a k h1 h2 q => by have := hs _ _ q; omega)
theorem C_fin {h h' : Hp} {σ : AS} {B : Nat → Int} (x : CRep h σ) (w : WF σ) (f : Fp dP h h') (s : StIs h' 214 B) (p : PastIs h' (ntA (putS (sA σ) B) (stA (sA σ)))) : CRep h' (nS σ B) := by
  refine x.deed f w ?_ ?_ ?_ p
  · intro k hk
    rw [ntA_hi _ _ (by omega)]
    exact putS_same _ _ k hk
  · intro k hk
    rw [ntA_hi _ _ (by omega), putS_47 _ _ (by omega)]
  · refine s.of (fun k hk => ?_)
    show ntA _ _ (33 + k) = B k
    rw [ntA_hi _ _ (by omega)]
    exact putS_at _ _ hk
theorem C_no {h h' : Hp} {σ : AS} (x : CRep h σ) (w : WF σ) (f : Fp dP h h') (s : StIs h' 214 (stA (sA σ))) (p : PastIs h' (sA σ)) : CRep h' σ := x.deed (A' := sA σ) f w (fun _ _ => rfl) (fun _ _ => rfl) s p
theorem rgP_d {a k : Nat} (h : rgP a k) : dP a k := by unfold rgP at h; unfold dP; omega
theorem aPs_d {a k : Nat} (h : aPs 214 a k) : dP a k := by unfold aPs at h; unfold dP; omega
theorem e220_d {a k : Nat} (h : a = 220) : dP a k := by unfold dP; omega
theorem rgP_s {a k : Nat} (h : rgP a k) : stc a := by unfold rgP at h; unfold stc; omega
theorem aPs_s {a k : Nat} (h : aPs 214 a k) : stc a := by unfold aPs at h; unfold stc; omega
theorem put_hi (A B : Nat → Int) : ∀ k, 47 ≤ k → putS A B k = A k := fun k hk => putS_47 A B (by omega)
/-- behind a deed of now: it is kept -/
theorem S_keepNow {d : Nat} {Q : Option PV → Hp → Prop} {h0 h : Hp} {σ : AS} {B : Nat → Int} (x : CRep h0 σ) (w : WF σ) (f : Fp dP h0 h) (mk : Marked h (sA σ) (stA (sA σ))) (s : StIs h 214 B)
    (k : ∀ h', CRep h' (nS σ B) → Cfr h0 h' → Fp (fun a _ => a = 220) h h' → Q none h') : WP (d + 1) mX4_keep 0 [some (.inr (.inr 220))] [] h Q := by
  have e47 := put_hi (sA σ) B 47 (by omega)
  refine S_keep (x.1.1.fr f) (mk.of (A' := putS (sA σ) B) (put_hi _ _)) (by rw [e47]; exact w.2.2.1) (by rw [e47]; exact w.2.2.2.1) ?_
  intro h' f' p
  have fd := f.trans (f'.mono (fun a k q => e220_d q))
  exact k h' (C_fin x w fd (s.fp f' (fun a k h1 h2 => by omega)) p) (Cfr_d fd) f'
theorem S_markNow {d : Nat} {Q : Option PV → Hp → Prop} {h : Hp} {σ : AS} (x : CRep h σ) (w : WF σ)
    (k : ∀ h', Fp rgP h h' → Marked h' (sA σ) (stA (sA σ)) → CpF h' (sA σ) → StIs h' 214 (stA (sA σ)) → CRep h' σ → Q none h') : WP (d + 1) mX4_mark 0 [some (.inr (.inr 220)), some (.inr (.inr 214))] [] h Q := by
  have s := x.1.2.2.2.1
  refine S_mark x.1.1 x.1.2.2.2.2.1 w.2.2.1 w.2.2.2.1 s ?_
  intro h' f mk
  have s' := s.fp f (fun a k h1 h2 => by unfold rgP; omega)
  exact k h' f mk ((x.cp w).fr f (fun a k q => rgP_s q)) s' (C_no x w (f.mono (fun a k q => rgP_d q)) s' mk.past)
set_option maxHeartbeats 1000000 in
theorem C_dive {d : Nat} {σ : AS} {g : Int} : CSpec (d + 5) mX11_dive [some (.inr (.inr 200)), some (.inl g), none] σ (.inl (if whyV (sA σ) g = 0 then bP (sA σ) (stA (sA σ)) g.toNat else -11)) (if whyV (sA σ) g = 0 then nS σ (dvB (sA σ) (stA (sA σ)) g.toNat) else σ) := by
  intro h Q x w k
  have m := x.1.1
  simp only [rX11_dive_0, rX11_dive_1, rX11_dive_4, rX11_dive_5, rX11_dive_8, Cs_K200 m, Cs_R200_0 m, Cs_R200_1 m, Cs_R200_2 m, Cs_R200_3 m, Cs_R200_4 m, Cs_R200_5 m, Cs_R200_6 m, Cs_K201 m, Cs_R201_0 m, Cs_R201_1 m, Cs_K202 m, Cs_K203 m, Cs_K211 m, Cs_R211_0 m, Cs_R211_1 m, Cs_K212 m, Cs_K213 m, Cs_K214 m, Cs_R214_0 m, Cs_R214_1 m, Cs_K215 m, Cs_K216 m, Cs_K217 m, Cs_R217_0 m, Cs_R217_1 m, Cs_K218 m, Cs_K219 m, Cs_K220 m, Cs_R220_0 m, Cs_K221 m, Cs_K262 m, Cs_K271 m, Cs_R271_0 m, Cs_R271_1 m, Cs_K272 m, Cs_K276 m, Cs_R272_0 m, Cs_R276_0 m, Cs_K273 m, Cs_R273_0 m, Cs_R273_1 m, Cs_K274 m, Cs_K275 m, Cs_K277 m, Cs_R277_0 m, Cs_R277_1 m, Cs_K278 m, Cs_K279 m, Cs_R262_0 m, Cs_K263 m, Cs_R263_0 m, Cs_K264 m, Cs_R262_1 m, Cs_K265 m, Cs_R265_0 m, Cs_K266 m, Cs_R262_2 m, Cs_K267 m, Cs_R267_0 m, Cs_K268 m, Cs_R262_3 m, Cs_K269 m, Cs_R269_0 m, Cs_K270 m, Int.toNat_natCast, Int.natCast_nonneg, true_and, and_true, and_self, if_true, if_false, or_true, true_or, or_false, false_or, ne_eq, not_true_eq_false, not_false_eq_true, Nat.reduceLeDiff, Nat.reduceEqDiff, Nat.reduceLT, Nat.reduceAdd, Nat.reduceMul, Nat.reduceSub, Int.reduceLT, Int.reduceLE, Int.reduceEq, Int.reduceToNat, Int.reduceAdd, Int.reduceSub, Int.reduceMul, Int.reduceNeg, Int.cast_ofNat_Int, false_and, and_false]
  refine S_markNow (d := d + 3) x w ?_
  intro h1 f1 mk1 c1 s1 x1
  have m1 := x1.1.1
  simp only [psh_none, rX11_dive_11, rX11_dive_12, rX11_dive_13, rX11_dive_16, rX11_dive_17, Cs_K200 m1, Cs_R200_0 m1, Cs_R200_1 m1, Cs_R200_2 m1, Cs_R200_3 m1, Cs_R200_4 m1, Cs_R200_5 m1, Cs_R200_6 m1, Cs_K201 m1, Cs_R201_0 m1, Cs_R201_1 m1, Cs_K202 m1, Cs_K203 m1, Cs_K211 m1, Cs_R211_0 m1, Cs_R211_1 m1, Cs_K212 m1, Cs_K213 m1, Cs_K214 m1, Cs_R214_0 m1, Cs_R214_1 m1, Cs_K215 m1, Cs_K216 m1, Cs_K217 m1, Cs_R217_0 m1, Cs_R217_1 m1, Cs_K218 m1, Cs_K219 m1, Cs_K220 m1, Cs_R220_0 m1, Cs_K221 m1, Cs_K262 m1, Cs_K271 m1, Cs_R271_0 m1, Cs_R271_1 m1, Cs_K272 m1, Cs_K276 m1, Cs_R272_0 m1, Cs_R276_0 m1, Cs_K273 m1, Cs_R273_0 m1, Cs_R273_1 m1, Cs_K274 m1, Cs_K275 m1, Cs_K277 m1, Cs_R277_0 m1, Cs_R277_1 m1, Cs_K278 m1, Cs_K279 m1, Cs_R262_0 m1, Cs_K263 m1, Cs_R263_0 m1, Cs_K264 m1, Cs_R262_1 m1, Cs_K265 m1, Cs_R265_0 m1, Cs_K266 m1, Cs_R262_2 m1, Cs_K267 m1, Cs_R267_0 m1, Cs_K268 m1, Cs_R262_3 m1, Cs_K269 m1, Cs_R269_0 m1, Cs_K270 m1, Int.toNat_natCast, Int.natCast_nonneg, true_and, and_true, and_self, if_true, if_false, or_true, true_or, or_false, false_or, ne_eq, not_true_eq_false, not_false_eq_true, Nat.reduceLeDiff, Nat.reduceEqDiff, Nat.reduceLT, Nat.reduceAdd, Nat.reduceMul, Nat.reduceSub, Int.reduceLT, Int.reduceLE, Int.reduceEq, Int.reduceToNat, Int.reduceAdd, Int.reduceSub, Int.reduceMul, Int.reduceNeg, Int.cast_ofNat_Int, false_and, and_false]
  refine S_actDive c1 (Or.inl rfl) s1 w.2.1 ?_
  intro h2 f2 s2 r2
  have fd := (f1.mono (fun a k q => rgP_d q)).trans (f2.mono (fun a k q => aPs_d q))
  have m2 := m.fr fd
  have mk2 := mk1.fr f2 (fun a k q => by unfold aPs at q; omega)
  simp only [psh_some, rX11_dive_20, rX11_dive_21, rX11_dive_22]
  by_cases hy : whyV (sA σ) g = 0
  · simp only [if_pos hy] at k s2 ⊢
    simp only [hy, rX11_dive_30, rX11_dive_31, rX11_dive_34, Cs_K200 m2, Cs_R200_0 m2, Cs_R200_1 m2, Cs_R200_2 m2, Cs_R200_3 m2, Cs_R200_4 m2, Cs_R200_5 m2, Cs_R200_6 m2, Cs_K201 m2, Cs_R201_0 m2, Cs_R201_1 m2, Cs_K202 m2, Cs_K203 m2, Cs_K211 m2, Cs_R211_0 m2, Cs_R211_1 m2, Cs_K212 m2, Cs_K213 m2, Cs_K214 m2, Cs_R214_0 m2, Cs_R214_1 m2, Cs_K215 m2, Cs_K216 m2, Cs_K217 m2, Cs_R217_0 m2, Cs_R217_1 m2, Cs_K218 m2, Cs_K219 m2, Cs_K220 m2, Cs_R220_0 m2, Cs_K221 m2, Cs_K262 m2, Cs_K271 m2, Cs_R271_0 m2, Cs_R271_1 m2, Cs_K272 m2, Cs_K276 m2, Cs_R272_0 m2, Cs_R276_0 m2, Cs_K273 m2, Cs_R273_0 m2, Cs_R273_1 m2, Cs_K274 m2, Cs_K275 m2, Cs_K277 m2, Cs_R277_0 m2, Cs_R277_1 m2, Cs_K278 m2, Cs_K279 m2, Cs_R262_0 m2, Cs_K263 m2, Cs_R263_0 m2, Cs_K264 m2, Cs_R262_1 m2, Cs_K265 m2, Cs_R265_0 m2, Cs_K266 m2, Cs_R262_2 m2, Cs_K267 m2, Cs_R267_0 m2, Cs_K268 m2, Cs_R262_3 m2, Cs_K269 m2, Cs_R269_0 m2, Cs_K270 m2, Int.toNat_natCast, Int.natCast_nonneg, true_and, and_true, and_self, if_true, if_false, or_true, true_or, or_false, false_or, ne_eq, not_true_eq_false, not_false_eq_true, Nat.reduceLeDiff, Nat.reduceEqDiff, Nat.reduceLT, Nat.reduceAdd, Nat.reduceMul, Nat.reduceSub, Int.reduceLT, Int.reduceLE, Int.reduceEq, Int.reduceToNat, Int.reduceAdd, Int.reduceSub, Int.reduceMul, Int.reduceNeg, Int.cast_ofNat_Int, false_and, and_false]
    refine S_keepNow (d := d + 3) x w fd mk2 s2 ?_
    intro h3 x3 f3 g3
    have m3 := x3.1.1
    have e : hI h3 214 2 = bP (sA σ) (stA (sA σ)) g.toNat := by rw [g3.I (by omega)]; exact s2.1
    simp only [psh_none, rX11_dive_37, rX11_dive_38, rX11_dive_41, rX11_dive_44, Cs_K200 m3, Cs_R200_0 m3, Cs_R200_1 m3, Cs_R200_2 m3, Cs_R200_3 m3, Cs_R200_4 m3, Cs_R200_5 m3, Cs_R200_6 m3, Cs_K201 m3, Cs_R201_0 m3, Cs_R201_1 m3, Cs_K202 m3, Cs_K203 m3, Cs_K211 m3, Cs_R211_0 m3, Cs_R211_1 m3, Cs_K212 m3, Cs_K213 m3, Cs_K214 m3, Cs_R214_0 m3, Cs_R214_1 m3, Cs_K215 m3, Cs_K216 m3, Cs_K217 m3, Cs_R217_0 m3, Cs_R217_1 m3, Cs_K218 m3, Cs_K219 m3, Cs_K220 m3, Cs_R220_0 m3, Cs_K221 m3, Cs_K262 m3, Cs_K271 m3, Cs_R271_0 m3, Cs_R271_1 m3, Cs_K272 m3, Cs_K276 m3, Cs_R272_0 m3, Cs_R276_0 m3, Cs_K273 m3, Cs_R273_0 m3, Cs_R273_1 m3, Cs_K274 m3, Cs_K275 m3, Cs_K277 m3, Cs_R277_0 m3, Cs_R277_1 m3, Cs_K278 m3, Cs_K279 m3, Cs_R262_0 m3, Cs_K263 m3, Cs_R263_0 m3, Cs_K264 m3, Cs_R262_1 m3, Cs_K265 m3, Cs_R265_0 m3, Cs_K266 m3, Cs_R262_2 m3, Cs_K267 m3, Cs_R267_0 m3, Cs_K268 m3, Cs_R262_3 m3, Cs_K269 m3, Cs_R269_0 m3, Cs_K270 m3, Int.toNat_natCast, Int.natCast_nonneg, true_and, and_true, and_self, if_true, if_false, or_true, true_or, or_false, false_or, ne_eq, not_true_eq_false, not_false_eq_true, Nat.reduceLeDiff, Nat.reduceEqDiff, Nat.reduceLT, Nat.reduceAdd, Nat.reduceMul, Nat.reduceSub, Int.reduceLT, Int.reduceLE, Int.reduceEq, Int.reduceToNat, Int.reduceAdd, Int.reduceSub, Int.reduceMul, Int.reduceNeg, Int.cast_ofNat_Int, false_and, and_false, e]
    exact k h3 x3 f3
  · simp only [if_neg hy] at k s2 ⊢
    have e1 : whyV (sA σ) g = 1 := by
      unfold whyV at hy ⊢
      split at hy
      · exact absurd rfl hy
      · rename_i q; rw [if_neg q]
    simp only [e1, rX11_dive_25, rX11_dive_27, rX11_dive_28, rX11_dive_29, Int.toNat_natCast, Int.natCast_nonneg, true_and, and_true, and_self, if_true, if_false, or_true, true_or, or_false, false_or, ne_eq, not_true_eq_false, not_false_eq_true, Nat.reduceLeDiff, Nat.reduceEqDiff, Nat.reduceLT, Nat.reduceAdd, Nat.reduceMul, Nat.reduceSub, Int.reduceLT, Int.reduceLE, Int.reduceEq, Int.reduceToNat, Int.reduceAdd, Int.reduceSub, Int.reduceMul, Int.reduceNeg, Int.cast_ofNat_Int, false_and, and_false, show w32 (-10 - 1) = -11 from rfl]
    exact k h2 (C_no x w fd s2 mk2.past) (Cfr_d fd)
set_option maxHeartbeats 1000000 in
theorem R_dive {d : Nat} {σ : AS} {g : Int} : RSpec (d + 5) mX12_dive [some (.inr (.inr 294)), some (.inl g)] σ (.inl (if whyV (sA σ) g = 0 then bP (sA σ) (stA (sA σ)) g.toNat else -11)) (if whyV (sA σ) g = 0 then nS σ (dvB (sA σ) (stA (sA σ)) g.toNat) else σ) := by
  refine RSpec5.of ?_ (fun h Q hk => by simp only [rX12_dive_0, rX12_dive_1, rX12_dive_2, hk, Int.toNat_natCast, Int.natCast_nonneg, true_and, and_true, and_self, if_true, if_false, or_true, true_or, or_false, false_or, ne_eq, not_true_eq_false, not_false_eq_true, Nat.reduceLeDiff, Nat.reduceEqDiff, Nat.reduceLT, Nat.reduceAdd, Nat.reduceMul, Nat.reduceSub, Int.reduceLT, Int.reduceLE, Int.reduceEq, Int.reduceToNat, Int.reduceAdd, Int.reduceSub, Int.reduceMul, Int.reduceNeg, Int.cast_ofNat_Int, false_and, and_false])
  intro h Q x w k
  have m := x.1
  have rs := x.rs w
  unfold whyV at k
  simp only [rX12_dive_5, rX12_dive_6, rX12_dive_7, rX12_dive_8, rX12_dive_11, rX12_dive_14, rX12_dive_16, Md_K280 m, Md_R281 m, Md_K281 m, Md_R282 m, Md_K282 m, Md_R283 m, Md_K283 m, Md_R284 m, Md_K284 m, Md_R285 m, Md_K285 m, Md_R286 m, Md_K286 m, Md_R287 m, Md_K287 m, Md_R288 m, Md_K288 m, Md_R289 m, Md_K289 m, Md_R290 m, Md_K290 m, Md_R291 m, Md_K291 m, Md_R292 m, Md_K292 m, Md_R293 m, Md_K293 m, Md_R294 m, Md_K294 m, Md_R295 m, Md_K295 m, Md_R296 m, Md_K296 m, Md_R297 m, Md_K297 m, Md_R298 m, Md_K298 m, Md_R299 m, Md_K299 m, Int.toNat_natCast, Int.natCast_nonneg, true_and, and_true, and_self, if_true, if_false, or_true, true_or, or_false, false_or, ne_eq, not_true_eq_false, not_false_eq_true, Nat.reduceLeDiff, Nat.reduceEqDiff, Nat.reduceLT, Nat.reduceAdd, Nat.reduceMul, Nat.reduceSub, Int.reduceLT, Int.reduceLE, Int.reduceEq, Int.reduceToNat, Int.reduceAdd, Int.reduceSub, Int.reduceMul, Int.reduceNeg, Int.cast_ofNat_Int, false_and, and_false, S_rGoer' rs, psh_some]
  by_cases h1 : 0 ≤ g ∧ g < sA σ 2
  · simp only [if_pos h1, if_true] at k ⊢
    rw [if_neg (by decide)]
    obtain ⟨n, rfl⟩ := Int.eq_ofNat_of_zero_le h1.1
    have n6 := w.1.2.2.2.1
    simp only [Int.toNat_natCast] at k
    simp only [rX12_dive_17, rX12_dive_18, Md_K280 m, Md_R281 m, Md_K281 m, Md_R282 m, Md_K282 m, Md_R283 m, Md_K283 m, Md_R284 m, Md_K284 m, Md_R285 m, Md_K285 m, Md_R286 m, Md_K286 m, Md_R287 m, Md_K287 m, Md_R288 m, Md_K288 m, Md_R289 m, Md_K289 m, Md_R290 m, Md_K290 m, Md_R291 m, Md_K291 m, Md_R292 m, Md_K292 m, Md_R293 m, Md_K293 m, Md_R294 m, Md_K294 m, Md_R295 m, Md_K295 m, Md_R296 m, Md_K296 m, Md_R297 m, Md_K297 m, Md_R298 m, Md_K298 m, Md_R299 m, Md_K299 m, Int.toNat_natCast, Int.natCast_nonneg, true_and, and_true, and_self, if_true, if_false, or_true, true_or, or_false, false_or, ne_eq, not_true_eq_false, not_false_eq_true, Nat.reduceLeDiff, Nat.reduceEqDiff, Nat.reduceLT, Nat.reduceAdd, Nat.reduceMul, Nat.reduceSub, Int.reduceLT, Int.reduceLE, Int.reduceEq, Int.reduceToNat, Int.reduceAdd, Int.reduceSub, Int.reduceMul, Int.reduceNeg, Int.cast_ofNat_Int, false_and, and_false]
    refine S_keeps rs ?_
    intro h1 f1 e1
    have rs1 : RS h1 (sA σ) (stA (sA σ)) := ⟨m.fr f1, fun j hj => by rw [f1.I (by unfold keP; omega)]; exact rs.2.1 j hj, rs.2.2⟩
    have m1 := rs1.1
    simp only [psh_none, rX12_dive_21, rX12_dive_22, rX12_dive_23, Md_K280 m1, Md_R281 m1, Md_K281 m1, Md_R282 m1, Md_K282 m1, Md_R283 m1, Md_K283 m1, Md_R284 m1, Md_K284 m1, Md_R285 m1, Md_K285 m1, Md_R286 m1, Md_K286 m1, Md_R287 m1, Md_K287 m1, Md_R288 m1, Md_K288 m1, Md_R289 m1, Md_K289 m1, Md_R290 m1, Md_K290 m1, Md_R291 m1, Md_K291 m1, Md_R292 m1, Md_K292 m1, Md_R293 m1, Md_K293 m1, Md_R294 m1, Md_K294 m1, Md_R295 m1, Md_K295 m1, Md_R296 m1, Md_K296 m1, Md_R297 m1, Md_K297 m1, Md_R298 m1, Md_K298 m1, Md_R299 m1, Md_K299 m1, Int.toNat_natCast, Int.natCast_nonneg, true_and, and_true, and_self, if_true, if_false, or_true, true_or, or_false, false_or, ne_eq, not_true_eq_false, not_false_eq_true, Nat.reduceLeDiff, Nat.reduceEqDiff, Nat.reduceLT, Nat.reduceAdd, Nat.reduceMul, Nat.reduceSub, Int.reduceLT, Int.reduceLE, Int.reduceEq, Int.reduceToNat, Int.reduceAdd, Int.reduceSub, Int.reduceMul, Int.reduceNeg, Int.cast_ofNat_Int, false_and, and_false]
    refine S_rDives rs1 (by omega) ?_
    intro h2 f2 rs2 _
    have m2 := rs2.1
    have e47 := put_hi (sA σ) (dvB (sA σ) (stA (sA σ)) n) 47 (by omega)
    simp only [psh_none, rX12_dive_26, rX12_dive_27, Md_K280 m2, Md_R281 m2, Md_K281 m2, Md_R282 m2, Md_K282 m2, Md_R283 m2, Md_K283 m2, Md_R284 m2, Md_K284 m2, Md_R285 m2, Md_K285 m2, Md_R286 m2, Md_K286 m2, Md_R287 m2, Md_K287 m2, Md_R288 m2, Md_K288 m2, Md_R289 m2, Md_K289 m2, Md_R290 m2, Md_K290 m2, Md_R291 m2, Md_K291 m2, Md_R292 m2, Md_K292 m2, Md_R293 m2, Md_K293 m2, Md_R294 m2, Md_K294 m2, Md_R295 m2, Md_K295 m2, Md_R296 m2, Md_K296 m2, Md_R297 m2, Md_K297 m2, Md_R298 m2, Md_K298 m2, Md_R299 m2, Md_K299 m2, Int.toNat_natCast, Int.natCast_nonneg, true_and, and_true, and_self, if_true, if_false, or_true, true_or, or_false, false_or, ne_eq, not_true_eq_false, not_false_eq_true, Nat.reduceLeDiff, Nat.reduceEqDiff, Nat.reduceLT, Nat.reduceAdd, Nat.reduceMul, Nat.reduceSub, Int.reduceLT, Int.reduceLE, Int.reduceEq, Int.reduceToNat, Int.reduceAdd, Int.reduceSub, Int.reduceMul, Int.reduceNeg, Int.cast_ofNat_Int, false_and, and_false]
    refine S_notes (A := putS (sA σ) (dvB (sA σ) (stA (sA σ)) n)) (W := stA (sA σ)) m2 rs2.2.1 (by rw [e47]; exact w.2.2.1) (by rw [e47]; exact w.2.2.2.1) (fun j hj => by rw [f2.I (by unfold zP lP; omega)]; exact e1 j hj) ?_
    intro h3 f3 a3
    have m3 := m2.fr f3
    have fq := ((f1.mono (P' := qP) (fun a k q => keP_q q)).trans (f2.mono (fun a k q => zP_q q))).trans (f3.mono (fun a k q => ntP_q q))
    have e : hI h3 295 33 = bP (sA σ) (stA (sA σ)) n := by rw [f3.I (by unfold ntP; omega)]; exact rs2.b (k := 0) (by omega)
    simp only [psh_none, rX12_dive_30, rX12_dive_31, rX12_dive_34, rX12_dive_36, rX12_dive_37, Md_K280 m3, Md_R281 m3, Md_K281 m3, Md_R282 m3, Md_K282 m3, Md_R283 m3, Md_K283 m3, Md_R284 m3, Md_K284 m3, Md_R285 m3, Md_K285 m3, Md_R286 m3, Md_K286 m3, Md_R287 m3, Md_K287 m3, Md_R288 m3, Md_K288 m3, Md_R289 m3, Md_K289 m3, Md_R290 m3, Md_K290 m3, Md_R291 m3, Md_K291 m3, Md_R292 m3, Md_K292 m3, Md_R293 m3, Md_K293 m3, Md_R294 m3, Md_K294 m3, Md_R295 m3, Md_K295 m3, Md_R296 m3, Md_K296 m3, Md_R297 m3, Md_K297 m3, Md_R298 m3, Md_K298 m3, Md_R299 m3, Md_K299 m3, Int.toNat_natCast, Int.natCast_nonneg, true_and, and_true, and_self, if_true, if_false, or_true, true_or, or_false, false_or, ne_eq, not_true_eq_false, not_false_eq_true, Nat.reduceLeDiff, Nat.reduceEqDiff, Nat.reduceLT, Nat.reduceAdd, Nat.reduceMul, Nat.reduceSub, Int.reduceLT, Int.reduceLE, Int.reduceEq, Int.reduceToNat, Int.reduceAdd, Int.reduceSub, Int.reduceMul, Int.reduceNeg, Int.cast_ofNat_Int, false_and, and_false, e]
    exact k h3 (x.a fq a3) (fq.mono (fun a k q => qP_r q))
  · simp only [if_neg h1] at k ⊢
    rw [if_neg (by decide), if_neg (by decide)] at k
    rw [if_pos (by trivial)]
    exact k h x (Fp.refl _ h)
set_option maxHeartbeats 1000000 in
theorem C_say {d : Nat} {σ : AS} {g n : Int} : CSpec (d + 5) mX11_say [some (.inr (.inr 200)), some (.inl g), some (.inl n), none] σ (.inl (if whyS (sA σ) (stA (sA σ)) g n = 0 then bR (sA σ) (stA (sA σ)) g.toNat else -10 - whyS (sA σ) (stA (sA σ)) g n)) (if whyS (sA σ) (stA (sA σ)) g n = 0 then nS σ (syB (sA σ) (stA (sA σ)) g.toNat n) else σ) := by
  intro h Q x w k
  have m := x.1.1
  simp only [rX11_say_0, rX11_say_1, rX11_say_4, rX11_say_5, rX11_say_8, Cs_K200 m, Cs_R200_0 m, Cs_R200_1 m, Cs_R200_2 m, Cs_R200_3 m, Cs_R200_4 m, Cs_R200_5 m, Cs_R200_6 m, Cs_K201 m, Cs_R201_0 m, Cs_R201_1 m, Cs_K202 m, Cs_K203 m, Cs_K211 m, Cs_R211_0 m, Cs_R211_1 m, Cs_K212 m, Cs_K213 m, Cs_K214 m, Cs_R214_0 m, Cs_R214_1 m, Cs_K215 m, Cs_K216 m, Cs_K217 m, Cs_R217_0 m, Cs_R217_1 m, Cs_K218 m, Cs_K219 m, Cs_K220 m, Cs_R220_0 m, Cs_K221 m, Cs_K262 m, Cs_K271 m, Cs_R271_0 m, Cs_R271_1 m, Cs_K272 m, Cs_K276 m, Cs_R272_0 m, Cs_R276_0 m, Cs_K273 m, Cs_R273_0 m, Cs_R273_1 m, Cs_K274 m, Cs_K275 m, Cs_K277 m, Cs_R277_0 m, Cs_R277_1 m, Cs_K278 m, Cs_K279 m, Cs_R262_0 m, Cs_K263 m, Cs_R263_0 m, Cs_K264 m, Cs_R262_1 m, Cs_K265 m, Cs_R265_0 m, Cs_K266 m, Cs_R262_2 m, Cs_K267 m, Cs_R267_0 m, Cs_K268 m, Cs_R262_3 m, Cs_K269 m, Cs_R269_0 m, Cs_K270 m, Int.toNat_natCast, Int.natCast_nonneg, true_and, and_true, and_self, if_true, if_false, or_true, true_or, or_false, false_or, ne_eq, not_true_eq_false, not_false_eq_true, Nat.reduceLeDiff, Nat.reduceEqDiff, Nat.reduceLT, Nat.reduceAdd, Nat.reduceMul, Nat.reduceSub, Int.reduceLT, Int.reduceLE, Int.reduceEq, Int.reduceToNat, Int.reduceAdd, Int.reduceSub, Int.reduceMul, Int.reduceNeg, Int.cast_ofNat_Int, false_and, and_false]
  refine S_markNow (d := d + 3) x w ?_
  intro h1 f1 mk1 c1 s1 x1
  have m1 := x1.1.1
  simp only [psh_none, rX11_say_11, rX11_say_12, rX11_say_13, rX11_say_16, rX11_say_17, rX11_say_18, Cs_K200 m1, Cs_R200_0 m1, Cs_R200_1 m1, Cs_R200_2 m1, Cs_R200_3 m1, Cs_R200_4 m1, Cs_R200_5 m1, Cs_R200_6 m1, Cs_K201 m1, Cs_R201_0 m1, Cs_R201_1 m1, Cs_K202 m1, Cs_K203 m1, Cs_K211 m1, Cs_R211_0 m1, Cs_R211_1 m1, Cs_K212 m1, Cs_K213 m1, Cs_K214 m1, Cs_R214_0 m1, Cs_R214_1 m1, Cs_K215 m1, Cs_K216 m1, Cs_K217 m1, Cs_R217_0 m1, Cs_R217_1 m1, Cs_K218 m1, Cs_K219 m1, Cs_K220 m1, Cs_R220_0 m1, Cs_K221 m1, Cs_K262 m1, Cs_K271 m1, Cs_R271_0 m1, Cs_R271_1 m1, Cs_K272 m1, Cs_K276 m1, Cs_R272_0 m1, Cs_R276_0 m1, Cs_K273 m1, Cs_R273_0 m1, Cs_R273_1 m1, Cs_K274 m1, Cs_K275 m1, Cs_K277 m1, Cs_R277_0 m1, Cs_R277_1 m1, Cs_K278 m1, Cs_K279 m1, Cs_R262_0 m1, Cs_K263 m1, Cs_R263_0 m1, Cs_K264 m1, Cs_R262_1 m1, Cs_K265 m1, Cs_R265_0 m1, Cs_K266 m1, Cs_R262_2 m1, Cs_K267 m1, Cs_R267_0 m1, Cs_K268 m1, Cs_R262_3 m1, Cs_K269 m1, Cs_R269_0 m1, Cs_K270 m1, Int.toNat_natCast, Int.natCast_nonneg, true_and, and_true, and_self, if_true, if_false, or_true, true_or, or_false, false_or, ne_eq, not_true_eq_false, not_false_eq_true, Nat.reduceLeDiff, Nat.reduceEqDiff, Nat.reduceLT, Nat.reduceAdd, Nat.reduceMul, Nat.reduceSub, Int.reduceLT, Int.reduceLE, Int.reduceEq, Int.reduceToNat, Int.reduceAdd, Int.reduceSub, Int.reduceMul, Int.reduceNeg, Int.cast_ofNat_Int, false_and, and_false]
  refine S_actSay c1 (Or.inl rfl) s1 w.2.1 ?_
  intro h2 f2 s2 r2
  have fd := (f1.mono (fun a k q => rgP_d q)).trans (f2.mono (fun a k q => aPs_d q))
  have m2 := m.fr fd
  have mk2 := mk1.fr f2 (fun a k q => by unfold aPs at q; omega)
  simp only [psh_some, rX11_say_21, rX11_say_22, rX11_say_23]
  by_cases hy : whyS (sA σ) (stA (sA σ)) g n = 0
  · simp only [if_pos hy] at k s2 ⊢
    simp only [hy, rX11_say_31, rX11_say_32, rX11_say_35, Cs_K200 m2, Cs_R200_0 m2, Cs_R200_1 m2, Cs_R200_2 m2, Cs_R200_3 m2, Cs_R200_4 m2, Cs_R200_5 m2, Cs_R200_6 m2, Cs_K201 m2, Cs_R201_0 m2, Cs_R201_1 m2, Cs_K202 m2, Cs_K203 m2, Cs_K211 m2, Cs_R211_0 m2, Cs_R211_1 m2, Cs_K212 m2, Cs_K213 m2, Cs_K214 m2, Cs_R214_0 m2, Cs_R214_1 m2, Cs_K215 m2, Cs_K216 m2, Cs_K217 m2, Cs_R217_0 m2, Cs_R217_1 m2, Cs_K218 m2, Cs_K219 m2, Cs_K220 m2, Cs_R220_0 m2, Cs_K221 m2, Cs_K262 m2, Cs_K271 m2, Cs_R271_0 m2, Cs_R271_1 m2, Cs_K272 m2, Cs_K276 m2, Cs_R272_0 m2, Cs_R276_0 m2, Cs_K273 m2, Cs_R273_0 m2, Cs_R273_1 m2, Cs_K274 m2, Cs_K275 m2, Cs_K277 m2, Cs_R277_0 m2, Cs_R277_1 m2, Cs_K278 m2, Cs_K279 m2, Cs_R262_0 m2, Cs_K263 m2, Cs_R263_0 m2, Cs_K264 m2, Cs_R262_1 m2, Cs_K265 m2, Cs_R265_0 m2, Cs_K266 m2, Cs_R262_2 m2, Cs_K267 m2, Cs_R267_0 m2, Cs_K268 m2, Cs_R262_3 m2, Cs_K269 m2, Cs_R269_0 m2, Cs_K270 m2, Int.toNat_natCast, Int.natCast_nonneg, true_and, and_true, and_self, if_true, if_false, or_true, true_or, or_false, false_or, ne_eq, not_true_eq_false, not_false_eq_true, Nat.reduceLeDiff, Nat.reduceEqDiff, Nat.reduceLT, Nat.reduceAdd, Nat.reduceMul, Nat.reduceSub, Int.reduceLT, Int.reduceLE, Int.reduceEq, Int.reduceToNat, Int.reduceAdd, Int.reduceSub, Int.reduceMul, Int.reduceNeg, Int.cast_ofNat_Int, false_and, and_false]
    refine S_keepNow (d := d + 3) x w fd mk2 s2 ?_
    intro h3 x3 f3 g3
    have m3 := x3.1.1
    have e : hI h3 211 3 = bR (sA σ) (stA (sA σ)) g.toNat := by rw [g3.I (by omega)]; exact r2 hy
    simp only [psh_none, rX11_say_38, rX11_say_39, rX11_say_42, rX11_say_45, Cs_K200 m3, Cs_R200_0 m3, Cs_R200_1 m3, Cs_R200_2 m3, Cs_R200_3 m3, Cs_R200_4 m3, Cs_R200_5 m3, Cs_R200_6 m3, Cs_K201 m3, Cs_R201_0 m3, Cs_R201_1 m3, Cs_K202 m3, Cs_K203 m3, Cs_K211 m3, Cs_R211_0 m3, Cs_R211_1 m3, Cs_K212 m3, Cs_K213 m3, Cs_K214 m3, Cs_R214_0 m3, Cs_R214_1 m3, Cs_K215 m3, Cs_K216 m3, Cs_K217 m3, Cs_R217_0 m3, Cs_R217_1 m3, Cs_K218 m3, Cs_K219 m3, Cs_K220 m3, Cs_R220_0 m3, Cs_K221 m3, Cs_K262 m3, Cs_K271 m3, Cs_R271_0 m3, Cs_R271_1 m3, Cs_K272 m3, Cs_K276 m3, Cs_R272_0 m3, Cs_R276_0 m3, Cs_K273 m3, Cs_R273_0 m3, Cs_R273_1 m3, Cs_K274 m3, Cs_K275 m3, Cs_K277 m3, Cs_R277_0 m3, Cs_R277_1 m3, Cs_K278 m3, Cs_K279 m3, Cs_R262_0 m3, Cs_K263 m3, Cs_R263_0 m3, Cs_K264 m3, Cs_R262_1 m3, Cs_K265 m3, Cs_R265_0 m3, Cs_K266 m3, Cs_R262_2 m3, Cs_K267 m3, Cs_R267_0 m3, Cs_K268 m3, Cs_R262_3 m3, Cs_K269 m3, Cs_R269_0 m3, Cs_K270 m3, Int.toNat_natCast, Int.natCast_nonneg, true_and, and_true, and_self, if_true, if_false, or_true, true_or, or_false, false_or, ne_eq, not_true_eq_false, not_false_eq_true, Nat.reduceLeDiff, Nat.reduceEqDiff, Nat.reduceLT, Nat.reduceAdd, Nat.reduceMul, Nat.reduceSub, Int.reduceLT, Int.reduceLE, Int.reduceEq, Int.reduceToNat, Int.reduceAdd, Int.reduceSub, Int.reduceMul, Int.reduceNeg, Int.cast_ofNat_Int, false_and, and_false, e]
    exact k h3 x3 f3
  · simp only [if_neg hy] at k s2 ⊢
    have e1 : 0 ≤ whyS (sA σ) (stA (sA σ)) g n ∧ whyS (sA σ) (stA (sA σ)) g n ≤ 2 := by
      unfold whyS
      split
      · split <;> omega
      · omega
    simp only [rX11_say_26, rX11_say_28, rX11_say_29, rX11_say_30, Int.toNat_natCast, Int.natCast_nonneg, true_and, and_true, and_self, if_true, if_false, or_true, true_or, or_false, false_or, ne_eq, not_true_eq_false, not_false_eq_true, Nat.reduceLeDiff, Nat.reduceEqDiff, Nat.reduceLT, Nat.reduceAdd, Nat.reduceMul, Nat.reduceSub, Int.reduceLT, Int.reduceLE, Int.reduceEq, Int.reduceToNat, Int.reduceAdd, Int.reduceSub, Int.reduceMul, Int.reduceNeg, Int.cast_ofNat_Int, false_and, and_false, w32_i (z := -10 - whyS (sA σ) (stA (sA σ)) g n) (by omega) (by omega)]
    exact k h2 (C_no x w fd s2 mk2.past) (Cfr_d fd)
theorem whyS_go {A B : Nat → Int} {g n : Int} (h : whyS A B g n = 0) : (0 ≤ g ∧ g < A 2) ∧ 0 ≤ n ∧ n ≤ 99 := by
  unfold whyS at h
  by_cases q : (0 ≤ g ∧ g < A 2) ∧ 0 ≤ n ∧ n ≤ 99
  · exact q
  · rw [if_neg q] at h; exact absurd h (by decide)
theorem whyS_in (A B : Nat → Int) (g n : Int) : 0 ≤ whyS A B g n ∧ whyS A B g n ≤ 2 := by
  unfold whyS
  split
  · split <;> omega
  · omega
theorem whyW_in (A B : Nat → Int) (t : Int) : 0 ≤ whyW A B t ∧ whyW A B t ≤ 2 := by
  unfold whyW
  split
  · split <;> omega
  · omega
theorem whyW_go {A B : Nat → Int} {t : Int} (h : whyW A B t = 0) : 0 ≤ t ∧ t < A 1 := by
  unfold whyW at h
  by_cases q : 0 ≤ t ∧ t < A 1
  · exact q
  · rw [if_neg q] at h; exact absurd h (by decide)
theorem RS.ke {h h' : Hp} {A B : Nat → Int} (x : RS h A B) (f : Fp keP h h') : RS h' A B := ⟨x.1.fr f, fun j hj => by rw [f.I (by unfold keP; omega)]; exact x.2.1 j hj, x.2.2⟩
/-- the reference notes a stand that was kept -/
theorem S_notesNow {d : Nat} {Q : Option PV → Hp → Prop} {h0 h : Hp} {σ : AS} {B : Nat → Int} (x : RRep h0 σ) (w : WF σ) (f : Fp qP h0 h) (rs : RS h (sA σ) B) (hw : ∀ j, j < 14 → hI h 301 j = stA (sA σ) j)
    (k : ∀ h', RRep h' (nS σ B) → Fp rfP h0 h' → Fp ntP h h' → Q none h') : WP d mX12_notes 0 [some (.inr (.inr 294)), none] [] h Q := by
  have e47 := put_hi (sA σ) B 47 (by omega)
  refine S_notes (A := putS (sA σ) B) (W := stA (sA σ)) rs.1 rs.2.1 (by rw [e47]; exact w.2.2.1) (by rw [e47]; exact w.2.2.2.1) hw ?_
  intro h' f' a'
  have fq := f.trans (f'.mono (fun a k q => ntP_q q))
  exact k h' (x.a fq a') (fq.mono (fun a k q => qP_r q)) f'
set_option maxHeartbeats 1000000 in
theorem R_say {d : Nat} {σ : AS} {g n : Int} : RSpec (d + 6) mX12_say [some (.inr (.inr 294)), some (.inl g), some (.inl n), none] σ (.inl (if whyS (sA σ) (stA (sA σ)) g n = 0 then bR (sA σ) (stA (sA σ)) g.toNat else -10 - whyS (sA σ) (stA (sA σ)) g n)) (if whyS (sA σ) (stA (sA σ)) g n = 0 then nS σ (syB (sA σ) (stA (sA σ)) g.toNat n) else σ) := by
  refine RSpec5.of ?_ (fun h Q hk => by simp only [rX12_say_0, rX12_say_1, rX12_say_2, hk, Int.toNat_natCast, Int.natCast_nonneg, true_and, and_true, and_self, if_true, if_false, or_true, true_or, or_false, false_or, ne_eq, not_true_eq_false, not_false_eq_true, Nat.reduceLeDiff, Nat.reduceEqDiff, Nat.reduceLT, Nat.reduceAdd, Nat.reduceMul, Nat.reduceSub, Int.reduceLT, Int.reduceLE, Int.reduceEq, Int.reduceToNat, Int.reduceAdd, Int.reduceSub, Int.reduceMul, Int.reduceNeg, Int.cast_ofNat_Int, false_and, and_false])
  intro h Q x w k
  have m := x.1
  have rs := x.rs w
  simp only [rX12_say_5, rX12_say_6, rX12_say_7, rX12_say_8, rX12_say_9, rX12_say_10, Md_K280 m, Md_R281 m, Md_K281 m, Md_R282 m, Md_K282 m, Md_R283 m, Md_K283 m, Md_R284 m, Md_K284 m, Md_R285 m, Md_K285 m, Md_R286 m, Md_K286 m, Md_R287 m, Md_K287 m, Md_R288 m, Md_K288 m, Md_R289 m, Md_K289 m, Md_R290 m, Md_K290 m, Md_R291 m, Md_K291 m, Md_R292 m, Md_K292 m, Md_R293 m, Md_K293 m, Md_R294 m, Md_K294 m, Md_R295 m, Md_K295 m, Md_R296 m, Md_K296 m, Md_R297 m, Md_K297 m, Md_R298 m, Md_K298 m, Md_R299 m, Md_K299 m, Int.toNat_natCast, Int.natCast_nonneg, true_and, and_true, and_self, if_true, if_false, or_true, true_or, or_false, false_or, ne_eq, not_true_eq_false, not_false_eq_true, Nat.reduceLeDiff, Nat.reduceEqDiff, Nat.reduceLT, Nat.reduceAdd, Nat.reduceMul, Nat.reduceSub, Int.reduceLT, Int.reduceLE, Int.reduceEq, Int.reduceToNat, Int.reduceAdd, Int.reduceSub, Int.reduceMul, Int.reduceNeg, Int.cast_ofNat_Int, false_and, and_false]
  refine S_whySay (d := d + 1) rs ?_
  intro h1 f1
  have rs1 := rs.fr f1
  have m1 := rs1.1
  simp only [psh_some, rX12_say_13, rX12_say_14, rX12_say_15]
  by_cases hy : whyS (sA σ) (stA (sA σ)) g n = 0
  · simp only [if_pos hy] at k
    obtain ⟨q1, q2, q3⟩ := whyS_go hy
    obtain ⟨i, rfl⟩ := Int.eq_ofNat_of_zero_le q1.1
    have n6 := w.1.2.2.2.1
    simp only [hy, rX12_say_23, rX12_say_24, Md_K280 m1, Md_R281 m1, Md_K281 m1, Md_R282 m1, Md_K282 m1, Md_R283 m1, Md_K283 m1, Md_R284 m1, Md_K284 m1, Md_R285 m1, Md_K285 m1, Md_R286 m1, Md_K286 m1, Md_R287 m1, Md_K287 m1, Md_R288 m1, Md_K288 m1, Md_R289 m1, Md_K289 m1, Md_R290 m1, Md_K290 m1, Md_R291 m1, Md_K291 m1, Md_R292 m1, Md_K292 m1, Md_R293 m1, Md_K293 m1, Md_R294 m1, Md_K294 m1, Md_R295 m1, Md_K295 m1, Md_R296 m1, Md_K296 m1, Md_R297 m1, Md_K297 m1, Md_R298 m1, Md_K298 m1, Md_R299 m1, Md_K299 m1, Int.toNat_natCast, Int.natCast_nonneg, true_and, and_true, and_self, if_true, if_false, or_true, true_or, or_false, false_or, ne_eq, not_true_eq_false, not_false_eq_true, Nat.reduceLeDiff, Nat.reduceEqDiff, Nat.reduceLT, Nat.reduceAdd, Nat.reduceMul, Nat.reduceSub, Int.reduceLT, Int.reduceLE, Int.reduceEq, Int.reduceToNat, Int.reduceAdd, Int.reduceSub, Int.reduceMul, Int.reduceNeg, Int.cast_ofNat_Int, false_and, and_false]
    refine S_keeps rs1 ?_
    intro h2 f2 e2
    have rs2 := rs1.ke f2
    have m2 := rs2.1
    simp only [psh_none, rX12_say_27, rX12_say_28, rX12_say_29, rX12_say_30, Md_K280 m2, Md_R281 m2, Md_K281 m2, Md_R282 m2, Md_K282 m2, Md_R283 m2, Md_K283 m2, Md_R284 m2, Md_K284 m2, Md_R285 m2, Md_K285 m2, Md_R286 m2, Md_K286 m2, Md_R287 m2, Md_K287 m2, Md_R288 m2, Md_K288 m2, Md_R289 m2, Md_K289 m2, Md_R290 m2, Md_K290 m2, Md_R291 m2, Md_K291 m2, Md_R292 m2, Md_K292 m2, Md_R293 m2, Md_K293 m2, Md_R294 m2, Md_K294 m2, Md_R295 m2, Md_K295 m2, Md_R296 m2, Md_K296 m2, Md_R297 m2, Md_K297 m2, Md_R298 m2, Md_K298 m2, Md_R299 m2, Md_K299 m2, Int.toNat_natCast, Int.natCast_nonneg, true_and, and_true, and_self, if_true, if_false, or_true, true_or, or_false, false_or, ne_eq, not_true_eq_false, not_false_eq_true, Nat.reduceLeDiff, Nat.reduceEqDiff, Nat.reduceLT, Nat.reduceAdd, Nat.reduceMul, Nat.reduceSub, Int.reduceLT, Int.reduceLE, Int.reduceEq, Int.reduceToNat, Int.reduceAdd, Int.reduceSub, Int.reduceMul, Int.reduceNeg, Int.cast_ofNat_Int, false_and, and_false]
    refine S_rSays rs2 (by omega) q2 q3 ?_
    intro h3 f3 rs3 r3
    have m3 := rs3.1
    simp only [psh_none, rX12_say_33, rX12_say_34, Md_K280 m3, Md_R281 m3, Md_K281 m3, Md_R282 m3, Md_K282 m3, Md_R283 m3, Md_K283 m3, Md_R284 m3, Md_K284 m3, Md_R285 m3, Md_K285 m3, Md_R286 m3, Md_K286 m3, Md_R287 m3, Md_K287 m3, Md_R288 m3, Md_K288 m3, Md_R289 m3, Md_K289 m3, Md_R290 m3, Md_K290 m3, Md_R291 m3, Md_K291 m3, Md_R292 m3, Md_K292 m3, Md_R293 m3, Md_K293 m3, Md_R294 m3, Md_K294 m3, Md_R295 m3, Md_K295 m3, Md_R296 m3, Md_K296 m3, Md_R297 m3, Md_K297 m3, Md_R298 m3, Md_K298 m3, Md_R299 m3, Md_K299 m3, Int.toNat_natCast, Int.natCast_nonneg, true_and, and_true, and_self, if_true, if_false, or_true, true_or, or_false, false_or, ne_eq, not_true_eq_false, not_false_eq_true, Nat.reduceLeDiff, Nat.reduceEqDiff, Nat.reduceLT, Nat.reduceAdd, Nat.reduceMul, Nat.reduceSub, Int.reduceLT, Int.reduceLE, Int.reduceEq, Int.reduceToNat, Int.reduceAdd, Int.reduceSub, Int.reduceMul, Int.reduceNeg, Int.cast_ofNat_Int, false_and, and_false]
    have fq := ((f1.mono (P' := qP) (fun a k q => zP_q (lP_z q))).trans (f2.mono (fun a k q => keP_q q))).trans (f3.mono (fun a k q => zP_q q))
    refine S_notesNow x w fq rs3 (fun j hj => by rw [f3.I (by unfold zP lP; omega)]; exact e2 j hj) ?_
    intro h4 x4 f4 g4
    have m4 := x4.1
    have e : hI h4 294 18 = bR (sA σ) (stA (sA σ)) i := by rw [g4.I (by unfold ntP; omega)]; exact r3
    simp only [psh_none, rX12_say_37, rX12_say_38, rX12_say_41, Md_K280 m4, Md_R281 m4, Md_K281 m4, Md_R282 m4, Md_K282 m4, Md_R283 m4, Md_K283 m4, Md_R284 m4, Md_K284 m4, Md_R285 m4, Md_K285 m4, Md_R286 m4, Md_K286 m4, Md_R287 m4, Md_K287 m4, Md_R288 m4, Md_K288 m4, Md_R289 m4, Md_K289 m4, Md_R290 m4, Md_K290 m4, Md_R291 m4, Md_K291 m4, Md_R292 m4, Md_K292 m4, Md_R293 m4, Md_K293 m4, Md_R294 m4, Md_K294 m4, Md_R295 m4, Md_K295 m4, Md_R296 m4, Md_K296 m4, Md_R297 m4, Md_K297 m4, Md_R298 m4, Md_K298 m4, Md_R299 m4, Md_K299 m4, Int.toNat_natCast, Int.natCast_nonneg, true_and, and_true, and_self, if_true, if_false, or_true, true_or, or_false, false_or, ne_eq, not_true_eq_false, not_false_eq_true, Nat.reduceLeDiff, Nat.reduceEqDiff, Nat.reduceLT, Nat.reduceAdd, Nat.reduceMul, Nat.reduceSub, Int.reduceLT, Int.reduceLE, Int.reduceEq, Int.reduceToNat, Int.reduceAdd, Int.reduceSub, Int.reduceMul, Int.reduceNeg, Int.cast_ofNat_Int, false_and, and_false, e]
    exact k h4 x4 f4
  · simp only [if_neg hy] at k ⊢
    have e1 := whyS_in (sA σ) (stA (sA σ)) g n
    simp only [rX12_say_18, rX12_say_20, rX12_say_21, rX12_say_22, w32_i (z := -10 - whyS (sA σ) (stA (sA σ)) g n) (by omega) (by omega)]
    have fq := f1.mono (P' := uP) (fun a k q => lP_u q)
    exact k h1 (x.u fq) (fq.mono (fun a k q => uP_r q))
set_option maxHeartbeats 1000000 in
theorem C_wipe {d : Nat} {σ : AS} {t : Int} : CSpec (d + 3) mX11_wipe [some (.inr (.inr 200)), some (.inl t), none] σ (.inl (if whyW (sA σ) (stA (sA σ)) t = 0 then (bits (wpB (stA (sA σ)) t.toNat 1).toNat : Int) else -10 - whyW (sA σ) (stA (sA σ)) t)) (if whyW (sA σ) (stA (sA σ)) t = 0 then nS σ (wpB (stA (sA σ)) t.toNat) else σ) := by
  intro h Q x w k
  have m := x.1.1
  simp only [rX11_wipe_0, rX11_wipe_1, rX11_wipe_4, rX11_wipe_5, rX11_wipe_8, Cs_K200 m, Cs_R200_0 m, Cs_R200_1 m, Cs_R200_2 m, Cs_R200_3 m, Cs_R200_4 m, Cs_R200_5 m, Cs_R200_6 m, Cs_K201 m, Cs_R201_0 m, Cs_R201_1 m, Cs_K202 m, Cs_K203 m, Cs_K211 m, Cs_R211_0 m, Cs_R211_1 m, Cs_K212 m, Cs_K213 m, Cs_K214 m, Cs_R214_0 m, Cs_R214_1 m, Cs_K215 m, Cs_K216 m, Cs_K217 m, Cs_R217_0 m, Cs_R217_1 m, Cs_K218 m, Cs_K219 m, Cs_K220 m, Cs_R220_0 m, Cs_K221 m, Cs_K262 m, Cs_K271 m, Cs_R271_0 m, Cs_R271_1 m, Cs_K272 m, Cs_K276 m, Cs_R272_0 m, Cs_R276_0 m, Cs_K273 m, Cs_R273_0 m, Cs_R273_1 m, Cs_K274 m, Cs_K275 m, Cs_K277 m, Cs_R277_0 m, Cs_R277_1 m, Cs_K278 m, Cs_K279 m, Cs_R262_0 m, Cs_K263 m, Cs_R263_0 m, Cs_K264 m, Cs_R262_1 m, Cs_K265 m, Cs_R265_0 m, Cs_K266 m, Cs_R262_2 m, Cs_K267 m, Cs_R267_0 m, Cs_K268 m, Cs_R262_3 m, Cs_K269 m, Cs_R269_0 m, Cs_K270 m, Int.toNat_natCast, Int.natCast_nonneg, true_and, and_true, and_self, if_true, if_false, or_true, true_or, or_false, false_or, ne_eq, not_true_eq_false, not_false_eq_true, Nat.reduceLeDiff, Nat.reduceEqDiff, Nat.reduceLT, Nat.reduceAdd, Nat.reduceMul, Nat.reduceSub, Int.reduceLT, Int.reduceLE, Int.reduceEq, Int.reduceToNat, Int.reduceAdd, Int.reduceSub, Int.reduceMul, Int.reduceNeg, Int.cast_ofNat_Int, false_and, and_false]
  refine S_markNow (d := d + 1) x w ?_
  intro h1 f1 mk1 c1 s1 x1
  have m1 := x1.1.1
  simp only [psh_none, rX11_wipe_11, rX11_wipe_12, rX11_wipe_13, rX11_wipe_16, rX11_wipe_17, Cs_K200 m1, Cs_R200_0 m1, Cs_R200_1 m1, Cs_R200_2 m1, Cs_R200_3 m1, Cs_R200_4 m1, Cs_R200_5 m1, Cs_R200_6 m1, Cs_K201 m1, Cs_R201_0 m1, Cs_R201_1 m1, Cs_K202 m1, Cs_K203 m1, Cs_K211 m1, Cs_R211_0 m1, Cs_R211_1 m1, Cs_K212 m1, Cs_K213 m1, Cs_K214 m1, Cs_R214_0 m1, Cs_R214_1 m1, Cs_K215 m1, Cs_K216 m1, Cs_K217 m1, Cs_R217_0 m1, Cs_R217_1 m1, Cs_K218 m1, Cs_K219 m1, Cs_K220 m1, Cs_R220_0 m1, Cs_K221 m1, Cs_K262 m1, Cs_K271 m1, Cs_R271_0 m1, Cs_R271_1 m1, Cs_K272 m1, Cs_K276 m1, Cs_R272_0 m1, Cs_R276_0 m1, Cs_K273 m1, Cs_R273_0 m1, Cs_R273_1 m1, Cs_K274 m1, Cs_K275 m1, Cs_K277 m1, Cs_R277_0 m1, Cs_R277_1 m1, Cs_K278 m1, Cs_K279 m1, Cs_R262_0 m1, Cs_K263 m1, Cs_R263_0 m1, Cs_K264 m1, Cs_R262_1 m1, Cs_K265 m1, Cs_R265_0 m1, Cs_K266 m1, Cs_R262_2 m1, Cs_K267 m1, Cs_R267_0 m1, Cs_K268 m1, Cs_R262_3 m1, Cs_K269 m1, Cs_R269_0 m1, Cs_K270 m1, Int.toNat_natCast, Int.natCast_nonneg, true_and, and_true, and_self, if_true, if_false, or_true, true_or, or_false, false_or, ne_eq, not_true_eq_false, not_false_eq_true, Nat.reduceLeDiff, Nat.reduceEqDiff, Nat.reduceLT, Nat.reduceAdd, Nat.reduceMul, Nat.reduceSub, Int.reduceLT, Int.reduceLE, Int.reduceEq, Int.reduceToNat, Int.reduceAdd, Int.reduceSub, Int.reduceMul, Int.reduceNeg, Int.cast_ofNat_Int, false_and, and_false]
  refine S_actWipe (d := d + 1) c1 (Or.inl rfl) s1 w.2.1 ?_
  intro h2 f2 s2
  have fd := (f1.mono (fun a k q => rgP_d q)).trans (f2.mono (fun a k q => aPs_d q))
  have m2 := m.fr fd
  have mk2 := mk1.fr f2 (fun a k q => by unfold aPs at q; omega)
  simp only [psh_some, rX11_wipe_20, rX11_wipe_21, rX11_wipe_22]
  by_cases hy : whyW (sA σ) (stA (sA σ)) t = 0
  · simp only [if_pos hy] at k s2 ⊢
    simp only [hy, rX11_wipe_30, rX11_wipe_31, rX11_wipe_34, Cs_K200 m2, Cs_R200_0 m2, Cs_R200_1 m2, Cs_R200_2 m2, Cs_R200_3 m2, Cs_R200_4 m2, Cs_R200_5 m2, Cs_R200_6 m2, Cs_K201 m2, Cs_R201_0 m2, Cs_R201_1 m2, Cs_K202 m2, Cs_K203 m2, Cs_K211 m2, Cs_R211_0 m2, Cs_R211_1 m2, Cs_K212 m2, Cs_K213 m2, Cs_K214 m2, Cs_R214_0 m2, Cs_R214_1 m2, Cs_K215 m2, Cs_K216 m2, Cs_K217 m2, Cs_R217_0 m2, Cs_R217_1 m2, Cs_K218 m2, Cs_K219 m2, Cs_K220 m2, Cs_R220_0 m2, Cs_K221 m2, Cs_K262 m2, Cs_K271 m2, Cs_R271_0 m2, Cs_R271_1 m2, Cs_K272 m2, Cs_K276 m2, Cs_R272_0 m2, Cs_R276_0 m2, Cs_K273 m2, Cs_R273_0 m2, Cs_R273_1 m2, Cs_K274 m2, Cs_K275 m2, Cs_K277 m2, Cs_R277_0 m2, Cs_R277_1 m2, Cs_K278 m2, Cs_K279 m2, Cs_R262_0 m2, Cs_K263 m2, Cs_R263_0 m2, Cs_K264 m2, Cs_R262_1 m2, Cs_K265 m2, Cs_R265_0 m2, Cs_K266 m2, Cs_R262_2 m2, Cs_K267 m2, Cs_R267_0 m2, Cs_K268 m2, Cs_R262_3 m2, Cs_K269 m2, Cs_R269_0 m2, Cs_K270 m2, Int.toNat_natCast, Int.natCast_nonneg, true_and, and_true, and_self, if_true, if_false, or_true, true_or, or_false, false_or, ne_eq, not_true_eq_false, not_false_eq_true, Nat.reduceLeDiff, Nat.reduceEqDiff, Nat.reduceLT, Nat.reduceAdd, Nat.reduceMul, Nat.reduceSub, Int.reduceLT, Int.reduceLE, Int.reduceEq, Int.reduceToNat, Int.reduceAdd, Int.reduceSub, Int.reduceMul, Int.reduceNeg, Int.cast_ofNat_Int, false_and, and_false]
    refine S_keepNow (d := d + 1) x w fd mk2 s2 ?_
    intro h3 x3 f3 g3
    have m3 := x3.1.1
    have ok := wpB_ok (t := t.toNat) w.2.1
    have o3 := ok.2.2.1
    have o4 := ok.2.2.2.1
    have e : hI h3 214 3 = (((wpB (stA (sA σ)) t.toNat 1).toNat : Nat) : Int) := by rw [g3.I (by omega), s2.2.1, toN o3]
    simp only [psh_none, rX11_wipe_37, rX11_wipe_38, rX11_wipe_41, rX11_wipe_44, rX11_wipe_47, Cs_K200 m3, Cs_R200_0 m3, Cs_R200_1 m3, Cs_R200_2 m3, Cs_R200_3 m3, Cs_R200_4 m3, Cs_R200_5 m3, Cs_R200_6 m3, Cs_K201 m3, Cs_R201_0 m3, Cs_R201_1 m3, Cs_K202 m3, Cs_K203 m3, Cs_K211 m3, Cs_R211_0 m3, Cs_R211_1 m3, Cs_K212 m3, Cs_K213 m3, Cs_K214 m3, Cs_R214_0 m3, Cs_R214_1 m3, Cs_K215 m3, Cs_K216 m3, Cs_K217 m3, Cs_R217_0 m3, Cs_R217_1 m3, Cs_K218 m3, Cs_K219 m3, Cs_K220 m3, Cs_R220_0 m3, Cs_K221 m3, Cs_K262 m3, Cs_K271 m3, Cs_R271_0 m3, Cs_R271_1 m3, Cs_K272 m3, Cs_K276 m3, Cs_R272_0 m3, Cs_R276_0 m3, Cs_K273 m3, Cs_R273_0 m3, Cs_R273_1 m3, Cs_K274 m3, Cs_K275 m3, Cs_K277 m3, Cs_R277_0 m3, Cs_R277_1 m3, Cs_K278 m3, Cs_K279 m3, Cs_R262_0 m3, Cs_K263 m3, Cs_R263_0 m3, Cs_K264 m3, Cs_R262_1 m3, Cs_K265 m3, Cs_R265_0 m3, Cs_K266 m3, Cs_R262_2 m3, Cs_K267 m3, Cs_R267_0 m3, Cs_K268 m3, Cs_R262_3 m3, Cs_K269 m3, Cs_R269_0 m3, Cs_K270 m3, Int.toNat_natCast, Int.natCast_nonneg, true_and, and_true, and_self, if_true, if_false, or_true, true_or, or_false, false_or, ne_eq, not_true_eq_false, not_false_eq_true, Nat.reduceLeDiff, Nat.reduceEqDiff, Nat.reduceLT, Nat.reduceAdd, Nat.reduceMul, Nat.reduceSub, Int.reduceLT, Int.reduceLE, Int.reduceEq, Int.reduceToNat, Int.reduceAdd, Int.reduceSub, Int.reduceMul, Int.reduceNeg, Int.cast_ofNat_Int, false_and, and_false, e, S_bitCount (n := (wpB (stA (sA σ)) t.toNat 1).toNat) (by omega), psh_some]
    exact k h3 x3 f3
  · simp only [if_neg hy] at k s2 ⊢
    have e1 := whyW_in (sA σ) (stA (sA σ)) t
    simp only [rX11_wipe_25, rX11_wipe_27, rX11_wipe_28, rX11_wipe_29, Int.toNat_natCast, Int.natCast_nonneg, true_and, and_true, and_self, if_true, if_false, or_true, true_or, or_false, false_or, ne_eq, not_true_eq_false, not_false_eq_true, Nat.reduceLeDiff, Nat.reduceEqDiff, Nat.reduceLT, Nat.reduceAdd, Nat.reduceMul, Nat.reduceSub, Int.reduceLT, Int.reduceLE, Int.reduceEq, Int.reduceToNat, Int.reduceAdd, Int.reduceSub, Int.reduceMul, Int.reduceNeg, Int.cast_ofNat_Int, false_and, and_false, w32_i (z := -10 - whyW (sA σ) (stA (sA σ)) t) (by omega) (by omega)]
    exact k h2 (C_no x w fd s2 mk2.past) (Cfr_d fd)
theorem RS.wipe {h : Hp} {A B : Nat → Int} (x : RS h A B) (n : Nat) : RS (wI h 295 34 (without (B 1).toNat (2 ^ n) : Nat)) A (wpB B n) ∧ Fp zP h (wI h 295 34 (without (B 1).toNat (2 ^ n) : Nat)) := by
  have fz : Fp zP h (wI h 295 34 (without (B 1).toNat (2 ^ n) : Nat)) := (Fp.refl zP h).wI (by unfold zP; omega) _
  refine ⟨x.put fz (wpB_ok x.2.2.2) (fun j hj => ?_), fz⟩
  rw [hI_wI]
  unfold wpB
  by_cases j1 : j = 1
  · rw [if_pos (by omega), if_pos j1]
  · rw [if_neg (by omega), if_neg j1]; exact x.b hj
set_option maxHeartbeats 1000000 in
theorem R_wipe {d : Nat} {σ : AS} {t : Int} : RSpec (d + 3) mX12_wipe [some (.inr (.inr 294)), some (.inl t), none] σ (.inl (if whyW (sA σ) (stA (sA σ)) t = 0 then (bits (wpB (stA (sA σ)) t.toNat 1).toNat : Int) else -10 - whyW (sA σ) (stA (sA σ)) t)) (if whyW (sA σ) (stA (sA σ)) t = 0 then nS σ (wpB (stA (sA σ)) t.toNat) else σ) := by
  refine RSpec5.of ?_ (fun h Q hk => by simp only [rX12_wipe_0, rX12_wipe_1, rX12_wipe_2, hk, Int.toNat_natCast, Int.natCast_nonneg, true_and, and_true, and_self, if_true, if_false, or_true, true_or, or_false, false_or, ne_eq, not_true_eq_false, not_false_eq_true, Nat.reduceLeDiff, Nat.reduceEqDiff, Nat.reduceLT, Nat.reduceAdd, Nat.reduceMul, Nat.reduceSub, Int.reduceLT, Int.reduceLE, Int.reduceEq, Int.reduceToNat, Int.reduceAdd, Int.reduceSub, Int.reduceMul, Int.reduceNeg, Int.cast_ofNat_Int, false_and, and_false])
  intro h Q x w k
  have m := x.1
  have rs := x.rs w
  simp only [rX12_wipe_5, rX12_wipe_6, rX12_wipe_7, rX12_wipe_8, rX12_wipe_11, rX12_wipe_12, rX12_wipe_13, Md_K280 m, Md_R281 m, Md_K281 m, Md_R282 m, Md_K282 m, Md_R283 m, Md_K283 m, Md_R284 m, Md_K284 m, Md_R285 m, Md_K285 m, Md_R286 m, Md_K286 m, Md_R287 m, Md_K287 m, Md_R288 m, Md_K288 m, Md_R289 m, Md_K289 m, Md_R290 m, Md_K290 m, Md_R291 m, Md_K291 m, Md_R292 m, Md_K292 m, Md_R293 m, Md_K293 m, Md_R294 m, Md_K294 m, Md_R295 m, Md_K295 m, Md_R296 m, Md_K296 m, Md_R297 m, Md_K297 m, Md_R298 m, Md_K298 m, Md_R299 m, Md_K299 m, Int.toNat_natCast, Int.natCast_nonneg, true_and, and_true, and_self, if_true, if_false, or_true, true_or, or_false, false_or, ne_eq, not_true_eq_false, not_false_eq_true, Nat.reduceLeDiff, Nat.reduceEqDiff, Nat.reduceLT, Nat.reduceAdd, Nat.reduceMul, Nat.reduceSub, Int.reduceLT, Int.reduceLE, Int.reduceEq, Int.reduceToNat, Int.reduceAdd, Int.reduceSub, Int.reduceMul, Int.reduceNeg, Int.cast_ofNat_Int, false_and, and_false, S_whyWipe rs, psh_some]
  by_cases hy : whyW (sA σ) (stA (sA σ)) t = 0
  · simp only [if_pos hy] at k
    have q := whyW_go hy
    obtain ⟨i, rfl⟩ := Int.eq_ofNat_of_zero_le q.1
    have n6 := w.1.2.1
    have b0 := w.2.1.2.2.1
    have b6 := w.2.1.2.2.2.1
    simp only [hy, rX12_wipe_21, rX12_wipe_22, Md_K280 m, Md_R281 m, Md_K281 m, Md_R282 m, Md_K282 m, Md_R283 m, Md_K283 m, Md_R284 m, Md_K284 m, Md_R285 m, Md_K285 m, Md_R286 m, Md_K286 m, Md_R287 m, Md_K287 m, Md_R288 m, Md_K288 m, Md_R289 m, Md_K289 m, Md_R290 m, Md_K290 m, Md_R291 m, Md_K291 m, Md_R292 m, Md_K292 m, Md_R293 m, Md_K293 m, Md_R294 m, Md_K294 m, Md_R295 m, Md_K295 m, Md_R296 m, Md_K296 m, Md_R297 m, Md_K297 m, Md_R298 m, Md_K298 m, Md_R299 m, Md_K299 m, Int.toNat_natCast, Int.natCast_nonneg, true_and, and_true, and_self, if_true, if_false, or_true, true_or, or_false, false_or, ne_eq, not_true_eq_false, not_false_eq_true, Nat.reduceLeDiff, Nat.reduceEqDiff, Nat.reduceLT, Nat.reduceAdd, Nat.reduceMul, Nat.reduceSub, Int.reduceLT, Int.reduceLE, Int.reduceEq, Int.reduceToNat, Int.reduceAdd, Int.reduceSub, Int.reduceMul, Int.reduceNeg, Int.cast_ofNat_Int, false_and, and_false]
    refine S_keeps rs ?_
    intro h2 f2 e2
    have rs2 := rs.ke f2
    have m2 := rs2.1
    have e4 : hI h2 295 34 = (((stA (sA σ) 1).toNat : Nat) : Int) := by rw [rs2.b (k := 1) (by omega), toN b0]
    simp only [psh_none, rX12_wipe_25, rX12_wipe_26, rX12_wipe_29, rX12_wipe_31, rX12_wipe_32, rX12_wipe_33, rX12_wipe_34, rX12_wipe_35, rX12_wipe_36, rX12_wipe_37, rX12_wipe_38, rX12_wipe_39, rX12_wipe_40, rX12_wipe_41, hN_wI, hN_wJ, hN_wR, hS_wI, hS_wJ, hS_wR, hK_wI, hK_wJ, hK_wR, hI_wI, hI_wJ, hI_wR, hJ_wI, hJ_wJ, hJ_wR, hR_wI, hR_wJ, hR_wR, hN_nw, hS_nw, hK_nw, hI_nw, hJ_nw, hR_nw, psh_some, psh_none, Md_K280 m2, Md_R281 m2, Md_K281 m2, Md_R282 m2, Md_K282 m2, Md_R283 m2, Md_K283 m2, Md_R284 m2, Md_K284 m2, Md_R285 m2, Md_K285 m2, Md_R286 m2, Md_K286 m2, Md_R287 m2, Md_K287 m2, Md_R288 m2, Md_K288 m2, Md_R289 m2, Md_K289 m2, Md_R290 m2, Md_K290 m2, Md_R291 m2, Md_K291 m2, Md_R292 m2, Md_K292 m2, Md_R293 m2, Md_K293 m2, Md_R294 m2, Md_K294 m2, Md_R295 m2, Md_K295 m2, Md_R296 m2, Md_K296 m2, Md_R297 m2, Md_K297 m2, Md_R298 m2, Md_K298 m2, Md_R299 m2, Md_K299 m2, Int.toNat_natCast, Int.natCast_nonneg, true_and, and_true, and_self, if_true, if_false, or_true, true_or, or_false, false_or, ne_eq, not_true_eq_false, not_false_eq_true, Nat.reduceLeDiff, Nat.reduceEqDiff, Nat.reduceLT, Nat.reduceAdd, Nat.reduceMul, Nat.reduceSub, Int.reduceLT, Int.reduceLE, Int.reduceEq, Int.reduceToNat, Int.reduceAdd, Int.reduceSub, Int.reduceMul, Int.reduceNeg, Int.cast_ofNat_Int, false_and, and_false, e4, without_n (a := (stA (sA σ) 1).toNat) (t := i) (by omega) (by omega)]
    obtain ⟨rs3, f3⟩ := rs2.wipe i
    have fq := (f2.mono (P' := qP) (fun a k q => keP_q q)).trans (f3.mono (fun a k q => zP_q q))
    refine S_notesNow x w fq rs3 (fun j hj => by rw [f3.I (by unfold zP lP; omega)]; exact e2 j hj) ?_
    intro h4 x4 f4 g4
    have m4 := x4.1
    have ok := wpB_ok (t := i) w.2.1
    have o3 := ok.2.2.1
    have o4 := ok.2.2.2.1
    have e : hI h4 295 34 = (((wpB (stA (sA σ)) i 1).toNat : Nat) : Int) := by rw [g4.I (by unfold ntP; omega), rs3.b (k := 1) (by omega), toN o3]
    simp only [psh_none, rX12_wipe_44, rX12_wipe_45, rX12_wipe_48, rX12_wipe_50, rX12_wipe_51, rX12_wipe_54, Md_K280 m4, Md_R281 m4, Md_K281 m4, Md_R282 m4, Md_K282 m4, Md_R283 m4, Md_K283 m4, Md_R284 m4, Md_K284 m4, Md_R285 m4, Md_K285 m4, Md_R286 m4, Md_K286 m4, Md_R287 m4, Md_K287 m4, Md_R288 m4, Md_K288 m4, Md_R289 m4, Md_K289 m4, Md_R290 m4, Md_K290 m4, Md_R291 m4, Md_K291 m4, Md_R292 m4, Md_K292 m4, Md_R293 m4, Md_K293 m4, Md_R294 m4, Md_K294 m4, Md_R295 m4, Md_K295 m4, Md_R296 m4, Md_K296 m4, Md_R297 m4, Md_K297 m4, Md_R298 m4, Md_K298 m4, Md_R299 m4, Md_K299 m4, Int.toNat_natCast, Int.natCast_nonneg, true_and, and_true, and_self, if_true, if_false, or_true, true_or, or_false, false_or, ne_eq, not_true_eq_false, not_false_eq_true, Nat.reduceLeDiff, Nat.reduceEqDiff, Nat.reduceLT, Nat.reduceAdd, Nat.reduceMul, Nat.reduceSub, Int.reduceLT, Int.reduceLE, Int.reduceEq, Int.reduceToNat, Int.reduceAdd, Int.reduceSub, Int.reduceMul, Int.reduceNeg, Int.cast_ofNat_Int, false_and, and_false, e, S_bitsOf (n := (wpB (stA (sA σ)) i 1).toNat) (by omega), psh_some]
    exact k h4 x4 f4
  · simp only [if_neg hy] at k ⊢
    have e1 := whyW_in (sA σ) (stA (sA σ)) t
    simp only [rX12_wipe_16, rX12_wipe_18, rX12_wipe_19, rX12_wipe_20, w32_i (z := -10 - whyW (sA σ) (stA (sA σ)) t) (by omega) (by omega)]
    exact k h x (Fp.refl _ h)
