/-! calls that look alone -/
/-- what the reference may write to and leave -/
def uP (a k : Nat) : Prop := 294 ≤ a ∧ a < 314 ∧ a ≠ 295 ∧ a ≠ 296 ∧ a ≠ 297 ∧ a ≠ 311 ∧ a ≠ 312 ∧ a ≠ 313 ∧ (a = 294 → k ≠ 5 ∧ k ≠ 13 ∧ k ≠ 14)
theorem uP_r {a k : Nat} (h : uP a k) : rfP a k := ⟨h.1, h.2.1⟩
theorem RRep.u {h h' : Hp} {σ : AS} (f : Fp uP h h') (x : RRep h σ) : RRep h' σ := by
  obtain ⟨x1, x2, x3, x4, x5, x6, x7, x8, x9⟩ := x
  refine ⟨x1.fr f, fun k hk => ?_, fun i hi => ?_, ?_, fun k hk => ?_, ?_, ?_, fun i hi => ?_, fun k hk => ?_⟩
  · rw [f.I (by unfold uP; omega)]; exact x2 k hk
  · rw [f.I (by unfold uP; omega)]; exact x3 i hi
  · rw [f.I (by unfold uP; omega)]; exact x4
  · rw [f.I (by unfold uP; omega)]; exact x5 k hk
  · rw [f.I (by unfold uP; omega)]; exact x6
  · rw [f.I (by unfold uP; omega)]; exact x7
  · rw [f.I (by unfold uP; omega), f.I (by unfold uP; omega)]; exact x8 i hi
  · rw [f.J (by unfold uP; omega)]; exact x9 k hk
theorem lP_u {a k : Nat} (h : lP a k) : uP a k := by unfold lP at h; unfold uP; omega
/-- a call of the reference, behind its first three steps -/
def RSpec5 (d : Nat) (M : Me) (ls : List (Option PV)) (σ : AS) (v : PV) (σ' : AS) : Prop := ∀ (h : Hp) (Q : Option PV → Hp → Prop), RRep h σ → WF σ → (∀ h', RRep h' σ' → Fp rfP h h' → Q (some v) h') → WP d M 5 ls [] h Q
theorem RSpec5.of {d : Nat} {M : Me} {ls : List (Option PV)} {σ : AS} {v : PV} {σ' : AS} (r : RSpec5 d M ls σ v σ') (e : ∀ (h : Hp) (Q : Option PV → Hp → Prop), hK h 294 = (12, 0) → WP d M 0 ls [] h Q = WP d M 5 ls [] (wI h 294 0 0) Q) : RSpec d M ls σ v σ' := by
  intro h Q x w k
  rw [e h Q (Md_K280 x.1)]
  have f : Fp uP h (wI h 294 0 0) := (Fp.refl uP h).wI (by unfold uP; omega) 0
  exact r _ Q (x.u f) w (fun h' x' f' => k h' x' ((f.mono (fun _ _ => uP_r)).trans f'))
theorem RSpec5.u {d : Nat} {M : Me} {ls : List (Option PV)} {σ : AS} {v : PV} (r : ∀ (h : Hp) (Q : Option PV → Hp → Prop), RRep h σ → WF σ → (∀ h', Fp uP h h' → Q (some v) h') → WP d M 5 ls [] h Q) : RSpec5 d M ls σ v σ := by
  intro h Q x w k
  exact r h Q x w (fun h' f => k h' (x.u f) (f.mono (fun _ _ => uP_r)))
def this0 (a : Nat) : Option PV := some (.inr (.inr a))
def arg (z : Int) : Option PV := some (.inl z)
theorem C_fault {d : Nat} {σ : AS} {v : Int} : CSpec d mX11_fault [some (.inr (.inr 200)), some (.inl v)] σ (.inl (if v = 0 then sF σ else if v = 1 then sP σ else -1)) σ := by
  intro h Q x w k
  have k0 := k h x (Cfr.refl h)
  have m := x.1.1
  have rd := x.1.2.2.2.2.2.2.2
  simp only [rX11_fault_0, rX11_fault_1, rX11_fault_4, rX11_fault_5, rX11_fault_8, rX11_fault_11, rX11_fault_12, rX11_fault_13, rX11_fault_14, rX11_fault_17, rX11_fault_18, rX11_fault_21, rX11_fault_24, rX11_fault_27, rX11_fault_28, Cs_K200 m, Cs_R200_0 m, Cs_R200_1 m, Cs_R200_2 m, Cs_R200_3 m, Cs_R200_4 m, Cs_R200_5 m, Cs_R200_6 m, Cs_K201 m, Cs_R201_0 m, Cs_R201_1 m, Cs_K202 m, Cs_K203 m, Cs_K211 m, Cs_R211_0 m, Cs_R211_1 m, Cs_K212 m, Cs_K213 m, Cs_K214 m, Cs_R214_0 m, Cs_R214_1 m, Cs_K215 m, Cs_K216 m, Cs_K217 m, Cs_R217_0 m, Cs_R217_1 m, Cs_K218 m, Cs_K219 m, Cs_K220 m, Cs_R220_0 m, Cs_K221 m, Cs_K262 m, Cs_K271 m, Cs_R271_0 m, Cs_R271_1 m, Cs_K272 m, Cs_K276 m, Cs_R272_0 m, Cs_R276_0 m, Cs_K273 m, Cs_R273_0 m, Cs_R273_1 m, Cs_K274 m, Cs_K275 m, Cs_K277 m, Cs_R277_0 m, Cs_R277_1 m, Cs_K278 m, Cs_K279 m, Cs_R262_0 m, Cs_K263 m, Cs_R263_0 m, Cs_K264 m, Cs_R262_1 m, Cs_K265 m, Cs_R265_0 m, Cs_K266 m, Cs_R262_2 m, Cs_K267 m, Cs_R267_0 m, Cs_K268 m, Cs_R262_3 m, Cs_K269 m, Cs_R269_0 m, Cs_K270 m, Int.toNat_natCast, Int.natCast_nonneg, true_and, and_true, and_self, if_true, if_false, or_true, true_or, or_false, false_or, ne_eq, not_true_eq_false, not_false_eq_true, Nat.reduceLeDiff, Nat.reduceEqDiff, Nat.reduceLT, Nat.reduceAdd, Nat.reduceMul, Nat.reduceSub, Int.reduceLT, Int.reduceLE, Int.reduceEq, Int.reduceToNat, Int.reduceAdd, Int.reduceSub, Int.reduceMul, Int.reduceNeg, Int.cast_ofNat_Int, false_and, and_false, rd.2.2.1, rd.2.2.2]
  by_cases h1 : v = 0
  · rw [if_pos h1] at k0 ⊢; exact k0
  · rw [if_neg h1] at k0 ⊢
    by_cases h2 : v = 1
    · rw [if_pos h2] at k0 ⊢; exact k0
    · rw [if_neg h2] at k0 ⊢; exact k0
theorem R_fault {d : Nat} {σ : AS} {v : Int} : RSpec d mX12_fault [some (.inr (.inr 294)), some (.inl v)] σ (.inl (if v = 0 then sF σ else if v = 1 then sP σ else -1)) σ := by
  refine RSpec5.of (RSpec5.u ?_) (fun h Q hk => by simp only [rX12_fault_0, rX12_fault_1, rX12_fault_2, hk, Int.toNat_natCast, Int.natCast_nonneg, true_and, and_true, and_self, if_true, if_false, or_true, true_or, or_false, false_or, ne_eq, not_true_eq_false, not_false_eq_true, Nat.reduceLeDiff, Nat.reduceEqDiff, Nat.reduceLT, Nat.reduceAdd, Nat.reduceMul, Nat.reduceSub, Int.reduceLT, Int.reduceLE, Int.reduceEq, Int.reduceToNat, Int.reduceAdd, Int.reduceSub, Int.reduceMul, Int.reduceNeg, Int.cast_ofNat_Int, false_and, and_false])
  intro h Q x w k
  have k0 := k h (Fp.refl _ h)
  have m := x.1
  simp only [rX12_fault_5, rX12_fault_6, rX12_fault_9, rX12_fault_10, rX12_fault_13, rX12_fault_16, rX12_fault_17, rX12_fault_18, rX12_fault_21, rX12_fault_22, rX12_fault_25, rX12_fault_28, rX12_fault_29, Md_K280 m, Md_R281 m, Md_K281 m, Md_R282 m, Md_K282 m, Md_R283 m, Md_K283 m, Md_R284 m, Md_K284 m, Md_R285 m, Md_K285 m, Md_R286 m, Md_K286 m, Md_R287 m, Md_K287 m, Md_R288 m, Md_K288 m, Md_R289 m, Md_K289 m, Md_R290 m, Md_K290 m, Md_R291 m, Md_K291 m, Md_R292 m, Md_K292 m, Md_R293 m, Md_K293 m, Md_R294 m, Md_K294 m, Md_R295 m, Md_K295 m, Md_R296 m, Md_K296 m, Md_R297 m, Md_K297 m, Md_R298 m, Md_K298 m, Md_R299 m, Md_K299 m, Int.toNat_natCast, Int.natCast_nonneg, true_and, and_true, and_self, if_true, if_false, or_true, true_or, or_false, false_or, ne_eq, not_true_eq_false, not_false_eq_true, Nat.reduceLeDiff, Nat.reduceEqDiff, Nat.reduceLT, Nat.reduceAdd, Nat.reduceMul, Nat.reduceSub, Int.reduceLT, Int.reduceLE, Int.reduceEq, Int.reduceToNat, Int.reduceAdd, Int.reduceSub, Int.reduceMul, Int.reduceNeg, Int.cast_ofNat_Int, false_and, and_false, x.2.2.2.2.2.1, x.2.2.2.2.2.2.1]
  by_cases h1 : v = 0
  · rw [if_pos h1] at k0 ⊢; exact k0
  · rw [if_neg h1] at k0 ⊢
    by_cases h2 : v = 1
    · rw [if_pos h2] at k0 ⊢; exact k0
    · rw [if_neg h2] at k0 ⊢; exact k0
def thV (A : Nat → Int) (t wh : Int) : Int := if 0 ≤ t ∧ t < A 1 then (if wh = 0 then A (9 + t.toNat) else if wh = 1 then A (15 + t.toNat) else if wh = 2 then A (21 + t.toNat) else if wh = 3 then (if (A 34).toNat.testBit t.toNat = true then 1 else 0) else -2) else -2
theorem stA0 (A : Nat → Int) : stA A 0 = A 33 := rfl
theorem stA1 (A : Nat → Int) : stA A 1 = A 34 := rfl
theorem toN {z : Int} (h : 0 ≤ z) : ((z.toNat : Nat) : Int) = z := Int.toNat_of_nonneg h
theorem C_thing {d : Nat} {σ : AS} {t wh : Int} : CSpec (d + 1) mX11_thing [some (.inr (.inr 200)), some (.inl t), some (.inl wh)] σ (.inl (thV (sA σ) t wh)) σ := by
  intro h Q x w k
  have k0 := k h x (Cfr.refl h)
  have c := x.cp w
  have m := x.1.1
  obtain ⟨p, hp, p1, p2, p3, pk, pr0, pr1, pr2, pr5, k1, k2, k3, k6, pT, pG, pL, prw, pod⟩ := c.get
  unfold thV at k0
  simp only [rX11_thing_0, rX11_thing_1, rX11_thing_2, rX11_thing_5, rX11_thing_8, rX11_thing_10, Cs_K200 c.1, Int.toNat_natCast, Int.natCast_nonneg, true_and, and_true, and_self, if_true, if_false, or_true, true_or, or_false, false_or, ne_eq, not_true_eq_false, not_false_eq_true, Nat.reduceLeDiff, Nat.reduceEqDiff, Nat.reduceLT, Nat.reduceAdd, Nat.reduceMul, Nat.reduceSub, Int.reduceLT, Int.reduceLE, Int.reduceEq, Int.reduceToNat, Int.reduceAdd, Int.reduceSub, Int.reduceMul, Int.reduceNeg, Int.cast_ofNat_Int, false_and, and_false, S_cThing c, psh_some]
  by_cases h1 : 0 ≤ t ∧ t < sA σ 1
  · rw [if_pos h1] at k0 ⊢
    obtain ⟨n, rfl⟩ := Int.eq_ofNat_of_zero_le h1.1
    have hT := w.1.2.1
    have n6 : (n : Int) < 6 := by omega
    obtain ⟨e1, e2, e3⟩ := prw n h1.2
    rw [if_neg (by decide)]
    rw [rX11_thing_11, rX11_thing_12]
    by_cases w0 : wh = 0
    · rw [if_pos w0] at k0
      subst w0
      simp only [show tabT 12 82 0 3 [32, 42, 52, 62] 0 = 44 from rfl, rX11_thing_44, rX11_thing_45, rX11_thing_48, rX11_thing_51, rX11_thing_52, rX11_thing_53, Cs_K200 m, hp, pk, pr0, k1, Int.toNat_natCast, Int.natCast_nonneg, true_and, and_true, and_self, if_true, if_false, or_true, true_or, or_false, false_or, ne_eq, not_true_eq_false, not_false_eq_true, Nat.reduceLeDiff, Nat.reduceEqDiff, Nat.reduceLT, Nat.reduceAdd, Nat.reduceMul, Nat.reduceSub, Int.reduceLT, Int.reduceLE, Int.reduceEq, Int.reduceToNat, Int.reduceAdd, Int.reduceSub, Int.reduceMul, Int.reduceNeg, Int.cast_ofNat_Int, false_and, and_false, n6, e1]
      exact k0
    rw [if_neg w0] at k0
    by_cases w1 : wh = 1
    · rw [if_pos w1] at k0
      subst w1
      simp only [show tabT 12 82 0 3 [32, 42, 52, 62] 1 = 54 from rfl, rX11_thing_54, rX11_thing_55, rX11_thing_58, rX11_thing_61, rX11_thing_62, rX11_thing_63, Cs_K200 m, hp, pk, pr1, k2, Int.toNat_natCast, Int.natCast_nonneg, true_and, and_true, and_self, if_true, if_false, or_true, true_or, or_false, false_or, ne_eq, not_true_eq_false, not_false_eq_true, Nat.reduceLeDiff, Nat.reduceEqDiff, Nat.reduceLT, Nat.reduceAdd, Nat.reduceMul, Nat.reduceSub, Int.reduceLT, Int.reduceLE, Int.reduceEq, Int.reduceToNat, Int.reduceAdd, Int.reduceSub, Int.reduceMul, Int.reduceNeg, Int.cast_ofNat_Int, false_and, and_false, n6, e2]
      exact k0
    rw [if_neg w1] at k0
    by_cases w2 : wh = 2
    · rw [if_pos w2] at k0
      subst w2
      simp only [show tabT 12 82 0 3 [32, 42, 52, 62] 2 = 64 from rfl, rX11_thing_64, rX11_thing_65, rX11_thing_68, rX11_thing_71, rX11_thing_72, rX11_thing_73, Cs_K200 m, hp, pk, pr2, k3, Int.toNat_natCast, Int.natCast_nonneg, true_and, and_true, and_self, if_true, if_false, or_true, true_or, or_false, false_or, ne_eq, not_true_eq_false, not_false_eq_true, Nat.reduceLeDiff, Nat.reduceEqDiff, Nat.reduceLT, Nat.reduceAdd, Nat.reduceMul, Nat.reduceSub, Int.reduceLT, Int.reduceLE, Int.reduceEq, Int.reduceToNat, Int.reduceAdd, Int.reduceSub, Int.reduceMul, Int.reduceNeg, Int.cast_ofNat_Int, false_and, and_false, n6, e3]
      exact k0
    rw [if_neg w2] at k0
    by_cases w3 : wh = 3
    · rw [if_pos w3] at k0
      subst w3
      have st := x.1.2.2.2.1.2.1
      have so := w.2.1
      have s3 := so.2.2.1
      have s4 := so.2.2.2.1
      rw [stA1] at st s3 s4
      have st' : hI h 214 3 = (((sA σ 34).toNat : Nat) : Int) := by rw [st, toN s3]
      simp only [show tabT 12 82 0 3 [32, 42, 52, 62] 3 = 74 from rfl, rX11_thing_74, rX11_thing_75, rX11_thing_78, rX11_thing_81, rX11_thing_82, rX11_thing_85, rX11_thing_88, rX11_thing_89, rX11_thing_92, rX11_thing_93, Cs_K200 m, Cs_R200_0 m, Cs_R200_1 m, Cs_R200_2 m, Cs_R200_3 m, Cs_R200_4 m, Cs_R200_5 m, Cs_R200_6 m, Cs_K201 m, Cs_R201_0 m, Cs_R201_1 m, Cs_K202 m, Cs_K203 m, Cs_K211 m, Cs_R211_0 m, Cs_R211_1 m, Cs_K212 m, Cs_K213 m, Cs_K214 m, Cs_R214_0 m, Cs_R214_1 m, Cs_K215 m, Cs_K216 m, Cs_K217 m, Cs_R217_0 m, Cs_R217_1 m, Cs_K218 m, Cs_K219 m, Cs_K220 m, Cs_R220_0 m, Cs_K221 m, Cs_K262 m, Cs_K271 m, Cs_R271_0 m, Cs_R271_1 m, Cs_K272 m, Cs_K276 m, Cs_R272_0 m, Cs_R276_0 m, Cs_K273 m, Cs_R273_0 m, Cs_R273_1 m, Cs_K274 m, Cs_K275 m, Cs_K277 m, Cs_R277_0 m, Cs_R277_1 m, Cs_K278 m, Cs_K279 m, Cs_R262_0 m, Cs_K263 m, Cs_R263_0 m, Cs_K264 m, Cs_R262_1 m, Cs_K265 m, Cs_R265_0 m, Cs_K266 m, Cs_R262_2 m, Cs_K267 m, Cs_R267_0 m, Cs_K268 m, Cs_R262_3 m, Cs_K269 m, Cs_R269_0 m, Cs_K270 m, st', S_has (b := (sA σ 34).toNat) (i := n) (by omega) (by omega), Int.toNat_natCast, Int.natCast_nonneg, true_and, and_true, and_self, if_true, if_false, or_true, true_or, or_false, false_or, ne_eq, not_true_eq_false, not_false_eq_true, Nat.reduceLeDiff, Nat.reduceEqDiff, Nat.reduceLT, Nat.reduceAdd, Nat.reduceMul, Nat.reduceSub, Int.reduceLT, Int.reduceLE, Int.reduceEq, Int.reduceToNat, Int.reduceAdd, Int.reduceSub, Int.reduceMul, Int.reduceNeg, Int.cast_ofNat_Int, false_and, and_false, psh_some]
      by_cases hb : (sA σ 34).toNat.testBit n = true
      · simp only [Int.toNat_natCast, hb, if_true] at k0 ⊢; simp; exact k0
      · simp only [Int.toNat_natCast, hb, if_false] at k0 ⊢; simp; exact k0
    rw [if_neg w3] at k0
    rw [tabT_out (by omega), show tgt 12 82 = 94 from rfl]
    simp only [rX11_thing_94, rX11_thing_96]
    exact k0
  · rw [if_neg h1] at k0 ⊢
    rw [if_pos rfl]
    exact k0
theorem R_thing {d : Nat} {σ : AS} {t wh : Int} (ht : i32 t) : RSpec (d + 2) mX12_thing [some (.inr (.inr 294)), some (.inl t), some (.inl wh)] σ (.inl (thV (sA σ) t wh)) σ := by
  refine RSpec5.of (RSpec5.u ?_) (fun h Q hk => by simp only [rX12_thing_0, rX12_thing_1, rX12_thing_2, hk, Int.toNat_natCast, Int.natCast_nonneg, true_and, and_true, and_self, if_true, if_false, or_true, true_or, or_false, false_or, ne_eq, not_true_eq_false, not_false_eq_true, Nat.reduceLeDiff, Nat.reduceEqDiff, Nat.reduceLT, Nat.reduceAdd, Nat.reduceMul, Nat.reduceSub, Int.reduceLT, Int.reduceLE, Int.reduceEq, Int.reduceToNat, Int.reduceAdd, Int.reduceSub, Int.reduceMul, Int.reduceNeg, Int.cast_ofNat_Int, false_and, and_false])
  intro h Q x w k
  have k0 := k h (Fp.refl _ h)
  have m := x.1
  have a := x.2.1
  unfold thV at k0
  simp only [rX12_thing_5, rX12_thing_6, rX12_thing_7, rX12_thing_8, rX12_thing_11, rX12_thing_14, rX12_thing_16, Md_K280 m, Md_R281 m, Md_K281 m, Md_R282 m, Md_K282 m, Md_R283 m, Md_K283 m, Md_R284 m, Md_K284 m, Md_R285 m, Md_K285 m, Md_R286 m, Md_K286 m, Md_R287 m, Md_K287 m, Md_R288 m, Md_K288 m, Md_R289 m, Md_K289 m, Md_R290 m, Md_K290 m, Md_R291 m, Md_K291 m, Md_R292 m, Md_K292 m, Md_R293 m, Md_K293 m, Md_R294 m, Md_K294 m, Md_R295 m, Md_K295 m, Md_R296 m, Md_K296 m, Md_R297 m, Md_K297 m, Md_R298 m, Md_K298 m, Md_R299 m, Md_K299 m, Int.toNat_natCast, Int.natCast_nonneg, true_and, and_true, and_self, if_true, if_false, or_true, true_or, or_false, false_or, ne_eq, not_true_eq_false, not_false_eq_true, Nat.reduceLeDiff, Nat.reduceEqDiff, Nat.reduceLT, Nat.reduceAdd, Nat.reduceMul, Nat.reduceSub, Int.reduceLT, Int.reduceLE, Int.reduceEq, Int.reduceToNat, Int.reduceAdd, Int.reduceSub, Int.reduceMul, Int.reduceNeg, Int.cast_ofNat_Int, false_and, and_false, S_rThing (x.rp w), psh_some]
  by_cases h1 : 0 ≤ t ∧ t < sA σ 1
  · rw [if_pos h1] at k0 ⊢
    obtain ⟨n, rfl⟩ := Int.eq_ofNat_of_zero_le h1.1
    have hT := w.1.2.1
    have n6 : (n : Int) < 6 := by omega
    rw [if_neg (by decide)]
    rw [rX12_thing_17, rX12_thing_18]
    by_cases w0 : wh = 0
    · rw [if_pos w0] at k0
      subst w0
      simp only [show tabT 18 72 0 3 [30, 40, 50, 60] 0 = 48 from rfl, rX12_thing_48, rX12_thing_49, rX12_thing_52, rX12_thing_54, rX12_thing_55, rX12_thing_56, rX12_thing_57, Md_K280 m, Md_R281 m, Md_K281 m, Md_R282 m, Md_K282 m, Md_R283 m, Md_K283 m, Md_R284 m, Md_K284 m, Md_R285 m, Md_K285 m, Md_R286 m, Md_K286 m, Md_R287 m, Md_K287 m, Md_R288 m, Md_K288 m, Md_R289 m, Md_K289 m, Md_R290 m, Md_K290 m, Md_R291 m, Md_K291 m, Md_R292 m, Md_K292 m, Md_R293 m, Md_K293 m, Md_R294 m, Md_K294 m, Md_R295 m, Md_K295 m, Md_R296 m, Md_K296 m, Md_R297 m, Md_K297 m, Md_R298 m, Md_K298 m, Md_R299 m, Md_K299 m, Int.toNat_natCast, Int.natCast_nonneg, true_and, and_true, and_self, if_true, if_false, or_true, true_or, or_false, false_or, ne_eq, not_true_eq_false, not_false_eq_true, Nat.reduceLeDiff, Nat.reduceEqDiff, Nat.reduceLT, Nat.reduceAdd, Nat.reduceMul, Nat.reduceSub, Int.reduceLT, Int.reduceLE, Int.reduceEq, Int.reduceToNat, Int.reduceAdd, Int.reduceSub, Int.reduceMul, Int.reduceNeg, Int.cast_ofNat_Int, false_and, and_false, w32_la (l := n) 9 (9 + n) (by omega) (by omega), a (9 + n) (by omega)]
      refine ⟨by omega, ?_⟩
      exact k0
    rw [if_neg w0] at k0
    by_cases w1 : wh = 1
    · rw [if_pos w1] at k0
      subst w1
      simp only [show tabT 18 72 0 3 [30, 40, 50, 60] 1 = 58 from rfl, rX12_thing_58, rX12_thing_59, rX12_thing_62, rX12_thing_64, rX12_thing_65, rX12_thing_66, rX12_thing_67, Md_K280 m, Md_R281 m, Md_K281 m, Md_R282 m, Md_K282 m, Md_R283 m, Md_K283 m, Md_R284 m, Md_K284 m, Md_R285 m, Md_K285 m, Md_R286 m, Md_K286 m, Md_R287 m, Md_K287 m, Md_R288 m, Md_K288 m, Md_R289 m, Md_K289 m, Md_R290 m, Md_K290 m, Md_R291 m, Md_K291 m, Md_R292 m, Md_K292 m, Md_R293 m, Md_K293 m, Md_R294 m, Md_K294 m, Md_R295 m, Md_K295 m, Md_R296 m, Md_K296 m, Md_R297 m, Md_K297 m, Md_R298 m, Md_K298 m, Md_R299 m, Md_K299 m, Int.toNat_natCast, Int.natCast_nonneg, true_and, and_true, and_self, if_true, if_false, or_true, true_or, or_false, false_or, ne_eq, not_true_eq_false, not_false_eq_true, Nat.reduceLeDiff, Nat.reduceEqDiff, Nat.reduceLT, Nat.reduceAdd, Nat.reduceMul, Nat.reduceSub, Int.reduceLT, Int.reduceLE, Int.reduceEq, Int.reduceToNat, Int.reduceAdd, Int.reduceSub, Int.reduceMul, Int.reduceNeg, Int.cast_ofNat_Int, false_and, and_false, w32_la (l := n) 15 (15 + n) (by omega) (by omega), a (15 + n) (by omega)]
      refine ⟨by omega, ?_⟩
      exact k0
    rw [if_neg w1] at k0
    by_cases w2 : wh = 2
    · rw [if_pos w2] at k0
      subst w2
      simp only [show tabT 18 72 0 3 [30, 40, 50, 60] 2 = 68 from rfl, rX12_thing_68, rX12_thing_69, rX12_thing_72, rX12_thing_74, rX12_thing_75, rX12_thing_76, rX12_thing_77, Md_K280 m, Md_R281 m, Md_K281 m, Md_R282 m, Md_K282 m, Md_R283 m, Md_K283 m, Md_R284 m, Md_K284 m, Md_R285 m, Md_K285 m, Md_R286 m, Md_K286 m, Md_R287 m, Md_K287 m, Md_R288 m, Md_K288 m, Md_R289 m, Md_K289 m, Md_R290 m, Md_K290 m, Md_R291 m, Md_K291 m, Md_R292 m, Md_K292 m, Md_R293 m, Md_K293 m, Md_R294 m, Md_K294 m, Md_R295 m, Md_K295 m, Md_R296 m, Md_K296 m, Md_R297 m, Md_K297 m, Md_R298 m, Md_K298 m, Md_R299 m, Md_K299 m, Int.toNat_natCast, Int.natCast_nonneg, true_and, and_true, and_self, if_true, if_false, or_true, true_or, or_false, false_or, ne_eq, not_true_eq_false, not_false_eq_true, Nat.reduceLeDiff, Nat.reduceEqDiff, Nat.reduceLT, Nat.reduceAdd, Nat.reduceMul, Nat.reduceSub, Int.reduceLT, Int.reduceLE, Int.reduceEq, Int.reduceToNat, Int.reduceAdd, Int.reduceSub, Int.reduceMul, Int.reduceNeg, Int.cast_ofNat_Int, false_and, and_false, w32_la (l := n) 21 (21 + n) (by omega) (by omega), a (21 + n) (by omega)]
      refine ⟨by omega, ?_⟩
      exact k0
    rw [if_neg w2] at k0
    by_cases w3 : wh = 3
    · rw [if_pos w3] at k0
      subst w3
      have so := w.2.1
      have s3 := so.2.2.1
      have s4 := so.2.2.2.1
      rw [stA1] at s3 s4
      have st' : hI h 295 34 = (((sA σ 34).toNat : Nat) : Int) := by rw [a 34 (by omega), toN s3]
      simp only [show tabT 18 72 0 3 [30, 40, 50, 60] 3 = 78 from rfl, rX12_thing_78, rX12_thing_79, rX12_thing_82, rX12_thing_84, rX12_thing_85, rX12_thing_86, rX12_thing_87, rX12_thing_88, rX12_thing_89, Md_K280 m, Md_R281 m, Md_K281 m, Md_R282 m, Md_K282 m, Md_R283 m, Md_K283 m, Md_R284 m, Md_K284 m, Md_R285 m, Md_K285 m, Md_R286 m, Md_K286 m, Md_R287 m, Md_K287 m, Md_R288 m, Md_K288 m, Md_R289 m, Md_K289 m, Md_R290 m, Md_K290 m, Md_R291 m, Md_K291 m, Md_R292 m, Md_K292 m, Md_R293 m, Md_K293 m, Md_R294 m, Md_K294 m, Md_R295 m, Md_K295 m, Md_R296 m, Md_K296 m, Md_R297 m, Md_K297 m, Md_R298 m, Md_K298 m, Md_R299 m, Md_K299 m, Int.toNat_natCast, Int.natCast_nonneg, true_and, and_true, and_self, if_true, if_false, or_true, true_or, or_false, false_or, ne_eq, not_true_eq_false, not_false_eq_true, Nat.reduceLeDiff, Nat.reduceEqDiff, Nat.reduceLT, Nat.reduceAdd, Nat.reduceMul, Nat.reduceSub, Int.reduceLT, Int.reduceLE, Int.reduceEq, Int.reduceToNat, Int.reduceAdd, Int.reduceSub, Int.reduceMul, Int.reduceNeg, Int.cast_ofNat_Int, false_and, and_false, st', has_n (a := (sA σ 34).toNat) (i := n) (by omega) (by omega)]
      exact k0
    rw [if_neg w3] at k0
    rw [tabT_out (by omega), show tgt 18 72 = 90 from rfl]
    simp only [rX12_thing_90, rX12_thing_92]
    exact k0
  · rw [if_neg h1] at k0 ⊢
    rw [if_pos rfl]
    exact k0
/-- the class looks at a dive from now on -/
theorem S_lookNow {d : Nat} {Q : Option PV → Hp → Prop} {h : Hp} {σ : AS} (x : CRep h σ) (w : WF σ) {g : Nat} (hg : g < 6)
    (k : ∀ h', CRep h' σ → Fp vP h h' → hI h' 211 3 = aR (sA σ) g → hI h' 211 4 = (aT (sA σ) g : Nat) → hI h' 211 5 = aP (sA σ) g → Q none h') :
    WP (d + 3) mX0_look 0 [some (.inr (.inr 211)), some (.inr (.inr (hR h 200 7))), some (.inr (.inr 214)), some (.inl (g : Int)), some (.inl (hI h 214 2)), some (.inl (hI h 214 3)), none] [] h Q := by
  have c := x.cp w
  have st := x.1.2.2.2.1
  have L := c.lk (Or.inl rfl) st w.2.1 hg
  have e2 : hI h 214 2 = (((stA (sA σ) 0).toNat : Nat) : Int) := by rw [st.1, toN w.2.1.1]
  have e3 : hI h 214 3 = (((stA (sA σ) 1).toNat : Nat) : Int) := by rw [st.2.1, toN w.2.1.2.2.1]
  rw [e2, e3]
  refine S_look L ?_
  intro h' f a1 a2 a3
  rw [stA_br, stA_bo] at a1 a2 a3
  exact k h' (x.dv f (fun a b q => by unfold vP at q; unfold scr; omega)) f a1 a2 a3
def goV (A : Nat → Int) (g wh : Int) : Int := if 0 ≤ g ∧ g < A 2 then (if wh = 0 then A (35 + g.toNat) else if wh = 1 then A (41 + g.toNat) else if wh = 2 then A (27 + g.toNat) else if wh = 3 then aR A g.toNat else if wh = 4 then aP A g.toNat else -2) else -2
theorem Cfr_v {h h' : Hp} (f : Fp vP h h') : Cfr h h' := Cfr.of f (fun a k q => by unfold vP at q; unfold cfP; omega)
theorem C_goer {d : Nat} {σ : AS} {t wh : Int} : CSpec (d + 4) mX11_goer [some (.inr (.inr 200)), some (.inl t), some (.inl wh)] σ (.inl (goV (sA σ) t wh)) σ := by
  intro h Q x w k
  have c := x.cp w
  have m := x.1.1
  obtain ⟨p, hp, p1, p2, p3, pk, pr0, pr1, pr2, pr5, k1, k2, k3, k6, pT, pG, pL, prw, pod⟩ := c.get
  unfold goV at k
  simp only [rX11_goer_0, rX11_goer_1, rX11_goer_2, rX11_goer_5, rX11_goer_8, rX11_goer_10, Cs_K200 c.1, Int.toNat_natCast, Int.natCast_nonneg, true_and, and_true, and_self, if_true, if_false, or_true, true_or, or_false, false_or, ne_eq, not_true_eq_false, not_false_eq_true, Nat.reduceLeDiff, Nat.reduceEqDiff, Nat.reduceLT, Nat.reduceAdd, Nat.reduceMul, Nat.reduceSub, Int.reduceLT, Int.reduceLE, Int.reduceEq, Int.reduceToNat, Int.reduceAdd, Int.reduceSub, Int.reduceMul, Int.reduceNeg, Int.cast_ofNat_Int, false_and, and_false, S_cGoer c, psh_some]
  by_cases h1 : 0 ≤ t ∧ t < sA σ 2
  · rw [if_pos h1] at k ⊢
    obtain ⟨n, rfl⟩ := Int.eq_ofNat_of_zero_le h1.1
    have hT := w.1.2.2.2.1
    have n6 : (n : Int) < 6 := by omega
    have st := x.1.2.2.2.1.2.2 n (by omega)
    rw [stA_br, stA_bo] at st
    rw [if_neg (by decide), rX11_goer_11, rX11_goer_12, rX11_goer_13]
    by_cases w2 : 2 < wh
    · rw [if_pos w2]
      simp only [rX11_goer_16, rX11_goer_17, rX11_goer_20, rX11_goer_21, rX11_goer_24, rX11_goer_25, rX11_goer_28, rX11_goer_29, rX11_goer_30, rX11_goer_33, rX11_goer_36, rX11_goer_37, rX11_goer_40, rX11_goer_43, Cs_K200 m, Cs_R200_0 m, Cs_R200_1 m, Cs_R200_2 m, Cs_R200_3 m, Cs_R200_4 m, Cs_R200_5 m, Cs_R200_6 m, Cs_K201 m, Cs_R201_0 m, Cs_R201_1 m, Cs_K202 m, Cs_K203 m, Cs_K211 m, Cs_R211_0 m, Cs_R211_1 m, Cs_K212 m, Cs_K213 m, Cs_K214 m, Cs_R214_0 m, Cs_R214_1 m, Cs_K215 m, Cs_K216 m, Cs_K217 m, Cs_R217_0 m, Cs_R217_1 m, Cs_K218 m, Cs_K219 m, Cs_K220 m, Cs_R220_0 m, Cs_K221 m, Cs_K262 m, Cs_K271 m, Cs_R271_0 m, Cs_R271_1 m, Cs_K272 m, Cs_K276 m, Cs_R272_0 m, Cs_R276_0 m, Cs_K273 m, Cs_R273_0 m, Cs_R273_1 m, Cs_K274 m, Cs_K275 m, Cs_K277 m, Cs_R277_0 m, Cs_R277_1 m, Cs_K278 m, Cs_K279 m, Cs_R262_0 m, Cs_K263 m, Cs_R263_0 m, Cs_K264 m, Cs_R262_1 m, Cs_K265 m, Cs_R265_0 m, Cs_K266 m, Cs_R262_2 m, Cs_K267 m, Cs_R267_0 m, Cs_K268 m, Cs_R262_3 m, Cs_K269 m, Cs_R269_0 m, Cs_K270 m, Int.toNat_natCast, Int.natCast_nonneg, true_and, and_true, and_self, if_true, if_false, or_true, true_or, or_false, false_or, ne_eq, not_true_eq_false, not_false_eq_true, Nat.reduceLeDiff, Nat.reduceEqDiff, Nat.reduceLT, Nat.reduceAdd, Nat.reduceMul, Nat.reduceSub, Int.reduceLT, Int.reduceLE, Int.reduceEq, Int.reduceToNat, Int.reduceAdd, Int.reduceSub, Int.reduceMul, Int.reduceNeg, Int.cast_ofNat_Int, false_and, and_false]
      refine S_lookNow x w (by omega) ?_
      intro h' x' f a1 a2 a3
      have k0 := k h' x' (Cfr_v f)
      have m' := x'.1.1
      rw [if_neg (by omega), if_neg (by omega), if_neg (by omega)] at k0
      rw [psh_none, rX11_goer_46, rX11_goer_47]
      by_cases w3 : wh = 3
      · rw [if_pos w3] at k0
        subst w3
        simp only [show tabT 47 79 0 4 [33, 43, 53, 63, 71] 3 = 110 from rfl, rX11_goer_110, rX11_goer_111, rX11_goer_114, rX11_goer_117, Cs_K200 m', Cs_R200_0 m', Cs_R200_1 m', Cs_R200_2 m', Cs_R200_3 m', Cs_R200_4 m', Cs_R200_5 m', Cs_R200_6 m', Cs_K201 m', Cs_R201_0 m', Cs_R201_1 m', Cs_K202 m', Cs_K203 m', Cs_K211 m', Cs_R211_0 m', Cs_R211_1 m', Cs_K212 m', Cs_K213 m', Cs_K214 m', Cs_R214_0 m', Cs_R214_1 m', Cs_K215 m', Cs_K216 m', Cs_K217 m', Cs_R217_0 m', Cs_R217_1 m', Cs_K218 m', Cs_K219 m', Cs_K220 m', Cs_R220_0 m', Cs_K221 m', Cs_K262 m', Cs_K271 m', Cs_R271_0 m', Cs_R271_1 m', Cs_K272 m', Cs_K276 m', Cs_R272_0 m', Cs_R276_0 m', Cs_K273 m', Cs_R273_0 m', Cs_R273_1 m', Cs_K274 m', Cs_K275 m', Cs_K277 m', Cs_R277_0 m', Cs_R277_1 m', Cs_K278 m', Cs_K279 m', Cs_R262_0 m', Cs_K263 m', Cs_R263_0 m', Cs_K264 m', Cs_R262_1 m', Cs_K265 m', Cs_R265_0 m', Cs_K266 m', Cs_R262_2 m', Cs_K267 m', Cs_R267_0 m', Cs_K268 m', Cs_R262_3 m', Cs_K269 m', Cs_R269_0 m', Cs_K270 m', Int.toNat_natCast, Int.natCast_nonneg, true_and, and_true, and_self, if_true, if_false, or_true, true_or, or_false, false_or, ne_eq, not_true_eq_false, not_false_eq_true, Nat.reduceLeDiff, Nat.reduceEqDiff, Nat.reduceLT, Nat.reduceAdd, Nat.reduceMul, Nat.reduceSub, Int.reduceLT, Int.reduceLE, Int.reduceEq, Int.reduceToNat, Int.reduceAdd, Int.reduceSub, Int.reduceMul, Int.reduceNeg, Int.cast_ofNat_Int, false_and, and_false, a1]
        exact k0
      rw [if_neg w3] at k0
      by_cases w4 : wh = 4
      · rw [if_pos w4] at k0
        subst w4
        simp only [show tabT 47 79 0 4 [33, 43, 53, 63, 71] 4 = 118 from rfl, rX11_goer_118, rX11_goer_119, rX11_goer_122, rX11_goer_125, Cs_K200 m', Cs_R200_0 m', Cs_R200_1 m', Cs_R200_2 m', Cs_R200_3 m', Cs_R200_4 m', Cs_R200_5 m', Cs_R200_6 m', Cs_K201 m', Cs_R201_0 m', Cs_R201_1 m', Cs_K202 m', Cs_K203 m', Cs_K211 m', Cs_R211_0 m', Cs_R211_1 m', Cs_K212 m', Cs_K213 m', Cs_K214 m', Cs_R214_0 m', Cs_R214_1 m', Cs_K215 m', Cs_K216 m', Cs_K217 m', Cs_R217_0 m', Cs_R217_1 m', Cs_K218 m', Cs_K219 m', Cs_K220 m', Cs_R220_0 m', Cs_K221 m', Cs_K262 m', Cs_K271 m', Cs_R271_0 m', Cs_R271_1 m', Cs_K272 m', Cs_K276 m', Cs_R272_0 m', Cs_R276_0 m', Cs_K273 m', Cs_R273_0 m', Cs_R273_1 m', Cs_K274 m', Cs_K275 m', Cs_K277 m', Cs_R277_0 m', Cs_R277_1 m', Cs_K278 m', Cs_K279 m', Cs_R262_0 m', Cs_K263 m', Cs_R263_0 m', Cs_K264 m', Cs_R262_1 m', Cs_K265 m', Cs_R265_0 m', Cs_K266 m', Cs_R262_2 m', Cs_K267 m', Cs_R267_0 m', Cs_K268 m', Cs_R262_3 m', Cs_K269 m', Cs_R269_0 m', Cs_K270 m', Int.toNat_natCast, Int.natCast_nonneg, true_and, and_true, and_self, if_true, if_false, or_true, true_or, or_false, false_or, ne_eq, not_true_eq_false, not_false_eq_true, Nat.reduceLeDiff, Nat.reduceEqDiff, Nat.reduceLT, Nat.reduceAdd, Nat.reduceMul, Nat.reduceSub, Int.reduceLT, Int.reduceLE, Int.reduceEq, Int.reduceToNat, Int.reduceAdd, Int.reduceSub, Int.reduceMul, Int.reduceNeg, Int.cast_ofNat_Int, false_and, and_false, a3]
        exact k0
      rw [if_neg w4] at k0
      rw [tabT_out (by omega), show tgt 47 79 = 126 from rfl]
      simp only [rX11_goer_126, rX11_goer_128]
      exact k0
    · have k0 := k h x (Cfr.refl h)
      rw [if_neg w2]
      rw [rX11_goer_46, rX11_goer_47]
      by_cases w0 : wh = 0
      · rw [if_pos w0] at k0
        subst w0
        simp only [show tabT 47 79 0 4 [33, 43, 53, 63, 71] 0 = 80 from rfl, rX11_goer_80, rX11_goer_81, rX11_goer_84, rX11_goer_87, rX11_goer_88, rX11_goer_89, Cs_K200 m, Cs_R200_0 m, Cs_R200_1 m, Cs_R200_2 m, Cs_R200_3 m, Cs_R200_4 m, Cs_R200_5 m, Cs_R200_6 m, Cs_K201 m, Cs_R201_0 m, Cs_R201_1 m, Cs_K202 m, Cs_K203 m, Cs_K211 m, Cs_R211_0 m, Cs_R211_1 m, Cs_K212 m, Cs_K213 m, Cs_K214 m, Cs_R214_0 m, Cs_R214_1 m, Cs_K215 m, Cs_K216 m, Cs_K217 m, Cs_R217_0 m, Cs_R217_1 m, Cs_K218 m, Cs_K219 m, Cs_K220 m, Cs_R220_0 m, Cs_K221 m, Cs_K262 m, Cs_K271 m, Cs_R271_0 m, Cs_R271_1 m, Cs_K272 m, Cs_K276 m, Cs_R272_0 m, Cs_R276_0 m, Cs_K273 m, Cs_R273_0 m, Cs_R273_1 m, Cs_K274 m, Cs_K275 m, Cs_K277 m, Cs_R277_0 m, Cs_R277_1 m, Cs_K278 m, Cs_K279 m, Cs_R262_0 m, Cs_K263 m, Cs_R263_0 m, Cs_K264 m, Cs_R262_1 m, Cs_K265 m, Cs_R265_0 m, Cs_K266 m, Cs_R262_2 m, Cs_K267 m, Cs_R267_0 m, Cs_K268 m, Cs_R262_3 m, Cs_K269 m, Cs_R269_0 m, Cs_K270 m, Int.toNat_natCast, Int.natCast_nonneg, true_and, and_true, and_self, if_true, if_false, or_true, true_or, or_false, false_or, ne_eq, not_true_eq_false, not_false_eq_true, Nat.reduceLeDiff, Nat.reduceEqDiff, Nat.reduceLT, Nat.reduceAdd, Nat.reduceMul, Nat.reduceSub, Int.reduceLT, Int.reduceLE, Int.reduceEq, Int.reduceToNat, Int.reduceAdd, Int.reduceSub, Int.reduceMul, Int.reduceNeg, Int.cast_ofNat_Int, false_and, and_false, n6, st.1]
        exact k0
      rw [if_neg w0] at k0
      by_cases w1 : wh = 1
      · rw [if_pos w1] at k0
        subst w1
        simp only [show tabT 47 79 0 4 [33, 43, 53, 63, 71] 1 = 90 from rfl, rX11_goer_90, rX11_goer_91, rX11_goer_94, rX11_goer_97, rX11_goer_98, rX11_goer_99, Cs_K200 m, Cs_R200_0 m, Cs_R200_1 m, Cs_R200_2 m, Cs_R200_3 m, Cs_R200_4 m, Cs_R200_5 m, Cs_R200_6 m, Cs_K201 m, Cs_R201_0 m, Cs_R201_1 m, Cs_K202 m, Cs_K203 m, Cs_K211 m, Cs_R211_0 m, Cs_R211_1 m, Cs_K212 m, Cs_K213 m, Cs_K214 m, Cs_R214_0 m, Cs_R214_1 m, Cs_K215 m, Cs_K216 m, Cs_K217 m, Cs_R217_0 m, Cs_R217_1 m, Cs_K218 m, Cs_K219 m, Cs_K220 m, Cs_R220_0 m, Cs_K221 m, Cs_K262 m, Cs_K271 m, Cs_R271_0 m, Cs_R271_1 m, Cs_K272 m, Cs_K276 m, Cs_R272_0 m, Cs_R276_0 m, Cs_K273 m, Cs_R273_0 m, Cs_R273_1 m, Cs_K274 m, Cs_K275 m, Cs_K277 m, Cs_R277_0 m, Cs_R277_1 m, Cs_K278 m, Cs_K279 m, Cs_R262_0 m, Cs_K263 m, Cs_R263_0 m, Cs_K264 m, Cs_R262_1 m, Cs_K265 m, Cs_R265_0 m, Cs_K266 m, Cs_R262_2 m, Cs_K267 m, Cs_R267_0 m, Cs_K268 m, Cs_R262_3 m, Cs_K269 m, Cs_R269_0 m, Cs_K270 m, Int.toNat_natCast, Int.natCast_nonneg, true_and, and_true, and_self, if_true, if_false, or_true, true_or, or_false, false_or, ne_eq, not_true_eq_false, not_false_eq_true, Nat.reduceLeDiff, Nat.reduceEqDiff, Nat.reduceLT, Nat.reduceAdd, Nat.reduceMul, Nat.reduceSub, Int.reduceLT, Int.reduceLE, Int.reduceEq, Int.reduceToNat, Int.reduceAdd, Int.reduceSub, Int.reduceMul, Int.reduceNeg, Int.cast_ofNat_Int, false_and, and_false, n6, st.2]
        exact k0
      rw [if_neg w1] at k0
      by_cases w2 : wh = 2
      · rw [if_pos w2] at k0
        subst w2
        simp only [show tabT 47 79 0 4 [33, 43, 53, 63, 71] 2 = 100 from rfl, rX11_goer_100, rX11_goer_101, rX11_goer_104, rX11_goer_107, rX11_goer_108, rX11_goer_109, Cs_K200 m, hp, pk, pr5, k6, Int.toNat_natCast, Int.natCast_nonneg, true_and, and_true, and_self, if_true, if_false, or_true, true_or, or_false, false_or, ne_eq, not_true_eq_false, not_false_eq_true, Nat.reduceLeDiff, Nat.reduceEqDiff, Nat.reduceLT, Nat.reduceAdd, Nat.reduceMul, Nat.reduceSub, Int.reduceLT, Int.reduceLE, Int.reduceEq, Int.reduceToNat, Int.reduceAdd, Int.reduceSub, Int.reduceMul, Int.reduceNeg, Int.cast_ofNat_Int, false_and, and_false, n6, pod n (by omega)]
        exact k0
      rw [if_neg w2, if_neg (by omega), if_neg (by omega)] at k0
      rw [tabT_out (by omega), show tgt 47 79 = 126 from rfl]
      simp only [rX11_goer_126, rX11_goer_128]
      exact k0
  · have k0 := k h x (Cfr.refl h)
    rw [if_neg h1] at k0 ⊢
    rw [if_pos rfl]
    exact k0
theorem R_goer {d : Nat} {σ : AS} {t wh : Int} : RSpec (d + 4) mX12_goer [some (.inr (.inr 294)), some (.inl t), some (.inl wh)] σ (.inl (goV (sA σ) t wh)) σ := by
  refine RSpec5.of (RSpec5.u ?_) (fun h Q hk => by simp only [rX12_goer_0, rX12_goer_1, rX12_goer_2, hk, Int.toNat_natCast, Int.natCast_nonneg, true_and, and_true, and_self, if_true, if_false, or_true, true_or, or_false, false_or, ne_eq, not_true_eq_false, not_false_eq_true, Nat.reduceLeDiff, Nat.reduceEqDiff, Nat.reduceLT, Nat.reduceAdd, Nat.reduceMul, Nat.reduceSub, Int.reduceLT, Int.reduceLE, Int.reduceEq, Int.reduceToNat, Int.reduceAdd, Int.reduceSub, Int.reduceMul, Int.reduceNeg, Int.cast_ofNat_Int, false_and, and_false])
  intro h Q x w k
  have m := x.1
  unfold goV at k
  simp only [rX12_goer_5, rX12_goer_6, rX12_goer_7, rX12_goer_8, rX12_goer_11, rX12_goer_14, rX12_goer_16, Md_K280 m, Md_R281 m, Md_K281 m, Md_R282 m, Md_K282 m, Md_R283 m, Md_K283 m, Md_R284 m, Md_K284 m, Md_R285 m, Md_K285 m, Md_R286 m, Md_K286 m, Md_R287 m, Md_K287 m, Md_R288 m, Md_K288 m, Md_R289 m, Md_K289 m, Md_R290 m, Md_K290 m, Md_R291 m, Md_K291 m, Md_R292 m, Md_K292 m, Md_R293 m, Md_K293 m, Md_R294 m, Md_K294 m, Md_R295 m, Md_K295 m, Md_R296 m, Md_K296 m, Md_R297 m, Md_K297 m, Md_R298 m, Md_K298 m, Md_R299 m, Md_K299 m, Int.toNat_natCast, Int.natCast_nonneg, true_and, and_true, and_self, if_true, if_false, or_true, true_or, or_false, false_or, ne_eq, not_true_eq_false, not_false_eq_true, Nat.reduceLeDiff, Nat.reduceEqDiff, Nat.reduceLT, Nat.reduceAdd, Nat.reduceMul, Nat.reduceSub, Int.reduceLT, Int.reduceLE, Int.reduceEq, Int.reduceToNat, Int.reduceAdd, Int.reduceSub, Int.reduceMul, Int.reduceNeg, Int.cast_ofNat_Int, false_and, and_false, S_rGoer (x.rp w), psh_some]
  by_cases h1 : 0 ≤ t ∧ t < sA σ 2
  · rw [if_pos h1] at k ⊢
    obtain ⟨n, rfl⟩ := Int.eq_ofNat_of_zero_le h1.1
    have hT := w.1.2.2.2.1
    rw [if_neg (by decide)]
    simp only [rX12_goer_17, rX12_goer_18, rX12_goer_19, Md_K280 m, Md_R281 m, Md_K281 m, Md_R282 m, Md_K282 m, Md_R283 m, Md_K283 m, Md_R284 m, Md_K284 m, Md_R285 m, Md_K285 m, Md_R286 m, Md_K286 m, Md_R287 m, Md_K287 m, Md_R288 m, Md_K288 m, Md_R289 m, Md_K289 m, Md_R290 m, Md_K290 m, Md_R291 m, Md_K291 m, Md_R292 m, Md_K292 m, Md_R293 m, Md_K293 m, Md_R294 m, Md_K294 m, Md_R295 m, Md_K295 m, Md_R296 m, Md_K296 m, Md_R297 m, Md_K297 m, Md_R298 m, Md_K298 m, Md_R299 m, Md_K299 m, Int.toNat_natCast, Int.natCast_nonneg, true_and, and_true, and_self, if_true, if_false, or_true, true_or, or_false, false_or, ne_eq, not_true_eq_false, not_false_eq_true, Nat.reduceLeDiff, Nat.reduceEqDiff, Nat.reduceLT, Nat.reduceAdd, Nat.reduceMul, Nat.reduceSub, Int.reduceLT, Int.reduceLE, Int.reduceEq, Int.reduceToNat, Int.reduceAdd, Int.reduceSub, Int.reduceMul, Int.reduceNeg, Int.cast_ofNat_Int, false_and, and_false]
    refine S_laysNow (x.rp w) w.2.1 (by omega) ?_
    intro h' f a1 a2 a3
    have fu := f.mono (fun _ _ => lP_u)
    have x' := x.u fu
    have m' := x'.1
    have a := x'.2.1
    have k0 := k h' fu
    rw [psh_none, rX12_goer_22, rX12_goer_23]
    by_cases w0 : wh = 0
    · rw [if_pos w0] at k0
      subst w0
      simp only [show tabT 23 73 0 4 [33, 43, 53, 63, 68] 0 = 56 from rfl, rX12_goer_56, rX12_goer_57, rX12_goer_60, rX12_goer_62, rX12_goer_63, rX12_goer_64, rX12_goer_65, Md_K280 m', Md_R281 m', Md_K281 m', Md_R282 m', Md_K282 m', Md_R283 m', Md_K283 m', Md_R284 m', Md_K284 m', Md_R285 m', Md_K285 m', Md_R286 m', Md_K286 m', Md_R287 m', Md_K287 m', Md_R288 m', Md_K288 m', Md_R289 m', Md_K289 m', Md_R290 m', Md_K290 m', Md_R291 m', Md_K291 m', Md_R292 m', Md_K292 m', Md_R293 m', Md_K293 m', Md_R294 m', Md_K294 m', Md_R295 m', Md_K295 m', Md_R296 m', Md_K296 m', Md_R297 m', Md_K297 m', Md_R298 m', Md_K298 m', Md_R299 m', Md_K299 m', Int.toNat_natCast, Int.natCast_nonneg, true_and, and_true, and_self, if_true, if_false, or_true, true_or, or_false, false_or, ne_eq, not_true_eq_false, not_false_eq_true, Nat.reduceLeDiff, Nat.reduceEqDiff, Nat.reduceLT, Nat.reduceAdd, Nat.reduceMul, Nat.reduceSub, Int.reduceLT, Int.reduceLE, Int.reduceEq, Int.reduceToNat, Int.reduceAdd, Int.reduceSub, Int.reduceMul, Int.reduceNeg, Int.cast_ofNat_Int, false_and, and_false, w32_la (l := n) 35 (35 + n) (by omega) (by omega), a (35 + n) (by omega)]
      refine ⟨by omega, ?_⟩
      exact k0
    rw [if_neg w0] at k0
    by_cases w1 : wh = 1
    · rw [if_pos w1] at k0
      subst w1
      simp only [show tabT 23 73 0 4 [33, 43, 53, 63, 68] 1 = 66 from rfl, rX12_goer_66, rX12_goer_67, rX12_goer_70, rX12_goer_72, rX12_goer_73, rX12_goer_74, rX12_goer_75, Md_K280 m', Md_R281 m', Md_K281 m', Md_R282 m', Md_K282 m', Md_R283 m', Md_K283 m', Md_R284 m', Md_K284 m', Md_R285 m', Md_K285 m', Md_R286 m', Md_K286 m', Md_R287 m', Md_K287 m', Md_R288 m', Md_K288 m', Md_R289 m', Md_K289 m', Md_R290 m', Md_K290 m', Md_R291 m', Md_K291 m', Md_R292 m', Md_K292 m', Md_R293 m', Md_K293 m', Md_R294 m', Md_K294 m', Md_R295 m', Md_K295 m', Md_R296 m', Md_K296 m', Md_R297 m', Md_K297 m', Md_R298 m', Md_K298 m', Md_R299 m', Md_K299 m', Int.toNat_natCast, Int.natCast_nonneg, true_and, and_true, and_self, if_true, if_false, or_true, true_or, or_false, false_or, ne_eq, not_true_eq_false, not_false_eq_true, Nat.reduceLeDiff, Nat.reduceEqDiff, Nat.reduceLT, Nat.reduceAdd, Nat.reduceMul, Nat.reduceSub, Int.reduceLT, Int.reduceLE, Int.reduceEq, Int.reduceToNat, Int.reduceAdd, Int.reduceSub, Int.reduceMul, Int.reduceNeg, Int.cast_ofNat_Int, false_and, and_false, w32_la (l := n) 41 (41 + n) (by omega) (by omega), a (41 + n) (by omega)]
      refine ⟨by omega, ?_⟩
      exact k0
    rw [if_neg w1] at k0
    by_cases w2 : wh = 2
    · rw [if_pos w2] at k0
      subst w2
      simp only [show tabT 23 73 0 4 [33, 43, 53, 63, 68] 2 = 76 from rfl, rX12_goer_76, rX12_goer_77, rX12_goer_80, rX12_goer_82, rX12_goer_83, rX12_goer_84, rX12_goer_85, Md_K280 m', Md_R281 m', Md_K281 m', Md_R282 m', Md_K282 m', Md_R283 m', Md_K283 m', Md_R284 m', Md_K284 m', Md_R285 m', Md_K285 m', Md_R286 m', Md_K286 m', Md_R287 m', Md_K287 m', Md_R288 m', Md_K288 m', Md_R289 m', Md_K289 m', Md_R290 m', Md_K290 m', Md_R291 m', Md_K291 m', Md_R292 m', Md_K292 m', Md_R293 m', Md_K293 m', Md_R294 m', Md_K294 m', Md_R295 m', Md_K295 m', Md_R296 m', Md_K296 m', Md_R297 m', Md_K297 m', Md_R298 m', Md_K298 m', Md_R299 m', Md_K299 m', Int.toNat_natCast, Int.natCast_nonneg, true_and, and_true, and_self, if_true, if_false, or_true, true_or, or_false, false_or, ne_eq, not_true_eq_false, not_false_eq_true, Nat.reduceLeDiff, Nat.reduceEqDiff, Nat.reduceLT, Nat.reduceAdd, Nat.reduceMul, Nat.reduceSub, Int.reduceLT, Int.reduceLE, Int.reduceEq, Int.reduceToNat, Int.reduceAdd, Int.reduceSub, Int.reduceMul, Int.reduceNeg, Int.cast_ofNat_Int, false_and, and_false, w32_la (l := n) 27 (27 + n) (by omega) (by omega), a (27 + n) (by omega)]
      refine ⟨by omega, ?_⟩
      exact k0
    rw [if_neg w2] at k0
    by_cases w3 : wh = 3
    · rw [if_pos w3] at k0
      subst w3
      simp only [show tabT 23 73 0 4 [33, 43, 53, 63, 68] 3 = 86 from rfl, rX12_goer_86, rX12_goer_87, rX12_goer_90, Md_K280 m', Md_R281 m', Md_K281 m', Md_R282 m', Md_K282 m', Md_R283 m', Md_K283 m', Md_R284 m', Md_K284 m', Md_R285 m', Md_K285 m', Md_R286 m', Md_K286 m', Md_R287 m', Md_K287 m', Md_R288 m', Md_K288 m', Md_R289 m', Md_K289 m', Md_R290 m', Md_K290 m', Md_R291 m', Md_K291 m', Md_R292 m', Md_K292 m', Md_R293 m', Md_K293 m', Md_R294 m', Md_K294 m', Md_R295 m', Md_K295 m', Md_R296 m', Md_K296 m', Md_R297 m', Md_K297 m', Md_R298 m', Md_K298 m', Md_R299 m', Md_K299 m', Int.toNat_natCast, Int.natCast_nonneg, true_and, and_true, and_self, if_true, if_false, or_true, true_or, or_false, false_or, ne_eq, not_true_eq_false, not_false_eq_true, Nat.reduceLeDiff, Nat.reduceEqDiff, Nat.reduceLT, Nat.reduceAdd, Nat.reduceMul, Nat.reduceSub, Int.reduceLT, Int.reduceLE, Int.reduceEq, Int.reduceToNat, Int.reduceAdd, Int.reduceSub, Int.reduceMul, Int.reduceNeg, Int.cast_ofNat_Int, false_and, and_false, a1]
      exact k0
    rw [if_neg w3] at k0
    by_cases w4 : wh = 4
    · rw [if_pos w4] at k0
      subst w4
      simp only [show tabT 23 73 0 4 [33, 43, 53, 63, 68] 4 = 91 from rfl, rX12_goer_91, rX12_goer_92, rX12_goer_95, Md_K280 m', Md_R281 m', Md_K281 m', Md_R282 m', Md_K282 m', Md_R283 m', Md_K283 m', Md_R284 m', Md_K284 m', Md_R285 m', Md_K285 m', Md_R286 m', Md_K286 m', Md_R287 m', Md_K287 m', Md_R288 m', Md_K288 m', Md_R289 m', Md_K289 m', Md_R290 m', Md_K290 m', Md_R291 m', Md_K291 m', Md_R292 m', Md_K292 m', Md_R293 m', Md_K293 m', Md_R294 m', Md_K294 m', Md_R295 m', Md_K295 m', Md_R296 m', Md_K296 m', Md_R297 m', Md_K297 m', Md_R298 m', Md_K298 m', Md_R299 m', Md_K299 m', Int.toNat_natCast, Int.natCast_nonneg, true_and, and_true, and_self, if_true, if_false, or_true, true_or, or_false, false_or, ne_eq, not_true_eq_false, not_false_eq_true, Nat.reduceLeDiff, Nat.reduceEqDiff, Nat.reduceLT, Nat.reduceAdd, Nat.reduceMul, Nat.reduceSub, Int.reduceLT, Int.reduceLE, Int.reduceEq, Int.reduceToNat, Int.reduceAdd, Int.reduceSub, Int.reduceMul, Int.reduceNeg, Int.cast_ofNat_Int, false_and, and_false, a3]
      exact k0
    rw [if_neg w4] at k0
    rw [tabT_out (by omega), show tgt 23 73 = 96 from rfl]
    simp only [rX12_goer_96, rX12_goer_98]
    exact k0
  · have k0 := k h (Fp.refl _ h)
    rw [if_neg h1] at k0 ⊢
    rw [if_pos rfl]
    exact k0
def shV (A : Nat → Int) (g : Int) : Int := if 0 ≤ g ∧ g < A 2 then (aT A g.toNat : Int) else -2
theorem C_shows {d : Nat} {σ : AS} {t : Int} : CSpec (d + 4) mX11_shows [some (.inr (.inr 200)), some (.inl t)] σ (.inl (shV (sA σ) t)) σ := by
  intro h Q x w k
  have c := x.cp w
  have m := x.1.1
  unfold shV at k
  simp only [rX11_shows_0, rX11_shows_1, rX11_shows_2, rX11_shows_5, rX11_shows_8, rX11_shows_10, Cs_K200 c.1, Int.toNat_natCast, Int.natCast_nonneg, true_and, and_true, and_self, if_true, if_false, or_true, true_or, or_false, false_or, ne_eq, not_true_eq_false, not_false_eq_true, Nat.reduceLeDiff, Nat.reduceEqDiff, Nat.reduceLT, Nat.reduceAdd, Nat.reduceMul, Nat.reduceSub, Int.reduceLT, Int.reduceLE, Int.reduceEq, Int.reduceToNat, Int.reduceAdd, Int.reduceSub, Int.reduceMul, Int.reduceNeg, Int.cast_ofNat_Int, false_and, and_false, S_cGoer c, psh_some]
  by_cases h1 : 0 ≤ t ∧ t < sA σ 2
  · rw [if_pos h1] at k ⊢
    obtain ⟨n, rfl⟩ := Int.eq_ofNat_of_zero_le h1.1
    have hT := w.1.2.2.2.1
    rw [if_neg (by decide)]
    simp only [rX11_shows_11, rX11_shows_12, rX11_shows_15, rX11_shows_16, rX11_shows_19, rX11_shows_20, rX11_shows_23, rX11_shows_24, rX11_shows_25, rX11_shows_28, rX11_shows_31, rX11_shows_32, rX11_shows_35, rX11_shows_38, Cs_K200 m, Cs_R200_0 m, Cs_R200_1 m, Cs_R200_2 m, Cs_R200_3 m, Cs_R200_4 m, Cs_R200_5 m, Cs_R200_6 m, Cs_K201 m, Cs_R201_0 m, Cs_R201_1 m, Cs_K202 m, Cs_K203 m, Cs_K211 m, Cs_R211_0 m, Cs_R211_1 m, Cs_K212 m, Cs_K213 m, Cs_K214 m, Cs_R214_0 m, Cs_R214_1 m, Cs_K215 m, Cs_K216 m, Cs_K217 m, Cs_R217_0 m, Cs_R217_1 m, Cs_K218 m, Cs_K219 m, Cs_K220 m, Cs_R220_0 m, Cs_K221 m, Cs_K262 m, Cs_K271 m, Cs_R271_0 m, Cs_R271_1 m, Cs_K272 m, Cs_K276 m, Cs_R272_0 m, Cs_R276_0 m, Cs_K273 m, Cs_R273_0 m, Cs_R273_1 m, Cs_K274 m, Cs_K275 m, Cs_K277 m, Cs_R277_0 m, Cs_R277_1 m, Cs_K278 m, Cs_K279 m, Cs_R262_0 m, Cs_K263 m, Cs_R263_0 m, Cs_K264 m, Cs_R262_1 m, Cs_K265 m, Cs_R265_0 m, Cs_K266 m, Cs_R262_2 m, Cs_K267 m, Cs_R267_0 m, Cs_K268 m, Cs_R262_3 m, Cs_K269 m, Cs_R269_0 m, Cs_K270 m, Int.toNat_natCast, Int.natCast_nonneg, true_and, and_true, and_self, if_true, if_false, or_true, true_or, or_false, false_or, ne_eq, not_true_eq_false, not_false_eq_true, Nat.reduceLeDiff, Nat.reduceEqDiff, Nat.reduceLT, Nat.reduceAdd, Nat.reduceMul, Nat.reduceSub, Int.reduceLT, Int.reduceLE, Int.reduceEq, Int.reduceToNat, Int.reduceAdd, Int.reduceSub, Int.reduceMul, Int.reduceNeg, Int.cast_ofNat_Int, false_and, and_false]
    refine S_lookNow x w (by omega) ?_
    intro h' x' f a1 a2 a3
    have k0 := k h' x' (Cfr_v f)
    have m' := x'.1.1
    simp only [psh_none, rX11_shows_41, rX11_shows_42, rX11_shows_45, rX11_shows_48, Cs_K200 m', Cs_R200_0 m', Cs_R200_1 m', Cs_R200_2 m', Cs_R200_3 m', Cs_R200_4 m', Cs_R200_5 m', Cs_R200_6 m', Cs_K201 m', Cs_R201_0 m', Cs_R201_1 m', Cs_K202 m', Cs_K203 m', Cs_K211 m', Cs_R211_0 m', Cs_R211_1 m', Cs_K212 m', Cs_K213 m', Cs_K214 m', Cs_R214_0 m', Cs_R214_1 m', Cs_K215 m', Cs_K216 m', Cs_K217 m', Cs_R217_0 m', Cs_R217_1 m', Cs_K218 m', Cs_K219 m', Cs_K220 m', Cs_R220_0 m', Cs_K221 m', Cs_K262 m', Cs_K271 m', Cs_R271_0 m', Cs_R271_1 m', Cs_K272 m', Cs_K276 m', Cs_R272_0 m', Cs_R276_0 m', Cs_K273 m', Cs_R273_0 m', Cs_R273_1 m', Cs_K274 m', Cs_K275 m', Cs_K277 m', Cs_R277_0 m', Cs_R277_1 m', Cs_K278 m', Cs_K279 m', Cs_R262_0 m', Cs_K263 m', Cs_R263_0 m', Cs_K264 m', Cs_R262_1 m', Cs_K265 m', Cs_R265_0 m', Cs_K266 m', Cs_R262_2 m', Cs_K267 m', Cs_R267_0 m', Cs_K268 m', Cs_R262_3 m', Cs_K269 m', Cs_R269_0 m', Cs_K270 m', Int.toNat_natCast, Int.natCast_nonneg, true_and, and_true, and_self, if_true, if_false, or_true, true_or, or_false, false_or, ne_eq, not_true_eq_false, not_false_eq_true, Nat.reduceLeDiff, Nat.reduceEqDiff, Nat.reduceLT, Nat.reduceAdd, Nat.reduceMul, Nat.reduceSub, Int.reduceLT, Int.reduceLE, Int.reduceEq, Int.reduceToNat, Int.reduceAdd, Int.reduceSub, Int.reduceMul, Int.reduceNeg, Int.cast_ofNat_Int, false_and, and_false, a2]
    exact k0
  · have k0 := k h x (Cfr.refl h)
    rw [if_neg h1] at k0 ⊢
    rw [if_pos rfl]
    exact k0
theorem R_shows {d : Nat} {σ : AS} {t : Int} : RSpec (d + 4) mX12_shows [some (.inr (.inr 294)), some (.inl t)] σ (.inl (shV (sA σ) t)) σ := by
  refine RSpec5.of (RSpec5.u ?_) (fun h Q hk => by simp only [rX12_shows_0, rX12_shows_1, rX12_shows_2, hk, Int.toNat_natCast, Int.natCast_nonneg, true_and, and_true, and_self, if_true, if_false, or_true, true_or, or_false, false_or, ne_eq, not_true_eq_false, not_false_eq_true, Nat.reduceLeDiff, Nat.reduceEqDiff, Nat.reduceLT, Nat.reduceAdd, Nat.reduceMul, Nat.reduceSub, Int.reduceLT, Int.reduceLE, Int.reduceEq, Int.reduceToNat, Int.reduceAdd, Int.reduceSub, Int.reduceMul, Int.reduceNeg, Int.cast_ofNat_Int, false_and, and_false])
  intro h Q x w k
  have m := x.1
  unfold shV at k
  simp only [rX12_shows_5, rX12_shows_6, rX12_shows_7, rX12_shows_8, rX12_shows_11, rX12_shows_14, rX12_shows_16, Md_K280 m, Md_R281 m, Md_K281 m, Md_R282 m, Md_K282 m, Md_R283 m, Md_K283 m, Md_R284 m, Md_K284 m, Md_R285 m, Md_K285 m, Md_R286 m, Md_K286 m, Md_R287 m, Md_K287 m, Md_R288 m, Md_K288 m, Md_R289 m, Md_K289 m, Md_R290 m, Md_K290 m, Md_R291 m, Md_K291 m, Md_R292 m, Md_K292 m, Md_R293 m, Md_K293 m, Md_R294 m, Md_K294 m, Md_R295 m, Md_K295 m, Md_R296 m, Md_K296 m, Md_R297 m, Md_K297 m, Md_R298 m, Md_K298 m, Md_R299 m, Md_K299 m, Int.toNat_natCast, Int.natCast_nonneg, true_and, and_true, and_self, if_true, if_false, or_true, true_or, or_false, false_or, ne_eq, not_true_eq_false, not_false_eq_true, Nat.reduceLeDiff, Nat.reduceEqDiff, Nat.reduceLT, Nat.reduceAdd, Nat.reduceMul, Nat.reduceSub, Int.reduceLT, Int.reduceLE, Int.reduceEq, Int.reduceToNat, Int.reduceAdd, Int.reduceSub, Int.reduceMul, Int.reduceNeg, Int.cast_ofNat_Int, false_and, and_false, S_rGoer (x.rp w), psh_some]
  by_cases h1 : 0 ≤ t ∧ t < sA σ 2
  · rw [if_pos h1] at k ⊢
    obtain ⟨n, rfl⟩ := Int.eq_ofNat_of_zero_le h1.1
    have hT := w.1.2.2.2.1
    rw [if_neg (by decide)]
    simp only [rX12_shows_17, rX12_shows_18, rX12_shows_19, Md_K280 m, Md_R281 m, Md_K281 m, Md_R282 m, Md_K282 m, Md_R283 m, Md_K283 m, Md_R284 m, Md_K284 m, Md_R285 m, Md_K285 m, Md_R286 m, Md_K286 m, Md_R287 m, Md_K287 m, Md_R288 m, Md_K288 m, Md_R289 m, Md_K289 m, Md_R290 m, Md_K290 m, Md_R291 m, Md_K291 m, Md_R292 m, Md_K292 m, Md_R293 m, Md_K293 m, Md_R294 m, Md_K294 m, Md_R295 m, Md_K295 m, Md_R296 m, Md_K296 m, Md_R297 m, Md_K297 m, Md_R298 m, Md_K298 m, Md_R299 m, Md_K299 m, Int.toNat_natCast, Int.natCast_nonneg, true_and, and_true, and_self, if_true, if_false, or_true, true_or, or_false, false_or, ne_eq, not_true_eq_false, not_false_eq_true, Nat.reduceLeDiff, Nat.reduceEqDiff, Nat.reduceLT, Nat.reduceAdd, Nat.reduceMul, Nat.reduceSub, Int.reduceLT, Int.reduceLE, Int.reduceEq, Int.reduceToNat, Int.reduceAdd, Int.reduceSub, Int.reduceMul, Int.reduceNeg, Int.cast_ofNat_Int, false_and, and_false]
    refine S_laysNow (x.rp w) w.2.1 (by omega) ?_
    intro h' f a1 a2 a3
    have fu := f.mono (fun _ _ => lP_u)
    have m' := (x.u fu).1
    simp only [psh_none, rX12_shows_22, rX12_shows_23, rX12_shows_26, Md_K280 m', Md_R281 m', Md_K281 m', Md_R282 m', Md_K282 m', Md_R283 m', Md_K283 m', Md_R284 m', Md_K284 m', Md_R285 m', Md_K285 m', Md_R286 m', Md_K286 m', Md_R287 m', Md_K287 m', Md_R288 m', Md_K288 m', Md_R289 m', Md_K289 m', Md_R290 m', Md_K290 m', Md_R291 m', Md_K291 m', Md_R292 m', Md_K292 m', Md_R293 m', Md_K293 m', Md_R294 m', Md_K294 m', Md_R295 m', Md_K295 m', Md_R296 m', Md_K296 m', Md_R297 m', Md_K297 m', Md_R298 m', Md_K298 m', Md_R299 m', Md_K299 m', Int.toNat_natCast, Int.natCast_nonneg, true_and, and_true, and_self, if_true, if_false, or_true, true_or, or_false, false_or, ne_eq, not_true_eq_false, not_false_eq_true, Nat.reduceLeDiff, Nat.reduceEqDiff, Nat.reduceLT, Nat.reduceAdd, Nat.reduceMul, Nat.reduceSub, Int.reduceLT, Int.reduceLE, Int.reduceEq, Int.reduceToNat, Int.reduceAdd, Int.reduceSub, Int.reduceMul, Int.reduceNeg, Int.cast_ofNat_Int, false_and, and_false, a2]
    exact k h' fu
  · have k0 := k h (Fp.refl _ h)
    rw [if_neg h1] at k0 ⊢
    rw [if_pos rfl]
    exact k0
