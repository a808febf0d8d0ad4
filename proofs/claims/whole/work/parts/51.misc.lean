/-! the tape, images, counts -/
theorem w8_bv (z : Int) : w8 z = ((BitVec.ofInt 32 z).setWidth 8).toInt := by
  unfold w8
  show (((BitVec.ofInt 32 z).signExtend 8).signExtend 32).toInt = _
  rw [BitVec.toInt_signExtend_of_le (by decide)]
  rw [BitVec.signExtend_eq_setWidth_of_le _ (by decide)]
theorem iand_bv (a b : Int) : BitVec.ofInt 32 (iand a b) = BitVec.ofInt 32 a &&& BitVec.ofInt 32 b := by
  unfold iand
  show BitVec.ofInt 32 (BitVec.ofInt 32 a &&& BitVec.ofInt 32 b).toInt = _
  rw [BitVec.ofInt_toInt]
theorem w8_and (z : Int) : w8 (iand z 255) = w8 z := by
  rw [w8_bv, w8_bv, iand_bv]
  congr 1
  apply BitVec.eq_of_getLsbD_eq
  intro i hi
  have : (BitVec.ofInt 32 255).getLsbD i = true := by
    have : ∀ i : Nat, i < 8 → (BitVec.ofInt 32 255).getLsbD i = true := by decide
    exact this i hi
  rw [BitVec.getLsbD_setWidth, BitVec.getLsbD_setWidth, BitVec.getLsbD_and, this, Bool.and_true]
theorem w8_w8 (z : Int) : w8 (w8 z) = w8 z := by
  rw [w8_bv, w8_bv z]
  have h : ∀ x : BitVec 8, (BitVec.setWidth 8 (BitVec.ofInt 32 x.toInt)).toInt = x.toInt := by decide +kernel
  exact h _
theorem iand255 (z : Int) : 0 ≤ iand z 255 ∧ iand z 255 ≤ 255 := by
  unfold iand
  show 0 ≤ (BitVec.ofInt 32 z &&& BitVec.ofInt 32 255).toInt ∧ (BitVec.ofInt 32 z &&& BitVec.ofInt 32 255).toInt ≤ 255
  have h1 : (BitVec.ofInt 32 z &&& BitVec.ofInt 32 255).toNat ≤ 255 := by
    rw [BitVec.toNat_and]
    exact Nat.and_le_right
  rw [BitVec.toInt_eq_toNat_of_lt (by omega)]
  omega
def wNT (σ : AS) (N : Nat) (T : Nat → Int) : AS := (σ.1, σ.2.1, N, T, σ.2.2.2.2)
def fdV (a b c e f : Int) (j : Nat) : Int := if j < 4 then a else if j < 8 then b else if j < 12 then c else if j < 16 then e else f
def fdT (σ : AS) (a b c e f : Int) : Nat → Int := fun k => if sN σ ≤ k ∧ k < sN σ + 20 then iand (ishr (fdV a b c e f (k - sN σ)) (24 - 8 * ((k - sN σ) % 4 : Nat) : Int)) 255 else sT σ k
theorem WF.fd {σ : AS} (w : WF σ) {a b c e f : Int} (h : sN σ + 20 ≤ 900) : WF (wNT σ (sN σ + 20) (fdT σ a b c e f)) := by
  refine ⟨w.1, w.2.1, w.2.2.1, w.2.2.2.1, w.2.2.2.2.1, w.2.2.2.2.2.1, h, fun k hk => ?_, w.2.2.2.2.2.2.2.2⟩
  show 0 ≤ fdT σ a b c e f k ∧ fdT σ a b c e f k ≤ 255
  have hk' : k < sN σ + 20 := hk
  unfold fdT
  split
  · exact iand255 _
  · exact w.2.2.2.2.2.2.2.1 k (by omega)
def adP (n a k : Nat) : Prop := (a = 202 ∧ n ≤ k ∧ k < n + 4) ∨ (a = 201 ∧ k = 3)
theorem add_step {d : Nat} {Q : Option PV → Hp → Prop} {h : Hp} {v s : Int} {n : Nat} (m : CsOk h) (e : hI h 201 3 = (n : Int)) (hn : n < 900) (hs : 0 ≤ s) : WP d mX6_add 3 [some (.inr (.inr 201)), some (.inl v), some (.inl s)] [] h Q = WP d mX6_add 3 [some (.inr (.inr 201)), some (.inl v), some (.inl (w32 (s + -8)))] [] (wI (wI h 202 n (w8 (ishr v s))) 201 3 ((n + 1 : Nat) : Int)) Q := by
  have l0 : (n : Int) < 900 := by omega
  have l1 : ¬ (s < 0) := by omega
  have s0 : w32 ((n : Int) + 1) = ((n + 1 : Nat) : Int) := w32_s (by omega)
  rw [rX6_add_3]
  simp only [rX6_add_4, rX6_add_7, rX6_add_8, rX6_add_11, rX6_add_14, rX6_add_17, rX6_add_18, rX6_add_21, rX6_add_22, rX6_add_25, rX6_add_26, rX6_add_27, rX6_add_28, rX6_add_29, rX6_add_30, rX6_add_31, rX6_add_32, rX6_add_35, rX6_add_36, rX6_add_37, rX6_add_40, rX6_add_43, hN_wI, hN_wJ, hN_wR, hS_wI, hS_wJ, hS_wR, hK_wI, hK_wJ, hK_wR, hI_wI, hI_wJ, hI_wR, hJ_wI, hJ_wJ, hJ_wR, hR_wI, hR_wJ, hR_wR, hN_nw, hS_nw, hK_nw, hI_nw, hJ_nw, hR_nw, psh_some, psh_none, Cs_K200 m, Cs_R200_0 m, Cs_R200_1 m, Cs_R200_2 m, Cs_R200_3 m, Cs_R200_4 m, Cs_R200_5 m, Cs_R200_6 m, Cs_K201 m, Cs_R201_0 m, Cs_R201_1 m, Cs_K202 m, Cs_K203 m, Cs_K211 m, Cs_R211_0 m, Cs_R211_1 m, Cs_K212 m, Cs_K213 m, Cs_K214 m, Cs_R214_0 m, Cs_R214_1 m, Cs_K215 m, Cs_K216 m, Cs_K217 m, Cs_R217_0 m, Cs_R217_1 m, Cs_K218 m, Cs_K219 m, Cs_K220 m, Cs_R220_0 m, Cs_K221 m, Cs_K262 m, Cs_K271 m, Cs_R271_0 m, Cs_R271_1 m, Cs_K272 m, Cs_K276 m, Cs_R272_0 m, Cs_R276_0 m, Cs_K273 m, Cs_R273_0 m, Cs_R273_1 m, Cs_K274 m, Cs_K275 m, Cs_K277 m, Cs_R277_0 m, Cs_R277_1 m, Cs_K278 m, Cs_K279 m, Cs_R262_0 m, Cs_K263 m, Cs_R263_0 m, Cs_K264 m, Cs_R262_1 m, Cs_K265 m, Cs_R265_0 m, Cs_K266 m, Cs_R262_2 m, Cs_K267 m, Cs_R267_0 m, Cs_K268 m, Cs_R262_3 m, Cs_K269 m, Cs_R269_0 m, Cs_K270 m, Int.toNat_natCast, Int.natCast_nonneg, true_and, and_true, and_self, if_true, if_false, or_true, true_or, or_false, false_or, ne_eq, not_true_eq_false, not_false_eq_true, Nat.reduceLeDiff, Nat.reduceEqDiff, Nat.reduceLT, Nat.reduceAdd, Nat.reduceMul, Nat.reduceSub, Int.reduceLT, Int.reduceLE, Int.reduceEq, Int.reduceToNat, Int.reduceAdd, Int.reduceSub, Int.reduceMul, Int.reduceNeg, Int.cast_ofNat_Int, false_and, and_false, e, l0, l1, s0, w8_w8]
set_option maxHeartbeats 1000000 in
theorem S_add {d : Nat} {Q : Option PV → Hp → Prop} {h : Hp} {v : Int} {n : Nat} (m : CsOk h) (e : hI h 201 3 = (n : Int)) (hn : n + 4 ≤ 900)
    (k : ∀ h', Fp (adP n) h h' → hI h' 201 3 = ((n + 4 : Nat) : Int) → (∀ j, j < 4 → hI h' 202 (n + j) = w8 (ishr v (24 - 8 * (j : Int)))) → Q none h') : WP d mX6_add 0 [some (.inr (.inr 201)), some (.inl v), none] [] h Q := by
  have f1 : Fp (adP n) h (wI (wI h 202 n (w8 (ishr v 24))) 201 3 ((n + 1 : Nat) : Int)) := ((Fp.refl (adP n) h).wI (by unfold adP; omega) _).wI (by unfold adP; omega) _
  have m1 := m.fr f1
  have e1 : hI (wI (wI h 202 n (w8 (ishr v 24))) 201 3 ((n + 1 : Nat) : Int)) 201 3 = ((n + 1 : Nat) : Int) := by rw [hI_wI, if_pos ⟨rfl, rfl⟩]
  have t1 : hI (wI (wI h 202 n (w8 (ishr v 24))) 201 3 ((n + 1 : Nat) : Int)) 202 n = w8 (ishr v 24) := by rw [hI_wI, if_neg (by omega), hI_wI, if_pos ⟨rfl, rfl⟩]
  simp only [rX6_add_0, rX6_add_2]
  rw [add_step m e (by omega) (by decide), show w32 (24 + -8) = 16 from rfl]
  generalize wI (wI h 202 n (w8 (ishr v 24))) 201 3 ((n + 1 : Nat) : Int) = h1 at f1 m1 e1 t1 ⊢
  have f2 : Fp (adP n) h (wI (wI h1 202 (n + 1) (w8 (ishr v 16))) 201 3 ((n + 1 + 1 : Nat) : Int)) := (f1.wI (by unfold adP; omega) _).wI (by unfold adP; omega) _
  have m2 := m.fr f2
  have e2 : hI (wI (wI h1 202 (n + 1) (w8 (ishr v 16))) 201 3 ((n + 1 + 1 : Nat) : Int)) 201 3 = ((n + 1 + 1 : Nat) : Int) := by rw [hI_wI, if_pos ⟨rfl, rfl⟩]
  have t2 : hI (wI (wI h1 202 (n + 1) (w8 (ishr v 16))) 201 3 ((n + 1 + 1 : Nat) : Int)) 202 (n + 1) = w8 (ishr v 16) := by rw [hI_wI, if_neg (by omega), hI_wI, if_pos ⟨rfl, rfl⟩]
  have u2 : hI (wI (wI h1 202 (n + 1) (w8 (ishr v 16))) 201 3 ((n + 1 + 1 : Nat) : Int)) 202 n = w8 (ishr v 24) := by rw [hI_wI, if_neg (by omega), hI_wI, if_neg (by omega)]; exact t1
  rw [add_step m1 e1 (by omega) (by decide), show w32 (16 + -8) = 8 from rfl]
  generalize wI (wI h1 202 (n + 1) (w8 (ishr v 16))) 201 3 ((n + 1 + 1 : Nat) : Int) = h2 at f2 m2 e2 t2 u2 ⊢
  have f3 : Fp (adP n) h (wI (wI h2 202 (n + 1 + 1) (w8 (ishr v 8))) 201 3 ((n + 1 + 1 + 1 : Nat) : Int)) := (f2.wI (by unfold adP; omega) _).wI (by unfold adP; omega) _
  have m3 := m.fr f3
  have e3 : hI (wI (wI h2 202 (n + 1 + 1) (w8 (ishr v 8))) 201 3 ((n + 1 + 1 + 1 : Nat) : Int)) 201 3 = ((n + 1 + 1 + 1 : Nat) : Int) := by rw [hI_wI, if_pos ⟨rfl, rfl⟩]
  have t3 : ∀ j, j < 3 → hI (wI (wI h2 202 (n + 1 + 1) (w8 (ishr v 8))) 201 3 ((n + 1 + 1 + 1 : Nat) : Int)) 202 (n + j) = w8 (ishr v (24 - 8 * (j : Int))) := by
    intro j hj
    rw [hI_wI, if_neg (by omega), hI_wI]
    have : j = 0 ∨ j = 1 ∨ j = 2 := by omega
    rcases this with rfl | rfl | rfl
    · rw [if_neg (by omega)]; exact u2
    · rw [if_neg (by omega)]; exact t2
    · rw [if_pos ⟨rfl, by omega⟩]; rfl
  rw [add_step m2 e2 (by omega) (by decide), show w32 (8 + -8) = 0 from rfl]
  generalize wI (wI h2 202 (n + 1 + 1) (w8 (ishr v 8))) 201 3 ((n + 1 + 1 + 1 : Nat) : Int) = h3 at f3 m3 e3 t3 ⊢
  rw [add_step m3 e3 (by omega) (by decide), show w32 (0 + -8) = -8 from rfl]
  rw [rX6_add_3]
  simp only [rX6_add_4, rX6_add_46, Int.toNat_natCast, Int.natCast_nonneg, true_and, and_true, and_self, if_true, if_false, or_true, true_or, or_false, false_or, ne_eq, not_true_eq_false, not_false_eq_true, Nat.reduceLeDiff, Nat.reduceEqDiff, Nat.reduceLT, Nat.reduceAdd, Nat.reduceMul, Nat.reduceSub, Int.reduceLT, Int.reduceLE, Int.reduceEq, Int.reduceToNat, Int.reduceAdd, Int.reduceSub, Int.reduceMul, Int.reduceNeg, Int.cast_ofNat_Int, false_and, and_false]
  refine k _ ((f3.wI (by unfold adP; omega) _).wI (by unfold adP; omega) _) (by rw [hI_wI, if_pos ⟨rfl, rfl⟩]) ?_
  intro j hj
  rw [hI_wI, if_neg (by omega), hI_wI]
  by_cases hj3 : j = 3
  · rw [if_pos ⟨rfl, by omega⟩, hj3]; rfl
  · rw [if_neg (by omega)]; exact t3 j (by omega)
def rdP (a k : Nat) : Prop := a = 202 ∨ (a = 201 ∧ k = 3)
theorem adP_r {n a k : Nat} (h : adP n a k) : rdP a k := by unfold adP at h; unfold rdP; omega
theorem CRep.rd {h h' : Hp} {σ σ' : AS} (f : Fp (fun a _ => a = 201 ∨ a = 202) h h') (x : CRep h σ) (e : σ'.1 = σ.1 ∧ σ'.2.1 = σ.2.1 ∧ σ'.2.2.2.2.2.2 = σ.2.2.2.2.2.2) (rd : RdIs h' σ') : CRep h' σ' := by
  have fa := f.fa (S := fun a => a = 201 ∨ a = 202) (fun a k q => q)
  refine ⟨?_, x.2.fa fa x.1.2.1 (fun a ha => by omega)⟩
  obtain ⟨⟨m, n, ⟨p1, p2⟩, s1, pa, tr, im', rd'⟩, b, _⟩ := x
  have pc : ∀ q, PoolIn h q → ∀ a, PlCell h q a → a < 200 + hN h ∧ ¬ (a = 201 ∨ a = 202) := fun q hq a ha => by
    obtain ⟨y1, y2, y3⟩ := hq.2 a ha
    exact ⟨y1, by omega⟩
  have e7 : hR h' 200 7 = hR h 200 7 := f.R _ _
  obtain ⟨A, H, N, T, F, P, So, M, B⟩ := σ
  obtain ⟨A', H', N', T', F', P', So', M', B'⟩ := σ'
  obtain ⟨ea, eh, er⟩ := e
  simp only [Prod.mk.injEq] at ea eh er
  obtain ⟨es, em, eb⟩ := er
  subst ea eh es em eb
  refine ⟨m.fr f, by rw [f.N]; exact n, ?_, s1.fa fa (by omega) (by omega) (by omega) (by omega), pa.fa fa n (fun a h1 h2 => by omega), tr.fa fa n (fun a h1 h2 => by omega), ?_, rd⟩
  · rw [e7]
    exact ⟨(p1.fa fa (pc _ p2)).1, p2.fa fa n (by omega) (pc _ p2 _ (Or.inl ⟨by omega, by omega⟩)).2⟩
  · intro i hi
    have e1 : hR h' (272 + 11 * i) 1 = hR h (272 + 11 * i) 1 := f.R _ _
    obtain ⟨y1, y2⟩ := im' i hi
    refine ⟨by rw [f.I (by omega)]; exact y1, fun h1 => ?_⟩
    obtain ⟨z1, z2, z3⟩ := y2 h1
    rw [e1]
    exact ⟨(z1.fa fa (pc _ z2)).1, z2.fa fa n (by omega) (pc _ z2 _ (Or.inl ⟨by omega, by omega⟩)).2, z3.fa fa (by omega) (by omega) (by omega) (by omega)⟩
set_option maxHeartbeats 2000000 in
theorem C_feed {d : Nat} {σ : AS} {a b c e f : Int} : CSpec (d + 1) mX11_feed [some (.inr (.inr 200)), some (.inl a), some (.inl b), some (.inl c), some (.inl e), some (.inl f)] σ (.inl (if sN σ + 20 ≤ 900 then ((sN σ + 20 : Nat) : Int) else -5)) (if sN σ + 20 ≤ 900 then wNT σ (sN σ + 20) (fdT σ a b c e f) else σ) := by
  intro h Q x w k
  have m := x.1.1
  have rd := x.1.2.2.2.2.2.2.2
  have hN9 := w.2.2.2.2.2.2.1
  simp only [rX11_feed_0, rX11_feed_1, rX11_feed_4, rX11_feed_7, rX11_feed_9, rX11_feed_10, rX11_feed_13, rX11_feed_16, rX11_feed_18, Cs_K200 m, Cs_R200_0 m, Cs_R200_1 m, Cs_R200_2 m, Cs_R200_3 m, Cs_R200_4 m, Cs_R200_5 m, Cs_R200_6 m, Cs_K201 m, Cs_R201_0 m, Cs_R201_1 m, Cs_K202 m, Cs_K203 m, Cs_K211 m, Cs_R211_0 m, Cs_R211_1 m, Cs_K212 m, Cs_K213 m, Cs_K214 m, Cs_R214_0 m, Cs_R214_1 m, Cs_K215 m, Cs_K216 m, Cs_K217 m, Cs_R217_0 m, Cs_R217_1 m, Cs_K218 m, Cs_K219 m, Cs_K220 m, Cs_R220_0 m, Cs_K221 m, Cs_K262 m, Cs_K271 m, Cs_R271_0 m, Cs_R271_1 m, Cs_K272 m, Cs_K276 m, Cs_R272_0 m, Cs_R276_0 m, Cs_K273 m, Cs_R273_0 m, Cs_R273_1 m, Cs_K274 m, Cs_K275 m, Cs_K277 m, Cs_R277_0 m, Cs_R277_1 m, Cs_K278 m, Cs_K279 m, Cs_R262_0 m, Cs_K263 m, Cs_R263_0 m, Cs_K264 m, Cs_R262_1 m, Cs_K265 m, Cs_R265_0 m, Cs_K266 m, Cs_R262_2 m, Cs_K267 m, Cs_R267_0 m, Cs_K268 m, Cs_R262_3 m, Cs_K269 m, Cs_R269_0 m, Cs_K270 m, Int.toNat_natCast, Int.natCast_nonneg, true_and, and_true, and_self, if_true, if_false, or_true, true_or, or_false, false_or, ne_eq, not_true_eq_false, not_false_eq_true, Nat.reduceLeDiff, Nat.reduceEqDiff, Nat.reduceLT, Nat.reduceAdd, Nat.reduceMul, Nat.reduceSub, Int.reduceLT, Int.reduceLE, Int.reduceEq, Int.reduceToNat, Int.reduceAdd, Int.reduceSub, Int.reduceMul, Int.reduceNeg, Int.cast_ofNat_Int, false_and, and_false, rd.1, w32_al (l := sN σ) 20 (sN σ + 20) (by omega) (by omega)]
  by_cases h1 : sN σ + 20 ≤ 900
  · simp only [if_pos h1] at k
    rw [if_neg (by omega)]
    simp only [rX11_feed_19, rX11_feed_20, rX11_feed_23, rX11_feed_24, Cs_K200 m, Cs_R200_0 m, Cs_R200_1 m, Cs_R200_2 m, Cs_R200_3 m, Cs_R200_4 m, Cs_R200_5 m, Cs_R200_6 m, Cs_K201 m, Cs_R201_0 m, Cs_R201_1 m, Cs_K202 m, Cs_K203 m, Cs_K211 m, Cs_R211_0 m, Cs_R211_1 m, Cs_K212 m, Cs_K213 m, Cs_K214 m, Cs_R214_0 m, Cs_R214_1 m, Cs_K215 m, Cs_K216 m, Cs_K217 m, Cs_R217_0 m, Cs_R217_1 m, Cs_K218 m, Cs_K219 m, Cs_K220 m, Cs_R220_0 m, Cs_K221 m, Cs_K262 m, Cs_K271 m, Cs_R271_0 m, Cs_R271_1 m, Cs_K272 m, Cs_K276 m, Cs_R272_0 m, Cs_R276_0 m, Cs_K273 m, Cs_R273_0 m, Cs_R273_1 m, Cs_K274 m, Cs_K275 m, Cs_K277 m, Cs_R277_0 m, Cs_R277_1 m, Cs_K278 m, Cs_K279 m, Cs_R262_0 m, Cs_K263 m, Cs_R263_0 m, Cs_K264 m, Cs_R262_1 m, Cs_K265 m, Cs_R265_0 m, Cs_K266 m, Cs_R262_2 m, Cs_K267 m, Cs_R267_0 m, Cs_K268 m, Cs_R262_3 m, Cs_K269 m, Cs_R269_0 m, Cs_K270 m, Int.toNat_natCast, Int.natCast_nonneg, true_and, and_true, and_self, if_true, if_false, or_true, true_or, or_false, false_or, ne_eq, not_true_eq_false, not_false_eq_true, Nat.reduceLeDiff, Nat.reduceEqDiff, Nat.reduceLT, Nat.reduceAdd, Nat.reduceMul, Nat.reduceSub, Int.reduceLT, Int.reduceLE, Int.reduceEq, Int.reduceToNat, Int.reduceAdd, Int.reduceSub, Int.reduceMul, Int.reduceNeg, Int.cast_ofNat_Int, false_and, and_false]
    refine S_add m rd.1 (by omega) ?_
    intro h1' f1 n1 t1
    have m1 := m.fr f1
    simp only [psh_none, rX11_feed_27, rX11_feed_28, rX11_feed_31, rX11_feed_32, Cs_K200 m1, Cs_R200_0 m1, Cs_R200_1 m1, Cs_R200_2 m1, Cs_R200_3 m1, Cs_R200_4 m1, Cs_R200_5 m1, Cs_R200_6 m1, Cs_K201 m1, Cs_R201_0 m1, Cs_R201_1 m1, Cs_K202 m1, Cs_K203 m1, Cs_K211 m1, Cs_R211_0 m1, Cs_R211_1 m1, Cs_K212 m1, Cs_K213 m1, Cs_K214 m1, Cs_R214_0 m1, Cs_R214_1 m1, Cs_K215 m1, Cs_K216 m1, Cs_K217 m1, Cs_R217_0 m1, Cs_R217_1 m1, Cs_K218 m1, Cs_K219 m1, Cs_K220 m1, Cs_R220_0 m1, Cs_K221 m1, Cs_K262 m1, Cs_K271 m1, Cs_R271_0 m1, Cs_R271_1 m1, Cs_K272 m1, Cs_K276 m1, Cs_R272_0 m1, Cs_R276_0 m1, Cs_K273 m1, Cs_R273_0 m1, Cs_R273_1 m1, Cs_K274 m1, Cs_K275 m1, Cs_K277 m1, Cs_R277_0 m1, Cs_R277_1 m1, Cs_K278 m1, Cs_K279 m1, Cs_R262_0 m1, Cs_K263 m1, Cs_R263_0 m1, Cs_K264 m1, Cs_R262_1 m1, Cs_K265 m1, Cs_R265_0 m1, Cs_K266 m1, Cs_R262_2 m1, Cs_K267 m1, Cs_R267_0 m1, Cs_K268 m1, Cs_R262_3 m1, Cs_K269 m1, Cs_R269_0 m1, Cs_K270 m1, Int.toNat_natCast, Int.natCast_nonneg, true_and, and_true, and_self, if_true, if_false, or_true, true_or, or_false, false_or, ne_eq, not_true_eq_false, not_false_eq_true, Nat.reduceLeDiff, Nat.reduceEqDiff, Nat.reduceLT, Nat.reduceAdd, Nat.reduceMul, Nat.reduceSub, Int.reduceLT, Int.reduceLE, Int.reduceEq, Int.reduceToNat, Int.reduceAdd, Int.reduceSub, Int.reduceMul, Int.reduceNeg, Int.cast_ofNat_Int, false_and, and_false]
    refine S_add m1 n1 (by omega) ?_
    intro h2' f2 n2 t2
    have m2 := m1.fr f2
    simp only [psh_none, rX11_feed_35, rX11_feed_36, rX11_feed_39, rX11_feed_40, Cs_K200 m2, Cs_R200_0 m2, Cs_R200_1 m2, Cs_R200_2 m2, Cs_R200_3 m2, Cs_R200_4 m2, Cs_R200_5 m2, Cs_R200_6 m2, Cs_K201 m2, Cs_R201_0 m2, Cs_R201_1 m2, Cs_K202 m2, Cs_K203 m2, Cs_K211 m2, Cs_R211_0 m2, Cs_R211_1 m2, Cs_K212 m2, Cs_K213 m2, Cs_K214 m2, Cs_R214_0 m2, Cs_R214_1 m2, Cs_K215 m2, Cs_K216 m2, Cs_K217 m2, Cs_R217_0 m2, Cs_R217_1 m2, Cs_K218 m2, Cs_K219 m2, Cs_K220 m2, Cs_R220_0 m2, Cs_K221 m2, Cs_K262 m2, Cs_K271 m2, Cs_R271_0 m2, Cs_R271_1 m2, Cs_K272 m2, Cs_K276 m2, Cs_R272_0 m2, Cs_R276_0 m2, Cs_K273 m2, Cs_R273_0 m2, Cs_R273_1 m2, Cs_K274 m2, Cs_K275 m2, Cs_K277 m2, Cs_R277_0 m2, Cs_R277_1 m2, Cs_K278 m2, Cs_K279 m2, Cs_R262_0 m2, Cs_K263 m2, Cs_R263_0 m2, Cs_K264 m2, Cs_R262_1 m2, Cs_K265 m2, Cs_R265_0 m2, Cs_K266 m2, Cs_R262_2 m2, Cs_K267 m2, Cs_R267_0 m2, Cs_K268 m2, Cs_R262_3 m2, Cs_K269 m2, Cs_R269_0 m2, Cs_K270 m2, Int.toNat_natCast, Int.natCast_nonneg, true_and, and_true, and_self, if_true, if_false, or_true, true_or, or_false, false_or, ne_eq, not_true_eq_false, not_false_eq_true, Nat.reduceLeDiff, Nat.reduceEqDiff, Nat.reduceLT, Nat.reduceAdd, Nat.reduceMul, Nat.reduceSub, Int.reduceLT, Int.reduceLE, Int.reduceEq, Int.reduceToNat, Int.reduceAdd, Int.reduceSub, Int.reduceMul, Int.reduceNeg, Int.cast_ofNat_Int, false_and, and_false]
    refine S_add m2 n2 (by omega) ?_
    intro h3' f3 n3 t3
    have m3 := m2.fr f3
    simp only [psh_none, rX11_feed_43, rX11_feed_44, rX11_feed_47, rX11_feed_49, Cs_K200 m3, Cs_R200_0 m3, Cs_R200_1 m3, Cs_R200_2 m3, Cs_R200_3 m3, Cs_R200_4 m3, Cs_R200_5 m3, Cs_R200_6 m3, Cs_K201 m3, Cs_R201_0 m3, Cs_R201_1 m3, Cs_K202 m3, Cs_K203 m3, Cs_K211 m3, Cs_R211_0 m3, Cs_R211_1 m3, Cs_K212 m3, Cs_K213 m3, Cs_K214 m3, Cs_R214_0 m3, Cs_R214_1 m3, Cs_K215 m3, Cs_K216 m3, Cs_K217 m3, Cs_R217_0 m3, Cs_R217_1 m3, Cs_K218 m3, Cs_K219 m3, Cs_K220 m3, Cs_R220_0 m3, Cs_K221 m3, Cs_K262 m3, Cs_K271 m3, Cs_R271_0 m3, Cs_R271_1 m3, Cs_K272 m3, Cs_K276 m3, Cs_R272_0 m3, Cs_R276_0 m3, Cs_K273 m3, Cs_R273_0 m3, Cs_R273_1 m3, Cs_K274 m3, Cs_K275 m3, Cs_K277 m3, Cs_R277_0 m3, Cs_R277_1 m3, Cs_K278 m3, Cs_K279 m3, Cs_R262_0 m3, Cs_K263 m3, Cs_R263_0 m3, Cs_K264 m3, Cs_R262_1 m3, Cs_K265 m3, Cs_R265_0 m3, Cs_K266 m3, Cs_R262_2 m3, Cs_K267 m3, Cs_R267_0 m3, Cs_K268 m3, Cs_R262_3 m3, Cs_K269 m3, Cs_R269_0 m3, Cs_K270 m3, Int.toNat_natCast, Int.natCast_nonneg, true_and, and_true, and_self, if_true, if_false, or_true, true_or, or_false, false_or, ne_eq, not_true_eq_false, not_false_eq_true, Nat.reduceLeDiff, Nat.reduceEqDiff, Nat.reduceLT, Nat.reduceAdd, Nat.reduceMul, Nat.reduceSub, Int.reduceLT, Int.reduceLE, Int.reduceEq, Int.reduceToNat, Int.reduceAdd, Int.reduceSub, Int.reduceMul, Int.reduceNeg, Int.cast_ofNat_Int, false_and, and_false]
    refine S_add m3 n3 (by omega) ?_
    intro h4' f4 n4 t4
    have m4 := m3.fr f4
    simp only [psh_none, rX11_feed_52, rX11_feed_53, rX11_feed_56, rX11_feed_58, Cs_K200 m4, Cs_R200_0 m4, Cs_R200_1 m4, Cs_R200_2 m4, Cs_R200_3 m4, Cs_R200_4 m4, Cs_R200_5 m4, Cs_R200_6 m4, Cs_K201 m4, Cs_R201_0 m4, Cs_R201_1 m4, Cs_K202 m4, Cs_K203 m4, Cs_K211 m4, Cs_R211_0 m4, Cs_R211_1 m4, Cs_K212 m4, Cs_K213 m4, Cs_K214 m4, Cs_R214_0 m4, Cs_R214_1 m4, Cs_K215 m4, Cs_K216 m4, Cs_K217 m4, Cs_R217_0 m4, Cs_R217_1 m4, Cs_K218 m4, Cs_K219 m4, Cs_K220 m4, Cs_R220_0 m4, Cs_K221 m4, Cs_K262 m4, Cs_K271 m4, Cs_R271_0 m4, Cs_R271_1 m4, Cs_K272 m4, Cs_K276 m4, Cs_R272_0 m4, Cs_R276_0 m4, Cs_K273 m4, Cs_R273_0 m4, Cs_R273_1 m4, Cs_K274 m4, Cs_K275 m4, Cs_K277 m4, Cs_R277_0 m4, Cs_R277_1 m4, Cs_K278 m4, Cs_K279 m4, Cs_R262_0 m4, Cs_K263 m4, Cs_R263_0 m4, Cs_K264 m4, Cs_R262_1 m4, Cs_K265 m4, Cs_R265_0 m4, Cs_K266 m4, Cs_R262_2 m4, Cs_K267 m4, Cs_R267_0 m4, Cs_K268 m4, Cs_R262_3 m4, Cs_K269 m4, Cs_R269_0 m4, Cs_K270 m4, Int.toNat_natCast, Int.natCast_nonneg, true_and, and_true, and_self, if_true, if_false, or_true, true_or, or_false, false_or, ne_eq, not_true_eq_false, not_false_eq_true, Nat.reduceLeDiff, Nat.reduceEqDiff, Nat.reduceLT, Nat.reduceAdd, Nat.reduceMul, Nat.reduceSub, Int.reduceLT, Int.reduceLE, Int.reduceEq, Int.reduceToNat, Int.reduceAdd, Int.reduceSub, Int.reduceMul, Int.reduceNeg, Int.cast_ofNat_Int, false_and, and_false]
    refine S_add m4 n4 (by omega) ?_
    intro h5' f5 n5 t5
    have m5 := m4.fr f5
    simp only [psh_none, rX11_feed_61, rX11_feed_62, rX11_feed_65, rX11_feed_68, Cs_K200 m5, Cs_R200_0 m5, Cs_R200_1 m5, Cs_R200_2 m5, Cs_R200_3 m5, Cs_R200_4 m5, Cs_R200_5 m5, Cs_R200_6 m5, Cs_K201 m5, Cs_R201_0 m5, Cs_R201_1 m5, Cs_K202 m5, Cs_K203 m5, Cs_K211 m5, Cs_R211_0 m5, Cs_R211_1 m5, Cs_K212 m5, Cs_K213 m5, Cs_K214 m5, Cs_R214_0 m5, Cs_R214_1 m5, Cs_K215 m5, Cs_K216 m5, Cs_K217 m5, Cs_R217_0 m5, Cs_R217_1 m5, Cs_K218 m5, Cs_K219 m5, Cs_K220 m5, Cs_R220_0 m5, Cs_K221 m5, Cs_K262 m5, Cs_K271 m5, Cs_R271_0 m5, Cs_R271_1 m5, Cs_K272 m5, Cs_K276 m5, Cs_R272_0 m5, Cs_R276_0 m5, Cs_K273 m5, Cs_R273_0 m5, Cs_R273_1 m5, Cs_K274 m5, Cs_K275 m5, Cs_K277 m5, Cs_R277_0 m5, Cs_R277_1 m5, Cs_K278 m5, Cs_K279 m5, Cs_R262_0 m5, Cs_K263 m5, Cs_R263_0 m5, Cs_K264 m5, Cs_R262_1 m5, Cs_K265 m5, Cs_R265_0 m5, Cs_K266 m5, Cs_R262_2 m5, Cs_K267 m5, Cs_R267_0 m5, Cs_K268 m5, Cs_R262_3 m5, Cs_K269 m5, Cs_R269_0 m5, Cs_K270 m5, Int.toNat_natCast, Int.natCast_nonneg, true_and, and_true, and_self, if_true, if_false, or_true, true_or, or_false, false_or, ne_eq, not_true_eq_false, not_false_eq_true, Nat.reduceLeDiff, Nat.reduceEqDiff, Nat.reduceLT, Nat.reduceAdd, Nat.reduceMul, Nat.reduceSub, Int.reduceLT, Int.reduceLE, Int.reduceEq, Int.reduceToNat, Int.reduceAdd, Int.reduceSub, Int.reduceMul, Int.reduceNeg, Int.cast_ofNat_Int, false_and, and_false, n5]
    have fr : Fp rdP h h5' := ((((f1.mono (fun a k q => adP_r q)).trans (f2.mono (fun a k q => adP_r q))).trans (f3.mono (fun a k q => adP_r q))).trans (f4.mono (fun a k q => adP_r q))).trans (f5.mono (fun a k q => adP_r q))
    have fr2 : Fp (fun a _ => a = 201 ∨ a = 202) h h5' := fr.mono (fun a k q => by unfold rdP at q; omega)
    refine k h5' (x.rd fr2 ⟨rfl, rfl, rfl⟩ ⟨n5, fun q hq => ?_, by rw [fr.I (by unfold rdP; omega)]; exact rd.2.2.1, by rw [fr.I (by unfold rdP; omega)]; exact rd.2.2.2⟩) (Cfr.of fr (fun a k q => by unfold rdP at q; unfold cfP; omega))
    have hq' : q < sN σ + 20 := hq
    show hI h5' 202 q = w8 (fdT σ a b c e f q)
    unfold fdT
    by_cases hlo : q < sN σ
    · rw [if_neg (by omega), f5.I (by unfold adP; omega), f4.I (by unfold adP; omega), f3.I (by unfold adP; omega), f2.I (by unfold adP; omega), f1.I (by unfold adP; omega)]
      exact rd.2.1 q hlo
    · rw [if_pos (by omega), w8_and]
      unfold fdV
      by_cases q1 : q - sN σ < 4
      · rw [if_pos q1, f5.I (by unfold adP; omega), f4.I (by unfold adP; omega), f3.I (by unfold adP; omega), f2.I (by unfold adP; omega)]
        have := t1 (q - sN σ) (by omega)
        rw [show sN σ + (q - sN σ) = q by omega] at this
        rw [this, show (q - sN σ) % 4 = q - sN σ by omega]
      rw [if_neg q1]
      by_cases q2 : q - sN σ < 8
      · rw [if_pos q2, f5.I (by unfold adP; omega), f4.I (by unfold adP; omega), f3.I (by unfold adP; omega)]
        have := t2 (q - sN σ - 4) (by omega)
        rw [show sN σ + 4 + (q - sN σ - 4) = q by omega] at this
        rw [this, show (q - sN σ) % 4 = q - sN σ - 4 by omega]
      rw [if_neg q2]
      by_cases q3 : q - sN σ < 12
      · rw [if_pos q3, f5.I (by unfold adP; omega), f4.I (by unfold adP; omega)]
        have := t3 (q - sN σ - 8) (by omega)
        rw [show sN σ + 4 + 4 + (q - sN σ - 8) = q by omega] at this
        rw [this, show (q - sN σ) % 4 = q - sN σ - 8 by omega]
      rw [if_neg q3]
      by_cases q4 : q - sN σ < 16
      · rw [if_pos q4, f5.I (by unfold adP; omega)]
        have := t4 (q - sN σ - 12) (by omega)
        rw [show sN σ + 4 + 4 + 4 + (q - sN σ - 12) = q by omega] at this
        rw [this, show (q - sN σ) % 4 = q - sN σ - 12 by omega]
      rw [if_neg q4]
      have := t5 (q - sN σ - 16) (by omega)
      rw [show sN σ + 4 + 4 + 4 + 4 + (q - sN σ - 16) = q by omega] at this
      rw [this, show (q - sN σ) % 4 = q - sN σ - 16 by omega]
  · simp only [if_neg h1] at k
    rw [if_pos (by omega)]
    exact k h x (Cfr.refl h)
theorem RRep.nt {h h' : Hp} {σ : AS} (f : Fp (fun a k => uP a k ∨ a = 297 ∨ (a = 294 ∧ k = 5)) h h') (x : RRep h σ) {N : Nat} {T : Nat → Int} (e : hI h' 294 5 = (N : Int)) (t : ∀ k, k < N → hI h' 297 k = T k) : RRep h' (wNT σ N T) := by
  obtain ⟨x1, x2, x3, x4, x5, x6, x7, x8, x9⟩ := x
  refine ⟨x1.fr f, fun k hk => ?_, fun i hi => ?_, e, t, ?_, ?_, fun i hi => ?_, fun k hk => ?_⟩
  · rw [f.I (by unfold uP; omega)]; exact x2 k hk
  · rw [f.I (by unfold uP; omega)]; exact x3 i hi
  · rw [f.I (by unfold uP; omega)]; exact x6
  · rw [f.I (by unfold uP; omega)]; exact x7
  · rw [f.I (by unfold uP; omega), f.I (by unfold uP; omega)]; exact x8 i hi
  · rw [f.J (by unfold uP; omega)]; exact x9 k hk
def feP (n a k : Nat) : Prop := (a = 297 ∧ n ≤ k ∧ k < n + 20) ∨ (a = 294 ∧ k = 5)
set_option maxHeartbeats 2000000 in
theorem R_feed {d : Nat} {σ : AS} {a b c e f : Int} : RSpec (d + 1) mX12_feed [some (.inr (.inr 294)), some (.inl a), some (.inl b), some (.inl c), some (.inl e), some (.inl f), none, none] σ (.inl (if sN σ + 20 ≤ 900 then ((sN σ + 20 : Nat) : Int) else -5)) (if sN σ + 20 ≤ 900 then wNT σ (sN σ + 20) (fdT σ a b c e f) else σ) := by
  refine RSpec5.of ?_ (fun h Q hk => by simp only [rX12_feed_0, rX12_feed_1, rX12_feed_2, hk, Int.toNat_natCast, Int.natCast_nonneg, true_and, and_true, and_self, if_true, if_false, or_true, true_or, or_false, false_or, ne_eq, not_true_eq_false, not_false_eq_true, Nat.reduceLeDiff, Nat.reduceEqDiff, Nat.reduceLT, Nat.reduceAdd, Nat.reduceMul, Nat.reduceSub, Int.reduceLT, Int.reduceLE, Int.reduceEq, Int.reduceToNat, Int.reduceAdd, Int.reduceSub, Int.reduceMul, Int.reduceNeg, Int.cast_ofNat_Int, false_and, and_false])
  intro h Q x w k
  have m := x.1
  have hN9 := w.2.2.2.2.2.2.1
  simp only [rX12_feed_5, rX12_feed_6, rX12_feed_9, rX12_feed_11, rX12_feed_12, rX12_feed_15, rX12_feed_18, rX12_feed_20, Md_K280 m, Md_R281 m, Md_K281 m, Md_R282 m, Md_K282 m, Md_R283 m, Md_K283 m, Md_R284 m, Md_K284 m, Md_R285 m, Md_K285 m, Md_R286 m, Md_K286 m, Md_R287 m, Md_K287 m, Md_R288 m, Md_K288 m, Md_R289 m, Md_K289 m, Md_R290 m, Md_K290 m, Md_R291 m, Md_K291 m, Md_R292 m, Md_K292 m, Md_R293 m, Md_K293 m, Md_R294 m, Md_K294 m, Md_R295 m, Md_K295 m, Md_R296 m, Md_K296 m, Md_R297 m, Md_K297 m, Md_R298 m, Md_K298 m, Md_R299 m, Md_K299 m, Int.toNat_natCast, Int.natCast_nonneg, true_and, and_true, and_self, if_true, if_false, or_true, true_or, or_false, false_or, ne_eq, not_true_eq_false, not_false_eq_true, Nat.reduceLeDiff, Nat.reduceEqDiff, Nat.reduceLT, Nat.reduceAdd, Nat.reduceMul, Nat.reduceSub, Int.reduceLT, Int.reduceLE, Int.reduceEq, Int.reduceToNat, Int.reduceAdd, Int.reduceSub, Int.reduceMul, Int.reduceNeg, Int.cast_ofNat_Int, false_and, and_false, x.2.2.2.1, w32_al (l := sN σ) 20 (sN σ + 20) (by omega) (by omega)]
  by_cases h1 : sN σ + 20 ≤ 900
  · simp only [if_pos h1] at k
    rw [if_neg (by omega)]
    simp only [rX12_feed_21, rX12_feed_22]
    have fin : ∀ h' x7, Fp (feP (sN σ)) h h' → hI h' 294 5 = ((sN σ + 20 : Nat) : Int) → (∀ j, j < 20 → hI h' 297 (sN σ + j) = iand (ishr (fdV a b c e f j) (24 - 8 * ((j % 4 : Nat) : Int))) 255) → WP (d + 1) mX12_feed 121 [some (.inr (.inr 294)), some (.inl a), some (.inl b), some (.inl c), some (.inl e), some (.inl f), some (.inl 20), x7] [] h' Q := by
      intro h' x7 fr n' t'
      have m' := m.fr fr
      simp only [rX12_feed_121, rX12_feed_122, rX12_feed_125, Md_K280 m', Md_R281 m', Md_K281 m', Md_R282 m', Md_K282 m', Md_R283 m', Md_K283 m', Md_R284 m', Md_K284 m', Md_R285 m', Md_K285 m', Md_R286 m', Md_K286 m', Md_R287 m', Md_K287 m', Md_R288 m', Md_K288 m', Md_R289 m', Md_K289 m', Md_R290 m', Md_K290 m', Md_R291 m', Md_K291 m', Md_R292 m', Md_K292 m', Md_R293 m', Md_K293 m', Md_R294 m', Md_K294 m', Md_R295 m', Md_K295 m', Md_R296 m', Md_K296 m', Md_R297 m', Md_K297 m', Md_R298 m', Md_K298 m', Md_R299 m', Md_K299 m', Int.toNat_natCast, Int.natCast_nonneg, true_and, and_true, and_self, if_true, if_false, or_true, true_or, or_false, false_or, ne_eq, not_true_eq_false, not_false_eq_true, Nat.reduceLeDiff, Nat.reduceEqDiff, Nat.reduceLT, Nat.reduceAdd, Nat.reduceMul, Nat.reduceSub, Int.reduceLT, Int.reduceLE, Int.reduceEq, Int.reduceToNat, Int.reduceAdd, Int.reduceSub, Int.reduceMul, Int.reduceNeg, Int.cast_ofNat_Int, false_and, and_false, n']
      have fr2 := fr.mono (P' := fun a k => uP a k ∨ a = 297 ∨ (a = 294 ∧ k = 5)) (fun a k q => by unfold feP at q; omega)
      refine k h' (x.nt fr2 n' (fun q hq => ?_)) (fr2.mono (fun a k q => by unfold uP at q; unfold rfP; omega))
      unfold fdT
      by_cases hlo : q < sN σ
      · rw [if_neg (by omega), fr.I (by unfold feP; omega)]
        exact x.2.2.2.2.1 q hlo
      · rw [if_pos (by omega), ← t' (q - sN σ) (by omega), show sN σ + (q - sN σ) = q by omega]
    have main : ∀ n i h' (x7 : Option PV), i + n = 20 → (x7 = none ∨ ∃ z, x7 = some (.inl z)) → Fp (feP (sN σ)) h h' → hI h' 294 5 = ((sN σ + i : Nat) : Int) → (∀ j, j < i → hI h' 297 (sN σ + j) = iand (ishr (fdV a b c e f j) (24 - 8 * ((j % 4 : Nat) : Int))) 255) → WP (d + 1) mX12_feed 24 [some (.inr (.inr 294)), some (.inl a), some (.inl b), some (.inl c), some (.inl e), some (.inl f), some (.inl (i : Int)), x7] [] h' Q := by
      intro n
      induction n with
      | zero =>
        intro i h' x7 hi hx fr n' t'
        have : i = 20 := by omega
        subst this
        rw [rX12_feed_24]
        simp only [rX12_feed_26, rX12_feed_28, Int.toNat_natCast, Int.natCast_nonneg, true_and, and_true, and_self, if_true, if_false, or_true, true_or, or_false, false_or, ne_eq, not_true_eq_false, not_false_eq_true, Nat.reduceLeDiff, Nat.reduceEqDiff, Nat.reduceLT, Nat.reduceAdd, Nat.reduceMul, Nat.reduceSub, Int.reduceLT, Int.reduceLE, Int.reduceEq, Int.reduceToNat, Int.reduceAdd, Int.reduceSub, Int.reduceMul, Int.reduceNeg, Int.cast_ofNat_Int, false_and, and_false]
        exact fin h' x7 fr n' t'
      | succ n ih =>
        intro i h' x7 hi hx fr n' t'
        have m' := m.fr fr
        have l1 : (i : Int) < 20 := by omega
        have l2 : w32 ((i : Int) + 1) = ((i + 1 : Nat) : Int) := w32_s (by omega)
        have l3 : (i : Int).tmod 4 = ((i % 4 : Nat) : Int) := by rw [tmod_n (by omega)]; omega
        have l4 : w32 (8 * ((i % 4 : Nat) : Int)) = 8 * ((i % 4 : Nat) : Int) := w32_i (by omega) (by omega)
        have l5 : w32 (24 - 8 * ((i % 4 : Nat) : Int)) = 24 - 8 * ((i % 4 : Nat) : Int) := w32_i (by omega) (by omega)
        have l6 : w32 (((sN σ + i : Nat) : Int) + 1) = ((sN σ + (i + 1) : Nat) : Int) := w32_s (by omega)
        have l7 : ((sN σ + i : Nat) : Int) < 900 := by omega
        have go : ∀ v, v = fdV a b c e f i → WP (d + 1) mX12_feed 77 [some (.inr (.inr 294)), some (.inl a), some (.inl b), some (.inl c), some (.inl e), some (.inl f), some (.inl (i : Int)), x7] [.inl v] h' Q := by
          intro v hv
          simp only [rX12_feed_77, rX12_feed_79, rX12_feed_80, rX12_feed_83, rX12_feed_84, rX12_feed_87, rX12_feed_89, rX12_feed_91, rX12_feed_93, rX12_feed_95, rX12_feed_96, rX12_feed_97, rX12_feed_98, rX12_feed_99, rX12_feed_100, rX12_feed_103, rX12_feed_104, rX12_feed_105, rX12_feed_106, rX12_feed_107, rX12_feed_110, rX12_feed_111, rX12_feed_112, rX12_feed_115, rX12_feed_118, hN_wI, hN_wJ, hN_wR, hS_wI, hS_wJ, hS_wR, hK_wI, hK_wJ, hK_wR, hI_wI, hI_wJ, hI_wR, hJ_wI, hJ_wJ, hJ_wR, hR_wI, hR_wJ, hR_wR, hN_nw, hS_nw, hK_nw, hI_nw, hJ_nw, hR_nw, psh_some, psh_none, Md_K280 m', Md_R281 m', Md_K281 m', Md_R282 m', Md_K282 m', Md_R283 m', Md_K283 m', Md_R284 m', Md_K284 m', Md_R285 m', Md_K285 m', Md_R286 m', Md_K286 m', Md_R287 m', Md_K287 m', Md_R288 m', Md_K288 m', Md_R289 m', Md_K289 m', Md_R290 m', Md_K290 m', Md_R291 m', Md_K291 m', Md_R292 m', Md_K292 m', Md_R293 m', Md_K293 m', Md_R294 m', Md_K294 m', Md_R295 m', Md_K295 m', Md_R296 m', Md_K296 m', Md_R297 m', Md_K297 m', Md_R298 m', Md_K298 m', Md_R299 m', Md_K299 m', Int.toNat_natCast, Int.natCast_nonneg, true_and, and_true, and_self, if_true, if_false, or_true, true_or, or_false, false_or, ne_eq, not_true_eq_false, not_false_eq_true, Nat.reduceLeDiff, Nat.reduceEqDiff, Nat.reduceLT, Nat.reduceAdd, Nat.reduceMul, Nat.reduceSub, Int.reduceLT, Int.reduceLE, Int.reduceEq, Int.reduceToNat, Int.reduceAdd, Int.reduceSub, Int.reduceMul, Int.reduceNeg, Int.cast_ofNat_Int, false_and, and_false, n', l2, l3, l4, l5, l6, l7]
          refine ih (i + 1) _ _ (by omega) (Or.inr ⟨v, rfl⟩) ((fr.wI (by unfold feP; omega) _).wI (by unfold feP; omega) _) ?_ ?_
          · rw [hI_wI, if_pos ⟨rfl, rfl⟩]
          · intro j hj
            rw [hI_wI, if_neg (by omega), hI_wI]
            by_cases hji : j = i
            · rw [if_pos (by omega), hv, hji]
            · rw [if_neg (by omega)]; exact t' j (by omega)
        rw [rX12_feed_24]
        simp only [rX12_feed_26, rX12_feed_28, rX12_feed_31, rX12_feed_33, rX12_feed_34, rX12_feed_37, rX12_feed_38, rX12_feed_41, rX12_feed_43, rX12_feed_45, rX12_feed_48, rX12_feed_49, rX12_feed_52, rX12_feed_54, rX12_feed_56, rX12_feed_59, rX12_feed_60, rX12_feed_63, rX12_feed_65, rX12_feed_67, rX12_feed_70, rX12_feed_72, rX12_feed_75, l1, Int.toNat_natCast, Int.natCast_nonneg, true_and, and_true, and_self, if_true, if_false, or_true, true_or, or_false, false_or, ne_eq, not_true_eq_false, not_false_eq_true, Nat.reduceLeDiff, Nat.reduceEqDiff, Nat.reduceLT, Nat.reduceAdd, Nat.reduceMul, Nat.reduceSub, Int.reduceLT, Int.reduceLE, Int.reduceEq, Int.reduceToNat, Int.reduceAdd, Int.reduceSub, Int.reduceMul, Int.reduceNeg, Int.cast_ofNat_Int, false_and, and_false]
        unfold fdV at go
        by_cases i1 : i < 4
        · rw [if_pos (by omega)]; exact go _ (by rw [if_pos i1])
        rw [if_neg (by omega)]
        by_cases i2 : i < 8
        · rw [if_pos (by omega)]; exact go _ (by rw [if_neg i1, if_pos i2])
        rw [if_neg (by omega)]
        by_cases i3 : i < 12
        · rw [if_pos (by omega)]; exact go _ (by rw [if_neg i1, if_neg i2, if_pos i3])
        rw [if_neg (by omega)]
        by_cases i4 : i < 16
        · rw [if_pos (by omega)]; exact go _ (by rw [if_neg i1, if_neg i2, if_neg i3, if_pos i4])
        rw [if_neg (by omega)]
        exact go _ (by rw [if_neg i1, if_neg i2, if_neg i3, if_neg i4])
    exact main 20 0 h none (by omega) (Or.inl rfl) (Fp.refl _ h) (by rw [x.2.2.2.1]; rfl) (fun j hj => by omega)
  · simp only [if_neg h1] at k
    rw [if_pos (by omega)]
    exact k h x (Fp.refl _ h)
