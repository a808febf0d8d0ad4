theorem CBase.nw {h h' : Hp} {σ : AS} (f : Fa (fun a => a = 200) h h') (x : CBase h σ) (m' : CsOk h') (r7 : hR h' 200 7 = hR h 200 7) (dy : ∀ a, Dy h' a → 200 + hN h ≤ a ∨ Dy h a) : CBase h' σ := by
  obtain ⟨m, n, ⟨p1, p2⟩, s1, pa, tr, im, rd⟩ := x
  have pc : ∀ p, PoolIn h p → ∀ a, PlCell h p a → a < 200 + hN h ∧ ¬ (a = 200) := fun p hp a ha => by
    obtain ⟨y1, y2, y3⟩ := hp.2 a ha
    exact ⟨y1, by omega⟩
  have pi : ∀ p, PoolIn h p → PoolIn h' p := fun p hp => by
    refine ⟨hp.1, fun a ha => ?_⟩
    have c0 := pc p hp p (Or.inl ⟨Nat.le_refl _, by omega⟩)
    have ha' : PlCell h p a := by
      unfold PlCell at ha ⊢
      rw [f.R c0.1 c0.2, f.R c0.1 c0.2] at ha
      exact ha
    obtain ⟨y1, y2, y3⟩ := hp.2 a ha'
    refine ⟨by have := f.1; omega, y2, fun hd => ?_⟩
    rcases dy a hd with q | q
    · omega
    · exact y3 q
  refine ⟨m', by have := f.1; omega, ?_, s1.fa f (by omega) (by omega) (by omega) (by omega), pa.fa f n (fun a h1 h2 => by omega), tr.fa f n (fun a h1 h2 => by omega), ?_, rd.fa f n (by omega) (by omega)⟩
  · rw [r7]
    exact ⟨(p1.fa f (pc _ p2)).1, pi _ p2⟩
  · intro i hi
    have e1 : hR h' (272 + 11 * i) 1 = hR h (272 + 11 * i) 1 := f.R (by omega) (by omega) 1
    obtain ⟨y1, y2⟩ := im i hi
    refine ⟨by rw [f.I (by omega) (by omega)]; exact y1, fun h1 => ?_⟩
    obtain ⟨z1, z2, z3⟩ := y2 h1
    rw [e1]
    exact ⟨(z1.fa f (pc _ z2)).1, pi _ z2, z3.fa f (by omega) (by omega) (by omega) (by omega)⟩
theorem stOk0 : stOk (fun _ => 0) := ⟨by decide, by decide, by decide, by decide, fun _ _ => (⟨by decide, by decide, by decide, by decide⟩ : (0 : Int) ≤ 0 ∧ (0 : Int) ≤ 99 ∧ (0 : Int) ≤ 0 ∧ (0 : Int) ≤ 9)⟩
theorem CsOk.fl {h h' : Hp} (f : Fa (fun a => a = 200) h h') (n : 114 ≤ hN h) (m : CsOk h) (k0 : hK h' 200 = hK h 200) (r : ∀ k, k ≤ 6 → hR h' 200 k = hR h 200 k) : CsOk h' := by
  refine m.of (fun a ha => ?_) (fun a k ha h1 h2 h3 => ?_)
  · by_cases e : a = 200
    · rw [e]; exact k0
    · exact f.K (by omega) e
  · by_cases e : a = 200
    · subst e; exact r k (h1 rfl)
    · exact f.R (by omega) e k
set_option maxHeartbeats 1000000 in
theorem S_readyOld {d : Nat} {Q : Option PV → Hp → Prop} {h : Hp} {σ : AS} (x : CRep h σ) (w : WF σ) (h8 : hR h 200 8 ≠ 0)
    (k : ∀ h' se, CRep h' σ → Cfr h h' → Phn h' ≤ Phn h → Phs h' ≤ Phs h → Sx h' se (sA σ) (stA (sA σ)) → Q (some (.inr (.inr se))) h') :
    WP (d + 3) mX11_ready 26 [some (.inr (.inr 200))] [] h Q := by
  have m := x.1.1
  have b := x.2.1.1.resolve_left h8
  obtain ⟨sh, B, F, sc, st⟩ := x.2.2.1 h8
  obtain ⟨sp, sa⟩ := SrC_iff.1 sc
  obtain ⟨⟨_, n, pp, s1, _⟩, _⟩ := id x
  generalize hse : hR h 200 8 = se at h8 b sh st sp sa
  have c : BgC h se (hR h 200 7) (hR h se 10) (sA σ) B F (stA (sA σ)) := ⟨m, ⟨hse, b.1, b.2⟩, sh, rfl, rfl, pp, w.1, s1, w.2.1, sp⟩
  have K0 := sh.1
  simp only [rX11_ready_26, rX11_ready_27, rX11_ready_30, rX11_ready_31, rX11_ready_34, rX11_ready_35, rX11_ready_38, Cs_K200 m, Cs_R200_0 m, Cs_R200_1 m, Cs_R200_2 m, Cs_R200_3 m, Cs_R200_4 m, Cs_R200_5 m, Cs_R200_6 m, Cs_K201 m, Cs_R201_0 m, Cs_R201_1 m, Cs_K202 m, Cs_K203 m, Cs_K211 m, Cs_R211_0 m, Cs_R211_1 m, Cs_K212 m, Cs_K213 m, Cs_K214 m, Cs_R214_0 m, Cs_R214_1 m, Cs_K215 m, Cs_K216 m, Cs_K217 m, Cs_R217_0 m, Cs_R217_1 m, Cs_K218 m, Cs_K219 m, Cs_K220 m, Cs_R220_0 m, Cs_K221 m, Cs_K262 m, Cs_K271 m, Cs_R271_0 m, Cs_R271_1 m, Cs_K272 m, Cs_K276 m, Cs_R272_0 m, Cs_R276_0 m, Cs_K273 m, Cs_R273_0 m, Cs_R273_1 m, Cs_K274 m, Cs_K275 m, Cs_K277 m, Cs_R277_0 m, Cs_R277_1 m, Cs_K278 m, Cs_K279 m, Cs_R262_0 m, Cs_K263 m, Cs_R263_0 m, Cs_K264 m, Cs_R262_1 m, Cs_K265 m, Cs_R265_0 m, Cs_K266 m, Cs_R262_2 m, Cs_K267 m, Cs_R267_0 m, Cs_K268 m, Cs_R262_3 m, Cs_K269 m, Cs_R269_0 m, Cs_K270 m, hse, K0, Int.toNat_natCast, Int.natCast_nonneg, true_and, and_true, and_self, if_true, if_false, or_true, true_or, or_false, false_or, ne_eq, not_true_eq_false, not_false_eq_true, Nat.reduceLeDiff, Nat.reduceEqDiff, Nat.reduceLT, Nat.reduceAdd, Nat.reduceMul, Nat.reduceSub, Int.reduceLT, Int.reduceLE, Int.reduceEq, Int.reduceToNat, Int.reduceAdd, Int.reduceSub, Int.reduceMul, Int.reduceNeg, Int.cast_ofNat_Int, false_and, and_false]
  refine S_begin c sa st ?_
  intro h' f eN eS m' sx
  have r8 : hR h' 200 8 = se := sx.2.1.1
  simp only [psh_none, rX11_ready_41, rX11_ready_42, rX11_ready_45, Cs_K200 m', Cs_R200_0 m', Cs_R200_1 m', Cs_R200_2 m', Cs_R200_3 m', Cs_R200_4 m', Cs_R200_5 m', Cs_R200_6 m', Cs_K201 m', Cs_R201_0 m', Cs_R201_1 m', Cs_K202 m', Cs_K203 m', Cs_K211 m', Cs_R211_0 m', Cs_R211_1 m', Cs_K212 m', Cs_K213 m', Cs_K214 m', Cs_R214_0 m', Cs_R214_1 m', Cs_K215 m', Cs_K216 m', Cs_K217 m', Cs_R217_0 m', Cs_R217_1 m', Cs_K218 m', Cs_K219 m', Cs_K220 m', Cs_R220_0 m', Cs_K221 m', Cs_K262 m', Cs_K271 m', Cs_R271_0 m', Cs_R271_1 m', Cs_K272 m', Cs_K276 m', Cs_R272_0 m', Cs_R276_0 m', Cs_K273 m', Cs_R273_0 m', Cs_R273_1 m', Cs_K274 m', Cs_K275 m', Cs_K277 m', Cs_R277_0 m', Cs_R277_1 m', Cs_K278 m', Cs_K279 m', Cs_R262_0 m', Cs_K263 m', Cs_R263_0 m', Cs_K264 m', Cs_R262_1 m', Cs_K265 m', Cs_R265_0 m', Cs_K266 m', Cs_R262_2 m', Cs_K267 m', Cs_R267_0 m', Cs_K268 m', Cs_R262_3 m', Cs_K269 m', Cs_R269_0 m', Cs_K270 m', r8, Int.toNat_natCast, Int.natCast_nonneg, true_and, and_true, and_self, if_true, if_false, or_true, true_or, or_false, false_or, ne_eq, not_true_eq_false, not_false_eq_true, Nat.reduceLeDiff, Nat.reduceEqDiff, Nat.reduceLT, Nat.reduceAdd, Nat.reduceMul, Nat.reduceSub, Int.reduceLT, Int.reduceLE, Int.reduceEq, Int.reduceToNat, Int.reduceAdd, Int.reduceSub, Int.reduceMul, Int.reduceNeg, Int.cast_ofNat_Int, false_and, and_false]
  have hs : ∀ a, seS se a → (201 ≤ a ∧ a < 294) ∨ 314 ≤ a := fun a q => Or.inr (Nat.le_trans b.1 q.1)
  have x' : CRep h' σ := x.sr f (by rw [hse]; exact h8) (fun a q => Or.inr (by rw [hse]; exact q)) m' (by rw [hse]; exact sx.ok)
  have cf : Cfr h h' := Cfr.sr f n hs eN eS
  have r : ∀ k, hR h' 200 k = hR h 200 k := fun k => f.R (by omega) (fun q => by have := q.1; omega) k
  refine k h' se x' cf ?_ ?_ sx
  · unfold Phn; rw [r, r, r, eN]; exact Nat.le_refl _
  · unfold Phs; rw [r, r, r, eS]; exact Nat.le_refl _
set_option maxHeartbeats 1000000 in
theorem S_ready {d : Nat} {Q : Option PV → Hp → Prop} {h : Hp} {σ : AS} (x : CRep h σ) (w : WF σ)
    (k : ∀ h' se, CRep h' σ → Cfr h h' → Phn h' ≤ Phn h → Phs h' ≤ Phs h → Sx h' se (sA σ) (stA (sA σ)) → Q (some (.inr (.inr se))) h') :
    WP (d + 3) mX11_ready 0 [some (.inr (.inr 200))] [] h Q := by
  have m := x.1.1
  have b := x.2.1
  by_cases h8 : hR h 200 8 = 0
  · obtain ⟨⟨_, n, ⟨p1, p2⟩, s1, _⟩, _⟩ := id x
    have h9 : hR h 200 9 = 0 := by have := b.2.1; omega
    have h10 : hR h 200 10 = 0 := by have := b.2.2; omega
    simp only [rX11_ready_0, rX11_ready_1, rX11_ready_4, rX11_ready_7, rX11_ready_8, rX11_ready_11, rX11_ready_12, rX11_ready_13, rX11_ready_16, rX11_ready_17, rX11_ready_20, hN_wI, hN_wJ, hN_wR, hS_wI, hS_wJ, hS_wR, hK_wI, hK_wJ, hK_wR, hI_wI, hI_wJ, hI_wR, hJ_wI, hJ_wJ, hJ_wR, hR_wI, hR_wJ, hR_wR, hN_nw, hS_nw, hK_nw, hI_nw, hJ_nw, hR_nw, psh_some, psh_none, Cs_K200 m, Cs_R200_0 m, Cs_R200_1 m, Cs_R200_2 m, Cs_R200_3 m, Cs_R200_4 m, Cs_R200_5 m, Cs_R200_6 m, Cs_K201 m, Cs_R201_0 m, Cs_R201_1 m, Cs_K202 m, Cs_K203 m, Cs_K211 m, Cs_R211_0 m, Cs_R211_1 m, Cs_K212 m, Cs_K213 m, Cs_K214 m, Cs_R214_0 m, Cs_R214_1 m, Cs_K215 m, Cs_K216 m, Cs_K217 m, Cs_R217_0 m, Cs_R217_1 m, Cs_K218 m, Cs_K219 m, Cs_K220 m, Cs_R220_0 m, Cs_K221 m, Cs_K262 m, Cs_K271 m, Cs_R271_0 m, Cs_R271_1 m, Cs_K272 m, Cs_K276 m, Cs_R272_0 m, Cs_R276_0 m, Cs_K273 m, Cs_R273_0 m, Cs_R273_1 m, Cs_K274 m, Cs_K275 m, Cs_K277 m, Cs_R277_0 m, Cs_R277_1 m, Cs_K278 m, Cs_K279 m, Cs_R262_0 m, Cs_K263 m, Cs_R263_0 m, Cs_K264 m, Cs_R262_1 m, Cs_K265 m, Cs_R265_0 m, Cs_K266 m, Cs_R262_2 m, Cs_K267 m, Cs_R267_0 m, Cs_K268 m, Cs_R262_3 m, Cs_K269 m, Cs_R269_0 m, Cs_K270 m, h8, Int.toNat_natCast, Int.natCast_nonneg, true_and, and_true, and_self, if_true, if_false, or_true, true_or, or_false, false_or, ne_eq, not_true_eq_false, not_false_eq_true, Nat.reduceLeDiff, Nat.reduceEqDiff, Nat.reduceLT, Nat.reduceAdd, Nat.reduceMul, Nat.reduceSub, Int.reduceLT, Int.reduceLE, Int.reduceEq, Int.reduceToNat, Int.reduceAdd, Int.reduceSub, Int.reduceMul, Int.reduceNeg, Int.cast_ofNat_Int, false_and, and_false]
    rw [if_neg (by omega)]
    have d2 : ¬ (200 = 200 + hN h) := by omega
    simp only [d2, ge2', Int.toNat_natCast, Int.natCast_nonneg, true_and, and_true, and_self, if_true, if_false, or_true, true_or, or_false, false_or, ne_eq, not_true_eq_false, not_false_eq_true, Nat.reduceLeDiff, Nat.reduceEqDiff, Nat.reduceLT, Nat.reduceAdd, Nat.reduceMul, Nat.reduceSub, Int.reduceLT, Int.reduceLE, Int.reduceEq, Int.reduceToNat, Int.reduceAdd, Int.reduceSub, Int.reduceMul, Int.reduceNeg, Int.cast_ofNat_Int, false_and, and_false, Cs_K200 m, Cs_R200_0 m, Cs_R200_1 m, Cs_R200_2 m, Cs_R200_3 m, Cs_R200_4 m, Cs_R200_5 m, Cs_R200_6 m, Cs_K201 m, Cs_R201_0 m, Cs_R201_1 m, Cs_K202 m, Cs_K203 m, Cs_K211 m, Cs_R211_0 m, Cs_R211_1 m, Cs_K212 m, Cs_K213 m, Cs_K214 m, Cs_R214_0 m, Cs_R214_1 m, Cs_K215 m, Cs_K216 m, Cs_K217 m, Cs_R217_0 m, Cs_R217_1 m, Cs_K218 m, Cs_K219 m, Cs_K220 m, Cs_R220_0 m, Cs_K221 m, Cs_K262 m, Cs_K271 m, Cs_R271_0 m, Cs_R271_1 m, Cs_K272 m, Cs_K276 m, Cs_R272_0 m, Cs_R276_0 m, Cs_K273 m, Cs_R273_0 m, Cs_R273_1 m, Cs_K274 m, Cs_K275 m, Cs_K277 m, Cs_R277_0 m, Cs_R277_1 m, Cs_K278 m, Cs_K279 m, Cs_R262_0 m, Cs_K263 m, Cs_R263_0 m, Cs_K264 m, Cs_R262_1 m, Cs_K265 m, Cs_R265_0 m, Cs_K266 m, Cs_R262_2 m, Cs_K267 m, Cs_R267_0 m, Cs_K268 m, Cs_R262_3 m, Cs_K269 m, Cs_R269_0 m, Cs_K270 m]
    refine S_newSearch rfl ?_
    intro h1 f1 eN eS sh r10 e11 ag bh pl fr
    have K2 : hK h1 200 = (11, 0) := by rw [f1.K (by omega) (fun q => q)]; exact Cs_K200 m
    simp only [psh_none, rX11_ready_23, K2, Int.toNat_natCast, Int.natCast_nonneg, true_and, and_true, and_self, if_true, if_false, or_true, true_or, or_false, false_or, ne_eq, not_true_eq_false, not_false_eq_true, Nat.reduceLeDiff, Nat.reduceEqDiff, Nat.reduceLT, Nat.reduceAdd, Nat.reduceMul, Nat.reduceSub, Int.reduceLT, Int.reduceLE, Int.reduceEq, Int.reduceToNat, Int.reduceAdd, Int.reduceSub, Int.reduceMul, Int.reduceNeg, Int.cast_ofNat_Int, false_and, and_false]
    generalize hse : 200 + hN h = se at sh r10 e11 ag bh pl fr
    have h3 : 314 ≤ se := by omega
    have f2 : Fa (fun a => a = 200) h (wR h1 200 8 se) := (f1.mono (S' := fun a => a = 200) (fun a q => q.elim)).wR rfl _ _
    have r1 : ∀ k, k ≠ 8 → hR (wR h1 200 8 se) 200 k = hR h 200 k := fun k hk => by rw [hR_wR, if_neg (fun q => hk q.2), f1.R (by omega) (fun q => q)]
    have r8 : hR (wR h1 200 8 se) 200 8 = se := by rw [hR_wR, if_pos ⟨rfl, rfl⟩]
    have ra : ∀ a k, a ≠ 200 → hR (wR h1 200 8 se) a k = hR h1 a k := fun a k ha => by rw [hR_wR, if_neg (fun q => ha q.1)]
    have m2 : CsOk (wR h1 200 8 se) := CsOk.fl f2 n m (by rw [hK_wR, K2, Cs_K200 m]) (fun k hk => r1 k (by omega))
    have dy : ∀ a, Dy (wR h1 200 8 se) a → 200 + hN h ≤ a ∨ Dy h a := fun a q => by
      unfold Dy at q
      rw [r8, r1 9 (by decide), r1 10 (by decide), h9, h10] at q
      left
      omega
    have cb : CBase (wR h1 200 8 se) σ := x.1.nw f2 m2 (r1 7 (by decide)) dy
    have sh2 : Shp (wR h1 200 8 se) se := by
      have e : ∀ j k, hR (wR h1 200 8 se) (se + j) k = hR h1 (se + j) k := fun j k => ra _ k (by omega)
      have e0 : ∀ k, hR (wR h1 200 8 se) se k = hR h1 se k := fun k => ra _ k (by omega)
      unfold Shp at sh ⊢
      simp only [hK_wR, e0, e 1]
      exact sh
    have pin := cb.2.2.1
    have r7 : hR (wR h1 200 8 se) se 10 = hR (wR h1 200 8 se) 200 7 := by rw [ra _ _ (by omega), r10, r1 7 (by decide)]
    have so : SrOk (wR h1 200 8 se) se := by
      refine ⟨sh2, sA σ, fun _ => 0, ⟨w.1, stOk0, by rw [r7]; exact pin, ⟨?_, ?_, fun g hg => ⟨?_, ?_⟩⟩, fun g hg => ?_, fun g s hg hs => ?_, fun s hs => ?_⟩, Or.inl e11⟩
      · exact fr 1 2 (by decide) (by decide)
      · exact fr 1 3 (by decide) (by decide)
      · exact fr 2 g (by decide) (by decide)
      · exact fr 3 g (by decide) (by decide)
      · rw [hI_wR, ag g hg]; exact ⟨by decide, by decide⟩
      · rw [hI_wR, hI_wR, bh, ag g hg]; exact ⟨by decide, by decide, fun _ q => absurd q (by decide)⟩
      · rw [hI_wR, pl]; exact Int.le_refl _
    have x2 : CRep (wR h1 200 8 se) σ := by
      refine ⟨cb, ?_, fun _ => by rw [r8]; exact so, fun q => absurd (by rw [r1 9 (by decide)]; exact h9) q, fun q => absurd (by rw [r1 10 (by decide)]; exact h10) q⟩
      unfold Blk
      rw [r8, r1 9 (by decide), r1 10 (by decide), h9, h10, hN_wR, eN]
      exact ⟨Or.inr ⟨h3, by omega⟩, Or.inl rfl, Or.inl rfl⟩
    have c2 : Cfr h (wR h1 200 8 se) ∧ Phn (wR h1 200 8 se) ≤ Phn h ∧ Phs (wR h1 200 8 se) ≤ Phs h := by
      have a1 : Phn (wR h1 200 8 se) ≤ Phn h := by
        unfold Phn; rw [r8, r1 9 (by decide), r1 10 (by decide), h8, h9, h10, hN_wR, eN, if_neg (by omega), if_pos rfl, if_pos rfl, if_pos rfl]; omega
      have a2 : Phs (wR h1 200 8 se) ≤ Phs h := by
        unfold Phs; rw [r8, r1 9 (by decide), r1 10 (by decide), h8, h9, h10, hS_wR, if_neg (by omega), if_pos rfl, if_pos rfl, if_pos rfl]; omega
      exact ⟨⟨fun a ha => f2.2 a (by omega) (by omega), f2.1, by omega, by omega⟩, a1, a2⟩
    refine S_readyOld x2 w (by rw [r8]; omega) ?_
    intro h' se' x' cf pn ps sx
    exact k h' se' x' (c2.1.trans0 cf c2.2.1 c2.2.2) (by omega) (by omega) sx
  · simp only [rX11_ready_0, rX11_ready_1, rX11_ready_4, Cs_K200 m, Cs_R200_0 m, Cs_R200_1 m, Cs_R200_2 m, Cs_R200_3 m, Cs_R200_4 m, Cs_R200_5 m, Cs_R200_6 m, Cs_K201 m, Cs_R201_0 m, Cs_R201_1 m, Cs_K202 m, Cs_K203 m, Cs_K211 m, Cs_R211_0 m, Cs_R211_1 m, Cs_K212 m, Cs_K213 m, Cs_K214 m, Cs_R214_0 m, Cs_R214_1 m, Cs_K215 m, Cs_K216 m, Cs_K217 m, Cs_R217_0 m, Cs_R217_1 m, Cs_K218 m, Cs_K219 m, Cs_K220 m, Cs_R220_0 m, Cs_K221 m, Cs_K262 m, Cs_K271 m, Cs_R271_0 m, Cs_R271_1 m, Cs_K272 m, Cs_K276 m, Cs_R272_0 m, Cs_R276_0 m, Cs_K273 m, Cs_R273_0 m, Cs_R273_1 m, Cs_K274 m, Cs_K275 m, Cs_K277 m, Cs_R277_0 m, Cs_R277_1 m, Cs_K278 m, Cs_K279 m, Cs_R262_0 m, Cs_K263 m, Cs_R263_0 m, Cs_K264 m, Cs_R262_1 m, Cs_K265 m, Cs_R265_0 m, Cs_K266 m, Cs_R262_2 m, Cs_K267 m, Cs_R267_0 m, Cs_K268 m, Cs_R262_3 m, Cs_K269 m, Cs_R269_0 m, Cs_K270 m, Int.toNat_natCast, Int.natCast_nonneg, true_and, and_true, and_self, if_true, if_false, or_true, true_or, or_false, false_or, ne_eq, not_true_eq_false, not_false_eq_true, Nat.reduceLeDiff, Nat.reduceEqDiff, Nat.reduceLT, Nat.reduceAdd, Nat.reduceMul, Nat.reduceSub, Int.reduceLT, Int.reduceLE, Int.reduceEq, Int.reduceToNat, Int.reduceAdd, Int.reduceSub, Int.reduceMul, Int.reduceNeg, Int.cast_ofNat_Int, false_and, and_false]
    have ge : hR h 200 8 = 0 ∨ 200 ≤ hR h 200 8 := by have := b.1; omega
    refine ⟨ge, ?_⟩
    rw [if_neg h8]
    exact S_readyOld x w h8 k
/-- all that a set of goers can bring about has been found -/
theorem S_explored {d : Nat} {Q : Option PV → Hp → Prop} {h : Hp} {σ : AS} (x : CRep h σ) (w : WF σ) {set : Nat} (hset : set < 2 ^ (sA σ 2).toNat)
    (k : ∀ h' se, CRep h' σ → Cfr h h' → Phn h' ≤ Phn h → Phs h' ≤ Phs h → Sx h' se (sA σ) (stA (sA σ)) → SrX h' se (sA σ) (stA (sA σ)) set → Q (some (.inr (.inr se))) h') :
    WP (d + 6) mX11_explored 0 [some (.inr (.inr 200)), some (.inl (set : Int)), none] [] h Q := by
  have m := x.1.1
  simp only [rX11_explored_0, rX11_explored_1, Cs_K200 m, Cs_R200_0 m, Cs_R200_1 m, Cs_R200_2 m, Cs_R200_3 m, Cs_R200_4 m, Cs_R200_5 m, Cs_R200_6 m, Cs_K201 m, Cs_R201_0 m, Cs_R201_1 m, Cs_K202 m, Cs_K203 m, Cs_K211 m, Cs_R211_0 m, Cs_R211_1 m, Cs_K212 m, Cs_K213 m, Cs_K214 m, Cs_R214_0 m, Cs_R214_1 m, Cs_K215 m, Cs_K216 m, Cs_K217 m, Cs_R217_0 m, Cs_R217_1 m, Cs_K218 m, Cs_K219 m, Cs_K220 m, Cs_R220_0 m, Cs_K221 m, Cs_K262 m, Cs_K271 m, Cs_R271_0 m, Cs_R271_1 m, Cs_K272 m, Cs_K276 m, Cs_R272_0 m, Cs_R276_0 m, Cs_K273 m, Cs_R273_0 m, Cs_R273_1 m, Cs_K274 m, Cs_K275 m, Cs_K277 m, Cs_R277_0 m, Cs_R277_1 m, Cs_K278 m, Cs_K279 m, Cs_R262_0 m, Cs_K263 m, Cs_R263_0 m, Cs_K264 m, Cs_R262_1 m, Cs_K265 m, Cs_R265_0 m, Cs_K266 m, Cs_R262_2 m, Cs_K267 m, Cs_R267_0 m, Cs_K268 m, Cs_R262_3 m, Cs_K269 m, Cs_R269_0 m, Cs_K270 m, Int.toNat_natCast, Int.natCast_nonneg, true_and, and_true, and_self, if_true, if_false, or_true, true_or, or_false, false_or, ne_eq, not_true_eq_false, not_false_eq_true, Nat.reduceLeDiff, Nat.reduceEqDiff, Nat.reduceLT, Nat.reduceAdd, Nat.reduceMul, Nat.reduceSub, Int.reduceLT, Int.reduceLE, Int.reduceEq, Int.reduceToNat, Int.reduceAdd, Int.reduceSub, Int.reduceMul, Int.reduceNeg, Int.cast_ofNat_Int, false_and, and_false]
  refine S_ready (d := d + 2) x w ?_
  intro h1 se x1 c1 pn ps sx
  have K0 := sx.2.2.1.1
  simp only [psh_some, rX11_explored_4, rX11_explored_5, rX11_explored_6, rX11_explored_7, K0, Int.toNat_natCast, Int.natCast_nonneg, true_and, and_true, and_self, if_true, if_false, or_true, true_or, or_false, false_or, ne_eq, not_true_eq_false, not_false_eq_true, Nat.reduceLeDiff, Nat.reduceEqDiff, Nat.reduceLT, Nat.reduceAdd, Nat.reduceMul, Nat.reduceSub, Int.reduceLT, Int.reduceLE, Int.reduceEq, Int.reduceToNat, Int.reduceAdd, Int.reduceSub, Int.reduceMul, Int.reduceNeg, Int.cast_ofNat_Int, false_and, and_false]
  refine S_explore sx hset ?_
  intro h2 f2 sx2 srx
  simp only [psh_none, rX11_explored_10, rX11_explored_11]
  have h8 : hR h1 200 8 = se := sx.2.1.1
  have h3 := sx.2.1.2.1
  have fa := f2.fa (S := fun a => (211 ≤ a ∧ a ≤ 213) ∨ seS se a) (fun a k q => by unfold exP at q; unfold seS; omega)
  have x2 : CRep h2 σ := x1.sr fa (by rw [h8]; omega) (fun a q => by rw [h8]; exact q) (x1.1.1.fr f2) (by rw [h8]; exact sx2.ok)
  have c2 : Cfr h1 h2 := Cfr.of f2 (fun a k q => by unfold exP at q; unfold cfP; omega)
  have e1 : Phn h2 = Phn h1 := by unfold Phn; rw [f2.R, f2.R, f2.R, f2.N]
  have e2 : Phs h2 = Phs h1 := by unfold Phs; rw [f2.R, f2.R, f2.R, f2.S]
  exact k h2 se x2 (c1.trans0 c2 pn ps) (by omega) (by omega) sx2 srx
