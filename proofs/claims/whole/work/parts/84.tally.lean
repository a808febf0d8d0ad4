/-! the tally is there; the game is there -/
theorem TlOk.cg {h h' : Hp} {ta se : Nat} (eK : ∀ a, ta ≤ a → a ≤ ta + 6 → hK h' a = hK h a) (eR : ∀ k, hR h' ta k = hR h ta k) (x : TlOk h ta se) : TlOk h' ta se := by
  unfold TlOk at x ⊢
  rw [eK ta (by omega) (by omega), eK (ta + 1) (by omega) (by omega), eK (ta + 2) (by omega) (by omega), eK (ta + 3) (by omega) (by omega), eK (ta + 4) (by omega) (by omega), eK (ta + 5) (by omega) (by omega), eK (ta + 6) (by omega) (by omega)]
  simp only [eR]
  exact x
theorem GmOk.cg {h h' : Hp} {ta se : Nat} (eK : ∀ a, ta ≤ a → a ≤ ta + 5 → hK h' a = hK h a) (eR : ∀ k, hR h' ta k = hR h ta k) (x : GmOk h ta se) : GmOk h' ta se := by
  unfold GmOk at x ⊢
  rw [eK ta (by omega) (by omega), eK (ta + 1) (by omega) (by omega), eK (ta + 2) (by omega) (by omega), eK (ta + 3) (by omega) (by omega), eK (ta + 4) (by omega) (by omega), eK (ta + 5) (by omega) (by omega)]
  simp only [eR]
  exact x
theorem CRep.mkT {h h1 : Hp} {σ : AS} (x : CRep h σ) (h8 : hR h 200 8 ≠ 0) (h9 : hR h 200 9 = 0) (f1 : Fa (fun _ => False) h h1) (eN : hN h1 = hN h + 7) (eS : hS h1 ≤ hS h + 26000) (tl : TlOk h1 (200 + hN h) (hR h 200 8)) : CRep (wR h1 200 9 (200 + hN h)) σ ∧ Cf0 h (wR h1 200 9 (200 + hN h)) ∧ TlOk (wR h1 200 9 (200 + hN h)) (200 + hN h) (hR h 200 8) ∧ (∀ k, k ≠ 9 → hR (wR h1 200 9 (200 + hN h)) 200 k = hR h 200 k) ∧ Fa (fun a => a = 200) h (wR h1 200 9 (200 + hN h)) := by
  have m := x.1.1
  have n := x.1.2.1
  have b := x.2.1
  have f2 : Fa (fun a => a = 200) h (wR h1 200 9 (200 + hN h)) := (f1.mono (S' := fun a => a = 200) (fun a q => q.elim)).wR rfl _ _
  have r1 : ∀ k, k ≠ 9 → hR (wR h1 200 9 (200 + hN h)) 200 k = hR h 200 k := fun k hk => by rw [hR_wR, if_neg (fun q => hk q.2), f1.R (by omega) (fun q => q)]
  have r9 : hR (wR h1 200 9 (200 + hN h)) 200 9 = 200 + hN h := by rw [hR_wR, if_pos ⟨rfl, rfl⟩]
  have K2 : hK h1 200 = (11, 0) := by rw [f1.K (by omega) (fun q => q)]; exact Cs_K200 m
  have m2 : CsOk (wR h1 200 9 (200 + hN h)) := CsOk.fl f2 n m (by rw [hK_wR, K2, Cs_K200 m]) (fun k hk => r1 k (by omega))
  have dy : ∀ a, Dy (wR h1 200 9 (200 + hN h)) a → 200 + hN h ≤ a ∨ Dy h a := fun a q => by
    unfold Dy at q ⊢
    rw [r9, r1 8 (by decide), r1 10 (by decide)] at q
    omega
  have tl2 : TlOk (wR h1 200 9 (200 + hN h)) (200 + hN h) (hR h 200 8) := tl.cg (fun a _ _ => hK_wR _ _ _ _ _) (fun k => by rw [hR_wR, if_neg (by omega)])
  have b1 := b.1.resolve_left h8
  have cb : CBase (wR h1 200 9 (200 + hN h)) σ := x.1.nw f2 m2 (r1 7 (by decide)) dy
  refine ⟨⟨cb, ?_, ?_, ?_, ?_⟩, ⟨⟨fun a ha => f2.2 a (by omega) (by omega), f2.1, ?_, ?_⟩, ?_, ?_⟩, tl2, r1, f2⟩
  · unfold Blk at b ⊢
    rw [r9, r1 8 (by decide), r1 10 (by decide), hN_wR, eN]
    omega
  · rw [r1 8 (by decide)]
    intro _
    refine (x.2.2.1 h8).gen f2 b1.2 (fun a h1 h2 q => by omega) (fun p hp => ?_)
    have ns : ∀ a, PlCell h p a → ¬ (a = 200) := fun a ha q => by have := (hp.2 a ha).2.1; omega
    exact ⟨ns, hp.dy f2 dy (ns p (Or.inl ⟨Nat.le_refl _, by omega⟩))⟩
  · rw [r9, r1 8 (by decide)]; exact fun _ => tl2
  · rw [r1 10 (by decide), r1 8 (by decide)]
    intro h10
    have b3 := b.2.2.resolve_left h10
    exact (x.2.2.2.2 h10).cg (fun a h1 h2 => f2.K (by omega) (by omega)) (fun k => f2.R (by omega) (by omega) k)
  · unfold Phn; rw [r9, r1 8 (by decide), r1 10 (by decide), h9, hN_wR, eN, if_neg (show ¬ (200 + hN h = 0) by omega), if_pos rfl]; omega
  · unfold Phs; rw [r9, r1 8 (by decide), r1 10 (by decide), h9, hS_wR, if_neg (show ¬ (200 + hN h = 0) by omega), if_pos rfl]; omega
  · unfold Phn; rw [r9, r1 8 (by decide), r1 10 (by decide), h9, hN_wR, eN, if_neg (show ¬ (200 + hN h = 0) by omega), if_pos rfl]; omega
  · unfold Phs; rw [r9, r1 8 (by decide), r1 10 (by decide), h9, hS_wR, if_neg (show ¬ (200 + hN h = 0) by omega), if_pos rfl]; omega
theorem CRep.mkG {h h1 : Hp} {σ : AS} (x : CRep h σ) (h8 : hR h 200 8 ≠ 0) (h9 : hR h 200 10 = 0) (f1 : Fa (fun _ => False) h h1) (eN : hN h1 = hN h + 6) (eS : hS h1 ≤ hS h + 84000) (tl : GmOk h1 (200 + hN h) (hR h 200 8)) : CRep (wR h1 200 10 (200 + hN h)) σ ∧ Cf0 h (wR h1 200 10 (200 + hN h)) ∧ GmOk (wR h1 200 10 (200 + hN h)) (200 + hN h) (hR h 200 8) ∧ (∀ k, k ≠ 10 → hR (wR h1 200 10 (200 + hN h)) 200 k = hR h 200 k) ∧ Fa (fun a => a = 200) h (wR h1 200 10 (200 + hN h)) := by
  have m := x.1.1
  have n := x.1.2.1
  have b := x.2.1
  have f2 : Fa (fun a => a = 200) h (wR h1 200 10 (200 + hN h)) := (f1.mono (S' := fun a => a = 200) (fun a q => q.elim)).wR rfl _ _
  have r1 : ∀ k, k ≠ 10 → hR (wR h1 200 10 (200 + hN h)) 200 k = hR h 200 k := fun k hk => by rw [hR_wR, if_neg (fun q => hk q.2), f1.R (by omega) (fun q => q)]
  have r9 : hR (wR h1 200 10 (200 + hN h)) 200 10 = 200 + hN h := by rw [hR_wR, if_pos ⟨rfl, rfl⟩]
  have K2 : hK h1 200 = (11, 0) := by rw [f1.K (by omega) (fun q => q)]; exact Cs_K200 m
  have m2 : CsOk (wR h1 200 10 (200 + hN h)) := CsOk.fl f2 n m (by rw [hK_wR, K2, Cs_K200 m]) (fun k hk => r1 k (by omega))
  have dy : ∀ a, Dy (wR h1 200 10 (200 + hN h)) a → 200 + hN h ≤ a ∨ Dy h a := fun a q => by
    unfold Dy at q ⊢
    rw [r9, r1 8 (by decide), r1 9 (by decide)] at q
    omega
  have tl2 : GmOk (wR h1 200 10 (200 + hN h)) (200 + hN h) (hR h 200 8) := tl.cg (fun a _ _ => hK_wR _ _ _ _ _) (fun k => by rw [hR_wR, if_neg (by omega)])
  have b1 := b.1.resolve_left h8
  have cb : CBase (wR h1 200 10 (200 + hN h)) σ := x.1.nw f2 m2 (r1 7 (by decide)) dy
  refine ⟨⟨cb, ?_, ?_, ?_, ?_⟩, ⟨⟨fun a ha => f2.2 a (by omega) (by omega), f2.1, ?_, ?_⟩, ?_, ?_⟩, tl2, r1, f2⟩
  · unfold Blk at b ⊢
    rw [r9, r1 8 (by decide), r1 9 (by decide), hN_wR, eN]
    omega
  · rw [r1 8 (by decide)]
    intro _
    refine (x.2.2.1 h8).gen f2 b1.2 (fun a h1 h2 q => by omega) (fun p hp => ?_)
    have ns : ∀ a, PlCell h p a → ¬ (a = 200) := fun a ha q => by have := (hp.2 a ha).2.1; omega
    exact ⟨ns, hp.dy f2 dy (ns p (Or.inl ⟨Nat.le_refl _, by omega⟩))⟩
  · rw [r1 9 (by decide), r1 8 (by decide)]
    intro h10
    have b3 := b.2.1.resolve_left h10
    exact (x.2.2.2.1 h10).cg (fun a h1 h2 => f2.K (by omega) (by omega)) (fun k => f2.R (by omega) (by omega) k)
  · rw [r9, r1 8 (by decide)]; exact fun _ => tl2
  · unfold Phn; rw [r9, r1 8 (by decide), r1 9 (by decide), h9, hN_wR, eN, if_neg (show ¬ (200 + hN h = 0) by omega), if_pos rfl]; omega
  · unfold Phs; rw [r9, r1 8 (by decide), r1 9 (by decide), h9, hS_wR, if_neg (show ¬ (200 + hN h = 0) by omega), if_pos rfl]; omega
  · unfold Phn; rw [r9, r1 8 (by decide), r1 9 (by decide), h9, hN_wR, eN, if_neg (show ¬ (200 + hN h = 0) by omega), if_pos rfl]; omega
  · unfold Phs; rw [r9, r1 8 (by decide), r1 9 (by decide), h9, hS_wR, if_neg (show ¬ (200 + hN h = 0) by omega), if_pos rfl]; omega
theorem PR.fl {h h' : Hp} {se : Nat} {A : Nat → Int} {f : Nat → Nat → Nat} {set : Nat} {L : List Nat} (fr : Fa (fun a => a = 200) h h') (dy : ∀ a, Dy h' a → 200 + hN h ≤ a ∨ Dy h a) (x : PR h se A f set L) (h2 : ∀ pp, hR h se 10 = pp → pp ≠ 200 ∧ pp + 6 ≠ 200) : PR h' se A f set L := by
  obtain ⟨⟨x0, x0'⟩, x1, x2, x3, x4, x5, ⟨pp, p0, p1, p2, p3, p4, p5, p6, p7, p8, p9⟩, x7⟩ := x
  have ns : ∀ a, se ≤ a → a ≤ se + 11 → ¬ (a = 200) := fun a h1 h3 => by omega
  obtain ⟨np, np6⟩ := h2 pp p0
  have cI : ∀ a, se ≤ a → a ≤ se + 11 → ∀ k, hI h' a k = hI h a k := fun a h1 h3 => fr.I (by omega) (ns a h1 h3)
  have cK : ∀ a, se ≤ a → a ≤ se + 11 → hK h' a = hK h a := fun a h1 h3 => fr.K (by omega) (ns a h1 h3)
  have cR : ∀ a, se ≤ a → a ≤ se + 11 → ∀ k, hR h' a k = hR h a k := fun a h1 h3 => fr.R (by omega) (ns a h1 h3)
  have i0 := cI se (by omega) (by omega)
  have i4 := cI (se + 4) (by omega) (by omega)
  have i6 := cI (se + 6) (by omega) (by omega)
  have i7 := cI (se + 7) (by omega) (by omega)
  have r0 := cR se (by omega) (by omega)
  have r1 := cR (se + 1) (by omega) (by omega)
  refine ⟨⟨x0, by have := fr.1; omega⟩, ?_, by rw [i0]; exact x2, x3, fun p hp => by rw [i6]; exact x4 p hp, fun p g h1 h3 h4 => ?_, ⟨pp, by rw [r0]; exact p0, by have := fr.1; omega, fun q => (dy _ q).elim (fun z => by omega) p2, fun q => (dy _ q).elim (fun z => by omega) p3, p4, by rw [fr.K (by omega) np]; exact p5, by rw [fr.I (by omega) np]; exact p6, by rw [fr.R (by omega) np]; exact p7, by rw [fr.K (by omega) np6]; exact p8, fun g hg => by rw [fr.I (by omega) np6]; exact p9 g hg⟩, x7⟩
  · unfold Shp
    rw [cK se (by omega) (by omega), cK (se + 1) (by omega) (by omega), cK (se + 2) (by omega) (by omega), cK (se + 3) (by omega) (by omega), cK (se + 4) (by omega) (by omega), cK (se + 5) (by omega) (by omega), cK (se + 6) (by omega) (by omega), cK (se + 7) (by omega) (by omega), cK (se + 8) (by omega) (by omega), cK (se + 9) (by omega) (by omega), cK (se + 10) (by omega) (by omega), cK (se + 11) (by omega) (by omega)]
    simp only [r0, r1]
    exact x1
  · rw [i4, i7]
    exact x5 p g h1 h3 h4
/-- what a call that has the tally holds -/
def TH (h : Hp) (σ : AS) (ta se : Nat) (set : Nat) (L : List Nat) : Prop := CRep h σ ∧ hR h 200 8 = se ∧ hR h 200 9 = ta ∧ ta ≠ 0 ∧ se ≠ 0 ∧ TlOk h ta se ∧ PR h se (sA σ) (nxt (sA σ) (stA (sA σ))) set L
def GH (h : Hp) (σ : AS) (ga se : Nat) (set : Nat) (L : List Nat) : Prop := CRep h σ ∧ hR h 200 8 = se ∧ hR h 200 10 = ga ∧ ga ≠ 0 ∧ se ≠ 0 ∧ GmOk h ga se ∧ PR h se (sA σ) (nxt (sA σ) (stA (sA σ))) set L
theorem sx_pp {h : Hp} {se : Nat} {A F : Nat → Int} (sx : Sx h se A F) : ∀ pp, hR h se 10 = pp → pp ≠ 200 ∧ pp + 6 ≠ 200 := fun pp e => by
  have := sx.2.2.2.1.2.2.1.2.1
  omega
theorem dy9 {h h' : Hp} {M : Nat} (r9 : hR h' 200 9 = M) (r : ∀ k, k ≠ 9 → hR h' 200 k = hR h 200 k) : ∀ a, Dy h' a → M ≤ a ∨ Dy h a := fun a q => by
  unfold Dy at q ⊢
  rw [r9, r 8 (by decide), r 10 (by decide)] at q
  omega
theorem dy10 {h h' : Hp} {M : Nat} (r9 : hR h' 200 10 = M) (r : ∀ k, k ≠ 10 → hR h' 200 k = hR h 200 k) : ∀ a, Dy h' a → M ≤ a ∨ Dy h a := fun a q => by
  unfold Dy at q ⊢
  rw [r9, r 8 (by decide), r 9 (by decide)] at q
  omega
theorem CRep.ex {h1 h2 : Hp} {σ : AS} {se : Nat} (x1 : CRep h1 σ) (sx : Sx h1 se (sA σ) (stA (sA σ))) (f2 : Fp (exP se) h1 h2) (sx2 : Sx h2 se (sA σ) (stA (sA σ))) : CRep h2 σ ∧ Cf0 h1 h2 := x1.cn sx (f2.mono (fun a k q => Or.inl q)) sx2
set_option maxHeartbeats 1000000 in
theorem S_tally {d : Nat} {Q : Option PV → Hp → Prop} {h : Hp} {σ : AS} (x : CRep h σ) (w : WF σ)
    (k : ∀ h' ta se, TH h' σ ta se (2 ^ (sA σ 2).toNat - 1) (Lst (sA σ) (stA (sA σ)) (2 ^ (sA σ 2).toNat - 1)) → Cf0 h h' → Q (some (.inr (.inr ta))) h') :
    WP (d + 6) mX11_tallyOfAll 0 [some (.inr (.inr 200)), none] [] h Q := by
  have m := x.1.1
  have hset : 2 ^ (sA σ 2).toNat - 1 < 2 ^ (sA σ 2).toNat := by have := Nat.one_le_two_pow (n := (sA σ 2).toNat); omega
  simp only [rX11_tallyOfAll_0, rX11_tallyOfAll_1, Cs_K200 m, Cs_R200_0 m, Cs_R200_1 m, Cs_R200_2 m, Cs_R200_3 m, Cs_R200_4 m, Cs_R200_5 m, Cs_R200_6 m, Cs_K201 m, Cs_R201_0 m, Cs_R201_1 m, Cs_K202 m, Cs_K203 m, Cs_K211 m, Cs_R211_0 m, Cs_R211_1 m, Cs_K212 m, Cs_K213 m, Cs_K214 m, Cs_R214_0 m, Cs_R214_1 m, Cs_K215 m, Cs_K216 m, Cs_K217 m, Cs_R217_0 m, Cs_R217_1 m, Cs_K218 m, Cs_K219 m, Cs_K220 m, Cs_R220_0 m, Cs_K221 m, Cs_K262 m, Cs_K271 m, Cs_R271_0 m, Cs_R271_1 m, Cs_K272 m, Cs_K276 m, Cs_R272_0 m, Cs_R276_0 m, Cs_K273 m, Cs_R273_0 m, Cs_R273_1 m, Cs_K274 m, Cs_K275 m, Cs_K277 m, Cs_R277_0 m, Cs_R277_1 m, Cs_K278 m, Cs_K279 m, Cs_R262_0 m, Cs_K263 m, Cs_R263_0 m, Cs_K264 m, Cs_R262_1 m, Cs_K265 m, Cs_R265_0 m, Cs_K266 m, Cs_R262_2 m, Cs_K267 m, Cs_R267_0 m, Cs_K268 m, Cs_R262_3 m, Cs_K269 m, Cs_R269_0 m, Cs_K270 m, Int.toNat_natCast, Int.natCast_nonneg, true_and, and_true, and_self, if_true, if_false, or_true, true_or, or_false, false_or, ne_eq, not_true_eq_false, not_false_eq_true, Nat.reduceLeDiff, Nat.reduceEqDiff, Nat.reduceLT, Nat.reduceAdd, Nat.reduceMul, Nat.reduceSub, Int.reduceLT, Int.reduceLE, Int.reduceEq, Int.reduceToNat, Int.reduceAdd, Int.reduceSub, Int.reduceMul, Int.reduceNeg, Int.cast_ofNat_Int, false_and, and_false]
  refine S_ready (d := d + 2) x w ?_
  intro h1 se x1 c1 pn ps sx
  have m1 := x1.1.1
  simp only [psh_some, rX11_tallyOfAll_4, rX11_tallyOfAll_5, rX11_tallyOfAll_6, rX11_tallyOfAll_7, rX11_tallyOfAll_10, Cs_K200 m1, Cs_R200_0 m1, Cs_R200_1 m1, Cs_R200_2 m1, Cs_R200_3 m1, Cs_R200_4 m1, Cs_R200_5 m1, Cs_R200_6 m1, Cs_K201 m1, Cs_R201_0 m1, Cs_R201_1 m1, Cs_K202 m1, Cs_K203 m1, Cs_K211 m1, Cs_R211_0 m1, Cs_R211_1 m1, Cs_K212 m1, Cs_K213 m1, Cs_K214 m1, Cs_R214_0 m1, Cs_R214_1 m1, Cs_K215 m1, Cs_K216 m1, Cs_K217 m1, Cs_R217_0 m1, Cs_R217_1 m1, Cs_K218 m1, Cs_K219 m1, Cs_K220 m1, Cs_R220_0 m1, Cs_K221 m1, Cs_K262 m1, Cs_K271 m1, Cs_R271_0 m1, Cs_R271_1 m1, Cs_K272 m1, Cs_K276 m1, Cs_R272_0 m1, Cs_R276_0 m1, Cs_K273 m1, Cs_R273_0 m1, Cs_R273_1 m1, Cs_K274 m1, Cs_K275 m1, Cs_K277 m1, Cs_R277_0 m1, Cs_R277_1 m1, Cs_K278 m1, Cs_K279 m1, Cs_R262_0 m1, Cs_K263 m1, Cs_R263_0 m1, Cs_K264 m1, Cs_R262_1 m1, Cs_K265 m1, Cs_R265_0 m1, Cs_K266 m1, Cs_R262_2 m1, Cs_K267 m1, Cs_R267_0 m1, Cs_K268 m1, Cs_R262_3 m1, Cs_K269 m1, Cs_R269_0 m1, Cs_K270 m1, sx.2.2.1.1, S_cAll (x1.cp w), Int.toNat_natCast, Int.natCast_nonneg, true_and, and_true, and_self, if_true, if_false, or_true, true_or, or_false, false_or, ne_eq, not_true_eq_false, not_false_eq_true, Nat.reduceLeDiff, Nat.reduceEqDiff, Nat.reduceLT, Nat.reduceAdd, Nat.reduceMul, Nat.reduceSub, Int.reduceLT, Int.reduceLE, Int.reduceEq, Int.reduceToNat, Int.reduceAdd, Int.reduceSub, Int.reduceMul, Int.reduceNeg, Int.cast_ofNat_Int, false_and, and_false]
  refine S_explore sx hset ?_
  intro h2 f2 sx2 srx
  obtain ⟨x2, c2⟩ := x1.ex sx f2 sx2
  have m2 := x2.1.1
  have c12 : Cf0 h h2 := Cf0.trans ⟨c1, pn, ps⟩ c2
  have pr := PR.of x2 w sx2 srx
  have h8 : hR h2 200 8 = se := sx2.2.1.1
  have se3 := sx2.2.1.2.1
  have h80 : hR h2 200 8 ≠ 0 := by rw [h8]; omega
  have b9 : hR h2 200 9 = 0 ∨ 200 ≤ hR h2 200 9 := by have := x2.2.1.2.1; omega
  simp only [psh_none, rX11_tallyOfAll_13, rX11_tallyOfAll_14, rX11_tallyOfAll_17, Cs_K200 m2, Cs_R200_0 m2, Cs_R200_1 m2, Cs_R200_2 m2, Cs_R200_3 m2, Cs_R200_4 m2, Cs_R200_5 m2, Cs_R200_6 m2, Cs_K201 m2, Cs_R201_0 m2, Cs_R201_1 m2, Cs_K202 m2, Cs_K203 m2, Cs_K211 m2, Cs_R211_0 m2, Cs_R211_1 m2, Cs_K212 m2, Cs_K213 m2, Cs_K214 m2, Cs_R214_0 m2, Cs_R214_1 m2, Cs_K215 m2, Cs_K216 m2, Cs_K217 m2, Cs_R217_0 m2, Cs_R217_1 m2, Cs_K218 m2, Cs_K219 m2, Cs_K220 m2, Cs_R220_0 m2, Cs_K221 m2, Cs_K262 m2, Cs_K271 m2, Cs_R271_0 m2, Cs_R271_1 m2, Cs_K272 m2, Cs_K276 m2, Cs_R272_0 m2, Cs_R276_0 m2, Cs_K273 m2, Cs_R273_0 m2, Cs_R273_1 m2, Cs_K274 m2, Cs_K275 m2, Cs_K277 m2, Cs_R277_0 m2, Cs_R277_1 m2, Cs_K278 m2, Cs_K279 m2, Cs_R262_0 m2, Cs_K263 m2, Cs_R263_0 m2, Cs_K264 m2, Cs_R262_1 m2, Cs_K265 m2, Cs_R265_0 m2, Cs_K266 m2, Cs_R262_2 m2, Cs_K267 m2, Cs_R267_0 m2, Cs_K268 m2, Cs_R262_3 m2, Cs_K269 m2, Cs_R269_0 m2, Cs_K270 m2, Int.toNat_natCast, Int.natCast_nonneg, true_and, and_true, and_self, if_true, if_false, or_true, true_or, or_false, false_or, ne_eq, not_true_eq_false, not_false_eq_true, Nat.reduceLeDiff, Nat.reduceEqDiff, Nat.reduceLT, Nat.reduceAdd, Nat.reduceMul, Nat.reduceSub, Int.reduceLT, Int.reduceLE, Int.reduceEq, Int.reduceToNat, Int.reduceAdd, Int.reduceSub, Int.reduceMul, Int.reduceNeg, Int.cast_ofNat_Int, false_and, and_false]
  refine ⟨b9, ?_⟩
  by_cases h9 : hR h2 200 9 = 0
  · rw [if_pos h9]
    have n2 := x2.1.2.1
    have d2 : ¬ (200 = 200 + hN h2) := by omega
    simp only [rX11_tallyOfAll_20, rX11_tallyOfAll_21, rX11_tallyOfAll_24, rX11_tallyOfAll_25, rX11_tallyOfAll_26, hN_wI, hN_wJ, hN_wR, hS_wI, hS_wJ, hS_wR, hK_wI, hK_wJ, hK_wR, hI_wI, hI_wJ, hI_wR, hJ_wI, hJ_wJ, hJ_wR, hR_wI, hR_wJ, hR_wR, hN_nw, hS_nw, hK_nw, hI_nw, hJ_nw, hR_nw, psh_some, psh_none, Cs_K200 m2, Cs_R200_0 m2, Cs_R200_1 m2, Cs_R200_2 m2, Cs_R200_3 m2, Cs_R200_4 m2, Cs_R200_5 m2, Cs_R200_6 m2, Cs_K201 m2, Cs_R201_0 m2, Cs_R201_1 m2, Cs_K202 m2, Cs_K203 m2, Cs_K211 m2, Cs_R211_0 m2, Cs_R211_1 m2, Cs_K212 m2, Cs_K213 m2, Cs_K214 m2, Cs_R214_0 m2, Cs_R214_1 m2, Cs_K215 m2, Cs_K216 m2, Cs_K217 m2, Cs_R217_0 m2, Cs_R217_1 m2, Cs_K218 m2, Cs_K219 m2, Cs_K220 m2, Cs_R220_0 m2, Cs_K221 m2, Cs_K262 m2, Cs_K271 m2, Cs_R271_0 m2, Cs_R271_1 m2, Cs_K272 m2, Cs_K276 m2, Cs_R272_0 m2, Cs_R276_0 m2, Cs_K273 m2, Cs_R273_0 m2, Cs_R273_1 m2, Cs_K274 m2, Cs_K275 m2, Cs_K277 m2, Cs_R277_0 m2, Cs_R277_1 m2, Cs_K278 m2, Cs_K279 m2, Cs_R262_0 m2, Cs_K263 m2, Cs_R263_0 m2, Cs_K264 m2, Cs_R262_1 m2, Cs_K265 m2, Cs_R265_0 m2, Cs_K266 m2, Cs_R262_2 m2, Cs_K267 m2, Cs_R267_0 m2, Cs_K268 m2, Cs_R262_3 m2, Cs_K269 m2, Cs_R269_0 m2, Cs_K270 m2, d2, ge2', Int.toNat_natCast, Int.natCast_nonneg, true_and, and_true, and_self, if_true, if_false, or_true, true_or, or_false, false_or, ne_eq, not_true_eq_false, not_false_eq_true, Nat.reduceLeDiff, Nat.reduceEqDiff, Nat.reduceLT, Nat.reduceAdd, Nat.reduceMul, Nat.reduceSub, Int.reduceLT, Int.reduceLE, Int.reduceEq, Int.reduceToNat, Int.reduceAdd, Int.reduceSub, Int.reduceMul, Int.reduceNeg, Int.cast_ofNat_Int, false_and, and_false]
    refine S_newTally (d := d + 3) rfl ?_
    intro h3 f3 eN eS tl
    rw [← h8] at tl
    obtain ⟨x4, c4, tl4, r4, f4⟩ := x2.mkT h80 h9 f3 eN eS tl
    have K2 : hK h3 200 = (11, 0) := by rw [f3.K (by omega) (fun q => q)]; exact Cs_K200 m2
    have r9 : hR (wR h3 200 9 (200 + hN h2)) 200 9 = 200 + hN h2 := by rw [hR_wR, if_pos ⟨rfl, rfl⟩]
    have m4 := x4.1.1
    simp only [psh_none, rX11_tallyOfAll_29, K2, Int.toNat_natCast, Int.natCast_nonneg, true_and, and_true, and_self, if_true, if_false, or_true, true_or, or_false, false_or, ne_eq, not_true_eq_false, not_false_eq_true, Nat.reduceLeDiff, Nat.reduceEqDiff, Nat.reduceLT, Nat.reduceAdd, Nat.reduceMul, Nat.reduceSub, Int.reduceLT, Int.reduceLE, Int.reduceEq, Int.reduceToNat, Int.reduceAdd, Int.reduceSub, Int.reduceMul, Int.reduceNeg, Int.cast_ofNat_Int, false_and, and_false]
    simp only [rX11_tallyOfAll_32, rX11_tallyOfAll_33, rX11_tallyOfAll_36, Cs_K200 m4, r9, Int.toNat_natCast, Int.natCast_nonneg, true_and, and_true, and_self, if_true, if_false, or_true, true_or, or_false, false_or, ne_eq, not_true_eq_false, not_false_eq_true, Nat.reduceLeDiff, Nat.reduceEqDiff, Nat.reduceLT, Nat.reduceAdd, Nat.reduceMul, Nat.reduceSub, Int.reduceLT, Int.reduceLE, Int.reduceEq, Int.reduceToNat, Int.reduceAdd, Int.reduceSub, Int.reduceMul, Int.reduceNeg, Int.cast_ofNat_Int, false_and, and_false]
    refine k _ _ se ⟨x4, by rw [r4 8 (by decide)]; exact h8, r9, by omega, by omega, by rw [← h8]; exact tl4, pr.fl f4 (dy9 r9 r4) (sx_pp sx2)⟩ (c12.trans c4)
  · rw [if_neg h9]
    simp only [rX11_tallyOfAll_32, rX11_tallyOfAll_33, rX11_tallyOfAll_36, Cs_K200 m2, Cs_R200_0 m2, Cs_R200_1 m2, Cs_R200_2 m2, Cs_R200_3 m2, Cs_R200_4 m2, Cs_R200_5 m2, Cs_R200_6 m2, Cs_K201 m2, Cs_R201_0 m2, Cs_R201_1 m2, Cs_K202 m2, Cs_K203 m2, Cs_K211 m2, Cs_R211_0 m2, Cs_R211_1 m2, Cs_K212 m2, Cs_K213 m2, Cs_K214 m2, Cs_R214_0 m2, Cs_R214_1 m2, Cs_K215 m2, Cs_K216 m2, Cs_K217 m2, Cs_R217_0 m2, Cs_R217_1 m2, Cs_K218 m2, Cs_K219 m2, Cs_K220 m2, Cs_R220_0 m2, Cs_K221 m2, Cs_K262 m2, Cs_K271 m2, Cs_R271_0 m2, Cs_R271_1 m2, Cs_K272 m2, Cs_K276 m2, Cs_R272_0 m2, Cs_R276_0 m2, Cs_K273 m2, Cs_R273_0 m2, Cs_R273_1 m2, Cs_K274 m2, Cs_K275 m2, Cs_K277 m2, Cs_R277_0 m2, Cs_R277_1 m2, Cs_K278 m2, Cs_K279 m2, Cs_R262_0 m2, Cs_K263 m2, Cs_R263_0 m2, Cs_K264 m2, Cs_R262_1 m2, Cs_K265 m2, Cs_R265_0 m2, Cs_K266 m2, Cs_R262_2 m2, Cs_K267 m2, Cs_R267_0 m2, Cs_K268 m2, Cs_R262_3 m2, Cs_K269 m2, Cs_R269_0 m2, Cs_K270 m2, Int.toNat_natCast, Int.natCast_nonneg, true_and, and_true, and_self, if_true, if_false, or_true, true_or, or_false, false_or, ne_eq, not_true_eq_false, not_false_eq_true, Nat.reduceLeDiff, Nat.reduceEqDiff, Nat.reduceLT, Nat.reduceAdd, Nat.reduceMul, Nat.reduceSub, Int.reduceLT, Int.reduceLE, Int.reduceEq, Int.reduceToNat, Int.reduceAdd, Int.reduceSub, Int.reduceMul, Int.reduceNeg, Int.cast_ofNat_Int, false_and, and_false]
    exact k h2 _ se ⟨x2, h8, rfl, h9, by omega, by rw [← h8]; exact x2.2.2.2.1 h9, pr⟩ c12
