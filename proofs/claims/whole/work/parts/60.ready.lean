theorem Ob.fr {P : Nat → Nat → Prop} {h h' : Hp} {se : Nat} (f : Fp P h h') (hp : ∀ k, ¬ P (se + 4) k ∧ ¬ P (se + 5) k ∧ ¬ P (se + 7) k) (o : Ob h se) : Ob h' se := by
  obtain ⟨o1, o2, o3⟩ := o
  exact ⟨fun g hg => by rw [f.I (hp _).2.1]; exact o1 g hg, fun g s hg hs => by rw [f.I (hp _).1, f.I (hp _).2.1]; exact o2 g s hg hs, fun s hs => by rw [f.I (hp _).2.2]; exact o3 s hs⟩
/-- what the class holds where a search begins: its cells, the pool as it is, the stand as it is; the search for an older one -/
def BgC (h : Hp) (se p po' : Nat) (A B F F' : Nat → Int) : Prop := CsOk h ∧ SeAt h se ∧ Shp h se ∧ hR h 200 7 = p ∧ hR h se 10 = po' ∧ (PoolIs h p A ∧ PoolIn h p) ∧ poolOk A ∧ StIs h 214 F' ∧ stOk F' ∧ SrP h se B F
theorem BgC.fr {P : Nat → Nat → Prop} {h h' : Hp} {se p po' : Nat} {A B F F' : Nat → Int} (f : Fp P h h') (hp : ∀ a k, P a k → (se + 4 ≤ a ∧ a ≤ se + 11) ∨ a = se) (x : BgC h se p po' A B F F') : BgC h' se p po' A B F F' := by
  obtain ⟨m, at', sh, r7, r10, ⟨p1, p2⟩, pa, s1, so, sp⟩ := x
  have h3 := at'.2.1
  have hS : ∀ a k, P a k → srP se a k ∧ (a ≤ se ∨ se + 3 < a) := fun a k q => by have := hp a k q; unfold srP; omega
  have fa := f.fa (S := fun a => (se + 4 ≤ a ∧ a ≤ se + 11) ∨ a = se) hp
  have pc : ∀ a, PlCell h p a → a < 200 + hN h ∧ ¬ ((se + 4 ≤ a ∧ a ≤ se + 11) ∨ a = se) := fun a ha => by
    obtain ⟨y1, y2, y3⟩ := p2.2 a ha
    refine ⟨y1, fun q => y3 (Or.inl ⟨?_, ?_, ?_⟩)⟩
    · have := at'.1; omega
    · have := at'.1; omega
    · have := at'.1; omega
  have hn : 114 ≤ hN h := by have := at'.2.2; omega
  refine ⟨m.fr f, at'.fr f, sh.fr f, by rw [f.R]; exact r7, by rw [f.R]; exact r10, ⟨(p1.fa fa pc).1, p2.fa fa hn (by omega) (pc _ (Or.inl ⟨by omega, by omega⟩)).2⟩, pa, s1.fp f (fun a k h1 h2 q => by have := hp a k q; omega), so, sp.fr f at' hS⟩
theorem fg_se {se a k : Nat} (q : fgP se a k) : (se + 4 ≤ a ∧ a ≤ se + 11) ∨ a = se := by unfold fgP at q; omega
def flC (fl : Int) (h h0 : Hp) (se p po' : Nat) (F F' : Nat → Int) (i : Nat) : Prop := fl = 0 ∨ (fl = 1 ∧ h = h0 ∧ hI h0 se 11 ≠ -1 ∧ po' = p ∧ F 0 = F' 0 ∧ F 1 = F' 1 ∧ ∀ g, g < i → F (2 + g) = F' (2 + g) ∧ F (8 + g) = F' (8 + g))
set_option maxHeartbeats 1000000 in
theorem bg_loop {d : Nat} {Q : Option PV → Hp → Prop} {h0 : Hp} {se p po' : Nat} {A B F F' : Nat → Int} (c0 : BgC h0 se p po' A B F F') (hE : po' = p → pdE (pdA A) (pdA B) ∧ A 2 = B 2)
    (cont : ∀ h' fl, Fp (fgP se) h0 h' → Ob h' se → (∀ g : Nat, g < 6 → (g : Int) < A 2 → Vd h' se A F' g) → flC fl h' h0 se p po' F F' (A 2).toNat → WP (d + 2) mX7_begin 124 [some (.inr (.inr se)), some (.inr (.inr p)), some (.inr (.inr 214)), some (.inl fl), some (.inl (((A 2).toNat : Nat) : Int))] [] h' Q) :
    ∀ (n i : Nat) (h : Hp) (fl : Int), i + n = (A 2).toNat → Fp (fgP se) h0 h → Ob h se → (∀ g : Nat, g < i → Vd h se A F' g) → (po' = p → ∀ g : Nat, i ≤ g → g < 6 → (g : Int) < B 2 → Vd h se B F g) → flC fl h h0 se p po' F F' i → WP (d + 2) mX7_begin 53 [some (.inr (.inr se)), some (.inr (.inr p)), some (.inr (.inr 214)), some (.inl fl), some (.inl (i : Int))] [] h Q := by
  have g0 := c0.2.2.2.2.2.2.1.2.2.1
  have g6 := c0.2.2.2.2.2.2.1.2.2.2.1
  intro n
  induction n with
  | zero =>
    intro i h fl hi f o v v2 fc
    have e : (i : Int) = A 2 := by omega
    have e' : i = (A 2).toNat := by omega
    have e9 : A 2 = (((A 2).toNat : Nat) : Int) := by omega
    have z1 : ∀ g : Nat, (g : Int) < A 2 → g < (A 2).toNat := fun g hg => by omega
    obtain ⟨m, at', sh, r7, r10, ⟨p1, p2⟩, pa, s1, so, sp⟩ := c0.fr f (fun a k q => fg_se q)
    have kp := p1.1.2.1
    have gp := p1.2.1
    rw [rX7_begin_53]
    simp only [rX7_begin_55, rX7_begin_56, rX7_begin_59, kp, gp, e, Int.lt_irrefl, Int.toNat_natCast, Int.natCast_nonneg, true_and, and_true, and_self, if_true, if_false, or_true, true_or, or_false, false_or, ne_eq, not_true_eq_false, not_false_eq_true, Nat.reduceLeDiff, Nat.reduceEqDiff, Nat.reduceLT, Nat.reduceAdd, Nat.reduceMul, Nat.reduceSub, Int.reduceLT, Int.reduceLE, Int.reduceEq, Int.reduceToNat, Int.reduceAdd, Int.reduceSub, Int.reduceMul, Int.reduceNeg, Int.cast_ofNat_Int, false_and, and_false]
    rw [e'] at v fc
    rw [e9]
    exact cont h fl f o (fun g _ hg => v g (z1 g hg)) fc
  | succ n ih =>
    intro i h fl hi f o v v2 fc
    have l1 : (i : Int) < A 2 := by omega
    have l2 : (i : Int) < 6 := by omega
    have i6 : i < 6 := by omega
    have l3 : w32 ((i : Int) + 1) = ((i + 1 : Nat) : Int) := w32_s (by omega)
    have hn' : i + 1 + n = (A 2).toNat := by omega
    have q1 : ∀ g, g < i + 1 → g ≠ i → g < i := fun g h1 h2 => by omega
    have q2 : ∀ g, g < i + 1 → g < 6 := fun g h1 => by omega
    have q3 : ∀ g, i + 1 ≤ g → g ≠ i ∧ i ≤ g := fun g h1 => by omega
    obtain ⟨m, at', sh, r7, r10, ⟨p1, p2⟩, pa, s1, so, sp⟩ := id (c0.fr f (fun a k q => fg_se q))
    have kp := p1.1.2.1
    have gp := p1.2.1
    have h3 := at'.2.1
    have pg : 200 ≤ p := Nat.le_trans (by decide) (Nat.le_of_lt p1.1.1)
    have og : 200 ≤ po' := r10 ▸ Nat.le_trans (by decide) (Nat.le_of_lt sp.2.2.1.1.1.1)
    obtain ⟨K0, R0, R1, R2, R3, R4, R5, R6, R7, R8, R9, K1, r0, r1, K2, K3, K4, K5, K6, K7, K8, K9, K10, K11⟩ := id sh
    obtain ⟨t1, t2⟩ := sp.2.2.2.2.2 i i6
    obtain ⟨u1, u2⟩ := s1.2.2 i i6
    have t1' : hI h (se + 2) i = F (2 + i) := t1
    have t2' : hI h (se + 3) i = F (8 + i) := t2
    have u1' : hI h 215 i = F' (2 + i) := u1
    have u2' : hI h 216 i = F' (8 + i) := u2
    have gone : WP (d + 2) mX7_begin 110 [some (.inr (.inr se)), some (.inr (.inr p)), some (.inr (.inr 214)), some (.inl fl), some (.inl (i : Int))] [] h Q := by
      simp only [rX7_begin_110, rX7_begin_111, rX7_begin_113, K0, Int.toNat_natCast, Int.natCast_nonneg, true_and, and_true, and_self, if_true, if_false, or_true, true_or, or_false, false_or, ne_eq, not_true_eq_false, not_false_eq_true, Nat.reduceLeDiff, Nat.reduceEqDiff, Nat.reduceLT, Nat.reduceAdd, Nat.reduceMul, Nat.reduceSub, Int.reduceLT, Int.reduceLE, Int.reduceEq, Int.reduceToNat, Int.reduceAdd, Int.reduceSub, Int.reduceMul, Int.reduceNeg, Int.cast_ofNat_Int, false_and, and_false]
      refine S_forget sh h3 o.1 i6 ?_
      intro h1 f1 c1 c2
      obtain ⟨ob, w1, w2⟩ := forget_ob h3 i6 o f1 c1 c2
      simp only [psh_none, rX7_begin_116, rX7_begin_117, rX7_begin_118, rX7_begin_121, l3]
      refine ih (i + 1) h1 0 hn' (f.trans f1) ob (fun g hg => ?_) (fun hp g hg g6' hb => ?_) (Or.inl rfl)
      · by_cases he : g = i
        · rw [he]; exact w1 _ _
        · exact w2 _ _ g (q2 g hg) he (v g (q1 g hg he))
      · exact w2 _ _ g g6' (q3 g hg).1 (v2 hp g (q3 g hg).2 g6' hb)
    rw [rX7_begin_53]
    simp only [rX7_begin_55, rX7_begin_56, rX7_begin_59, rX7_begin_62, rX7_begin_63, rX7_begin_66, rX7_begin_67, kp, gp, l1, K0, r10, pg, og, Int.toNat_natCast, Int.natCast_nonneg, true_and, and_true, and_self, if_true, if_false, or_true, true_or, or_false, false_or, ne_eq, not_true_eq_false, not_false_eq_true, Nat.reduceLeDiff, Nat.reduceEqDiff, Nat.reduceLT, Nat.reduceAdd, Nat.reduceMul, Nat.reduceSub, Int.reduceLT, Int.reduceLE, Int.reduceEq, Int.reduceToNat, Int.reduceAdd, Int.reduceSub, Int.reduceMul, Int.reduceNeg, Int.cast_ofNat_Int, false_and, and_false]
    by_cases hp : po' = p
    · rw [if_pos hp]
      simp only [rX7_begin_70, rX7_begin_71, rX7_begin_74, rX7_begin_77, rX7_begin_79, rX7_begin_80, rX7_begin_81, rX7_begin_84, rX7_begin_86, rX7_begin_87, K0, R1, K1, r0, K2, l2, Cs_K200 m, Cs_R200_0 m, Cs_R200_1 m, Cs_R200_2 m, Cs_R200_3 m, Cs_R200_4 m, Cs_R200_5 m, Cs_R200_6 m, Cs_K201 m, Cs_R201_0 m, Cs_R201_1 m, Cs_K202 m, Cs_K203 m, Cs_K211 m, Cs_R211_0 m, Cs_R211_1 m, Cs_K212 m, Cs_K213 m, Cs_K214 m, Cs_R214_0 m, Cs_R214_1 m, Cs_K215 m, Cs_K216 m, Cs_K217 m, Cs_R217_0 m, Cs_R217_1 m, Cs_K218 m, Cs_K219 m, Cs_K220 m, Cs_R220_0 m, Cs_K221 m, Cs_K262 m, Cs_K271 m, Cs_R271_0 m, Cs_R271_1 m, Cs_K272 m, Cs_K276 m, Cs_R272_0 m, Cs_R276_0 m, Cs_K273 m, Cs_R273_0 m, Cs_R273_1 m, Cs_K274 m, Cs_K275 m, Cs_K277 m, Cs_R277_0 m, Cs_R277_1 m, Cs_K278 m, Cs_K279 m, Cs_R262_0 m, Cs_K263 m, Cs_R263_0 m, Cs_K264 m, Cs_R262_1 m, Cs_K265 m, Cs_R265_0 m, Cs_K266 m, Cs_R262_2 m, Cs_K267 m, Cs_R267_0 m, Cs_K268 m, Cs_R262_3 m, Cs_K269 m, Cs_R269_0 m, Cs_K270 m, t1', u1', Int.toNat_natCast, Int.natCast_nonneg, true_and, and_true, and_self, if_true, if_false, or_true, true_or, or_false, false_or, ne_eq, not_true_eq_false, not_false_eq_true, Nat.reduceLeDiff, Nat.reduceEqDiff, Nat.reduceLT, Nat.reduceAdd, Nat.reduceMul, Nat.reduceSub, Int.reduceLT, Int.reduceLE, Int.reduceEq, Int.reduceToNat, Int.reduceAdd, Int.reduceSub, Int.reduceMul, Int.reduceNeg, Int.cast_ofNat_Int, false_and, and_false]
      by_cases hb : F (2 + i) = F' (2 + i)
      · rw [if_pos hb]
        simp only [rX7_begin_90, rX7_begin_91, rX7_begin_94, rX7_begin_97, rX7_begin_99, rX7_begin_100, rX7_begin_101, rX7_begin_104, rX7_begin_106, rX7_begin_107, K0, R1, K1, r1, K3, l2, Cs_K200 m, Cs_R200_0 m, Cs_R200_1 m, Cs_R200_2 m, Cs_R200_3 m, Cs_R200_4 m, Cs_R200_5 m, Cs_R200_6 m, Cs_K201 m, Cs_R201_0 m, Cs_R201_1 m, Cs_K202 m, Cs_K203 m, Cs_K211 m, Cs_R211_0 m, Cs_R211_1 m, Cs_K212 m, Cs_K213 m, Cs_K214 m, Cs_R214_0 m, Cs_R214_1 m, Cs_K215 m, Cs_K216 m, Cs_K217 m, Cs_R217_0 m, Cs_R217_1 m, Cs_K218 m, Cs_K219 m, Cs_K220 m, Cs_R220_0 m, Cs_K221 m, Cs_K262 m, Cs_K271 m, Cs_R271_0 m, Cs_R271_1 m, Cs_K272 m, Cs_K276 m, Cs_R272_0 m, Cs_R276_0 m, Cs_K273 m, Cs_R273_0 m, Cs_R273_1 m, Cs_K274 m, Cs_K275 m, Cs_K277 m, Cs_R277_0 m, Cs_R277_1 m, Cs_K278 m, Cs_K279 m, Cs_R262_0 m, Cs_K263 m, Cs_R263_0 m, Cs_K264 m, Cs_R262_1 m, Cs_K265 m, Cs_R265_0 m, Cs_K266 m, Cs_R262_2 m, Cs_K267 m, Cs_R267_0 m, Cs_K268 m, Cs_R262_3 m, Cs_K269 m, Cs_R269_0 m, Cs_K270 m, t2', u2', Int.toNat_natCast, Int.natCast_nonneg, true_and, and_true, and_self, if_true, if_false, or_true, true_or, or_false, false_or, ne_eq, not_true_eq_false, not_false_eq_true, Nat.reduceLeDiff, Nat.reduceEqDiff, Nat.reduceLT, Nat.reduceAdd, Nat.reduceMul, Nat.reduceSub, Int.reduceLT, Int.reduceLE, Int.reduceEq, Int.reduceToNat, Int.reduceAdd, Int.reduceSub, Int.reduceMul, Int.reduceNeg, Int.cast_ofNat_Int, false_and, and_false]
        by_cases hd : F (8 + i) = F' (8 + i)
        · rw [if_pos hd]
          simp only [rX7_begin_118, rX7_begin_121, l3]
          refine ih (i + 1) h fl hn' f o (fun g hg => ?_) (fun hp' g hg g6' hb' => v2 hp' g (q3 g hg).2 g6' hb') ?_
          · by_cases he : g = i
            · subst he
              obtain ⟨E, E2⟩ := hE hp
              intro s hs hq
              rw [v2 hp g (Nat.le_refl _) i6 (by rw [← E2]; exact l1) s hs hq, nxt_E (A := A) (B := B) (F := F') (F' := F) E hb.symm hd.symm]
            · exact v g (q1 g hg he)
          · rcases fc with q | ⟨y1, y2, y3, y4, y5, y6, y7⟩
            · exact Or.inl q
            · refine Or.inr ⟨y1, y2, y3, y4, y5, y6, fun g hg => ?_⟩
              by_cases he : g = i
              · rw [he]; exact ⟨hb, hd⟩
              · exact y7 g (q1 g hg he)
        · rw [if_neg hd]; exact gone
      · rw [if_neg hb]; exact gone
    · rw [if_neg hp]; exact gone
theorem SrX.cg {h h' : Hp} {se : Nat} {B F : Nat → Int} {set : Nat} (e0 : ∀ k, hI h' se k = hI h se k) (ej : ∀ j k, 4 ≤ j → j ≤ 10 → hI h' (se + j) k = hI h (se + j) k) (x : SrX h se B F set) : SrX h' se B F set := by
  unfold SrX at x ⊢
  simp only [e0, ej 4 _ (by decide) (by decide), ej 5 _ (by decide) (by decide), ej 6 _ (by decide) (by decide), ej 7 _ (by decide) (by decide), ej 8 _ (by decide) (by decide), ej 9 _ (by decide) (by decide), ej 10 _ (by decide) (by decide)]
  exact x
theorem SrA.cg {h h' : Hp} {se : Nat} {B F : Nat → Int} (ej : ∀ j k, 4 ≤ j → j ≤ 10 → hI h' (se + j) k = hI h (se + j) k) (x : SrA h se B F) : SrA h' se B F := by
  unfold SrA at x ⊢
  simp only [ej 4 _ (by decide) (by decide), ej 5 _ (by decide) (by decide), ej 7 _ (by decide) (by decide)]
  exact x
theorem SrM.cg {h h' : Hp} {se : Nat} {B F : Nat → Int} (e : ∀ k, hI h' (se + 11) k = hI h (se + 11) k) (x : SrM h se B F) : SrM h' se B F := by
  unfold SrM at x ⊢
  simp only [e]
  exact x
def seS (se a : Nat) : Prop := se ≤ a ∧ a ≤ se + 11
theorem seS_1 {se a : Nat} (h1 : se + 1 ≤ a) (h2 : a ≤ se + 1 + 2) : seS se a := by unfold seS; omega
theorem stP_no {se j k : Nat} (h : j = 0 ∨ 4 ≤ j) : ¬ stP (se + 1) (se + j) k := by unfold stP; omega
theorem Shp_wR {h : Hp} {se v : Nat} (x : Shp h se) : Shp (wR h se 10 v) se := by
  have e : ∀ j k, k ≠ 10 → hR (wR h se 10 v) (se + j) k = hR h (se + j) k := fun j k hk => by rw [hR_wR, if_neg (fun q => hk q.2)]
  have e0 : ∀ k, k ≠ 10 → hR (wR h se 10 v) se k = hR h se k := fun k hk => e 0 k hk
  unfold Shp at x ⊢
  simp only [hK_wR, e0 0 (by decide), e0 1 (by decide), e0 2 (by decide), e0 3 (by decide), e0 4 (by decide), e0 5 (by decide), e0 6 (by decide), e0 7 (by decide), e0 8 (by decide), e0 9 (by decide), e 1 0 (by decide), e 1 1 (by decide)]
  exact x
theorem Shp.from {h : Hp} {se : Nat} (h3 : 314 ≤ se) (x : Shp h se) : StSh h (se + 1) := by
  obtain ⟨_, _, _, _, _, _, _, _, _, _, _, k1, r0, r1, k2, k3, _⟩ := x
  exact ⟨Nat.le_trans (by decide) (Nat.le_succ_of_le h3), k1, r0, r1, k2, k3⟩
set_option maxHeartbeats 1000000 in
theorem bg_end {d : Nat} {Q : Option PV → Hp → Prop} {h : Hp} {se p po' : Nat} {A B F F' : Nat → Int} {x3 x4 : Option PV} (c : BgC h se p po' A B F F') (sa : SrA h se A F') (sm : SrM h se A F') (sx : hI h se 11 = -1 ∨ ∃ set, SrX h se A F' set)
    (k : ∀ h', Fa (seS se) h h' → hN h' = hN h → hS h' = hS h → CsOk h' → Sx h' se A F' → Q none h') :
    WP (d + 2) mX7_begin 141 [some (.inr (.inr se)), some (.inr (.inr p)), some (.inr (.inr 214)), x3, x4] [] h Q := by
  obtain ⟨m, at', sh, r7, r10, ⟨p1, p2⟩, pa, s1, so, sp⟩ := id c
  have h3 := at'.2.1
  have a8 := at'.1
  have at3 := at'.2.2
  have g2 : 200 ≤ se := by omega
  have d2 : ¬ (200 = se) := by omega
  have d214 : 214 + 2 < se + 1 := by omega
  have hn : 114 ≤ hN h := by omega
  have pc : ∀ a, PlCell h p a → a < 200 + hN h ∧ ¬ seS se a := fun a ha => by
    obtain ⟨y1, y2, y3⟩ := p2.2 a ha
    refine ⟨y1, fun q => y3 (Or.inl ?_)⟩
    unfold seS at q
    omega
  have nS : ∀ a, a < 314 → ¬ seS se a := fun a ha q => by unfold seS at q; omega
  have K0 := sh.1
  have R1 := sh.2.2.1
  have m1 : CsOk (wR h se 10 p) := m.of (fun _ _ => rfl) (fun a k ha _ _ _ => by rw [hR_wR, if_neg (fun q => by omega)])
  have sh1 := Shp_wR (v := p) sh
  have f1 : Fa (seS se) h (wR h se 10 p) := (Fa.refl (seS se) h).wR (by unfold seS; omega) _ _
  have s1' : StIs (wR h se 10 p) 214 F' := s1
  have K1 := sh.2.2.2.2.2.2.2.2.2.2.2.1
  simp only [rX7_begin_141, rX7_begin_142, rX7_begin_143, rX7_begin_146, rX7_begin_147, rX7_begin_150, rX7_begin_151, hN_wI, hN_wJ, hN_wR, hS_wI, hS_wJ, hS_wR, hK_wI, hK_wJ, hK_wR, hI_wI, hI_wJ, hI_wR, hJ_wI, hJ_wJ, hJ_wR, hR_wI, hR_wJ, hR_wR, hN_nw, hS_nw, hK_nw, hI_nw, hJ_nw, hR_nw, psh_some, psh_none, K0, R1, g2, K1, Int.toNat_natCast, Int.natCast_nonneg, true_and, and_true, and_self, if_true, if_false, or_true, true_or, or_false, false_or, ne_eq, not_true_eq_false, not_false_eq_true, Nat.reduceLeDiff, Nat.reduceEqDiff, Nat.reduceLT, Nat.reduceAdd, Nat.reduceMul, Nat.reduceSub, Int.reduceLT, Int.reduceLE, Int.reduceEq, Int.reduceToNat, Int.reduceAdd, Int.reduceSub, Int.reduceMul, Int.reduceNeg, Int.cast_ofNat_Int, false_and, and_false]
  refine S_become (sh1.from h3) (Cs_nowS m1) (Or.inr d214) s1' ?_
  intro h2 f2 s2
  simp only [psh_none, rX7_begin_154]
  have f3 : Fa (seS se) h h2 := f1.stand f2 (fun a h1 h2 => seS_1 h1 h2)
  have e0 : ∀ k, hI h2 se k = hI h se k := fun k => f2.I (a := se) (stP_no (j := 0) (Or.inl rfl))
  have ej : ∀ j k, 4 ≤ j → hI h2 (se + j) k = hI h (se + j) k := fun j k hj => by rw [f2.I (stP_no (Or.inr hj))]; rfl
  have r8 : ∀ k, hR h2 200 k = hR h 200 k := fun k => by rw [f2.R, hR_wR, if_neg (fun q => d2 q.1)]
  have r10' : hR h2 se 10 = p := by rw [f2.R, hR_wR, if_pos ⟨rfl, rfl⟩]
  have eN : hN h2 = hN h := f2.N
  have m2 := m1.fr f2
  refine k h2 f3 eN f2.S m2 ⟨m2.dv, ⟨by rw [r8]; exact a8, h3, by rw [eN]; exact at3⟩, sh1.fr f2, ⟨pa, so, ?_, s2⟩, sa.cg (fun j k hj _ => ej j k hj), sm.cg (fun k => ej 11 k (by decide)), ?_⟩
  · rw [r10']
    exact ⟨(p1.fa f3 pc).1, p2.fa2 f3 (fun k _ => r8 k) (pc _ (Or.inl ⟨Nat.le_refl _, by omega⟩)).2⟩
  · rw [e0]
    rcases sx with q | ⟨set, q⟩
    · exact Or.inl q
    · exact Or.inr ⟨set, q.cg e0 (fun j k hj _ => ej j k hj)⟩
theorem BgC.E {h : Hp} {se p po' : Nat} {A B F F' : Nat → Int} (c : BgC h se p po' A B F F') (e : po' = p) : pdE (pdA A) (pdA B) ∧ A 2 = B 2 := by
  obtain ⟨m, at', sh, r7, r10, ⟨p1, p2⟩, pa, s1, so, sp⟩ := c
  have := sp.2.2.1.1
  rw [r10, e] at this
  exact pool_eq p1 this pa sp.1
theorem SrX.to {h : Hp} {se : Nat} {A B F F' : Nat → Int} {set : Nat} (e : pdE (pdA A) (pdA B)) (eg : A 2 = B 2) (pa : poolOk A) (so : stOk F') (ef : ∀ g : Nat, (g : Int) < A 2 → F' (2 + g) = F (2 + g) ∧ F' (8 + g) = F (8 + g)) (es : stt F' = stt F) (x : SrX h se B F set) : SrX h se A F' set := by
  obtain ⟨x1, x2, x3, x4, ⟨ah, by', dv, x5, x6⟩, x7⟩ := x
  have el := Lst_E (F := F') (F' := F) e eg pa so ef es set
  unfold SrX
  rw [el, eg]
  refine ⟨x1, x2, x3, x4, ⟨ah, by', dv, x5.E (fun g s hg => ?_), x6⟩, x7⟩
  have : (g : Int) < A 2 := by rw [eg]; omega
  exact (nxt_E e (ef g this).1 (ef g this).2).symm
theorem SrM.to {h : Hp} {se : Nat} {A B F F' : Nat → Int} (e : pdE (pdA A) (pdA B)) (eg : A 2 = B 2) (pa : poolOk A) (so : stOk F') (ef : ∀ g : Nat, (g : Int) < A 2 → F' (2 + g) = F (2 + g) ∧ F' (8 + g) = F (8 + g)) (es : stt F' = stt F) (x : SrM h se B F) : SrM h se A F' := by
  intro set hset
  rw [Lst_E (F := F') (F' := F) e eg pa so ef es set]
  exact x set (by rw [← eg]; exact hset)
theorem seS_fg {se a k : Nat} (q : fgP se a k) : seS se a := by unfold fgP at q; unfold seS; omega
def bgP (se a k : Nat) : Prop := fgP se a k ∨ a = se + 11 ∨ (a = se ∧ k = 11)
theorem bg_se {se a k : Nat} (q : bgP se a k) : (se + 4 ≤ a ∧ a ≤ se + 11) ∨ a = se := by unfold bgP fgP at q; omega
theorem seS_bg {se a k : Nat} (q : bgP se a k) : seS se a := by unfold bgP fgP at q; unfold seS; omega
set_option maxHeartbeats 1000000 in
theorem S_begin {d : Nat} {Q : Option PV → Hp → Prop} {h : Hp} {se p po' : Nat} {A B F F' : Nat → Int} (c : BgC h se p po' A B F F') (sa : SrA h se B F) (sx : hI h se 11 = -1 ∨ ((∃ set, SrX h se B F set) ∧ SrM h se B F))
    (k : ∀ h', Fa (seS se) h h' → hN h' = hN h → hS h' = hS h → CsOk h' → Sx h' se A F' → Q none h') :
    WP (d + 2) mX7_begin 0 [some (.inr (.inr se)), some (.inr (.inr p)), some (.inr (.inr 214)), none, none] [] h Q := by
  obtain ⟨m, at', sh, r7, r10, ⟨p1, p2⟩, pa, s1, so, sp⟩ := id c
  have h3 := at'.2.1
  have pg : 200 ≤ p := Nat.le_trans (by decide) (Nat.le_of_lt p1.1.1)
  have og : 200 ≤ po' := r10 ▸ Nat.le_trans (by decide) (Nat.le_of_lt sp.2.2.1.1.1.1)
  have g2 : 200 ≤ se := Nat.le_trans (by decide) h3
  have g11 : 200 ≤ se + 11 := Nat.le_trans g2 (Nat.le_add_right _ _)
  have d11 : ¬ (se + 11 = se) := by omega
  have djj : ∀ j, 4 ≤ j → j ≤ 10 → ¬ (se + j = se) ∧ ¬ (se + j = se + 11) := fun j h1 h2 => by omega
  obtain ⟨K0, R0, R1, R2, R3, R4, R5, R6, R7, R8, R9, K1, r0, r1, K2, K3, K4, K5, K6, K7, K8, K9, K10, K11⟩ := id sh
  obtain ⟨ob, vd⟩ := sa.ob
  have loop : ∀ fl : Int, flC fl h h se p po' F F' 0 → WP (d + 2) mX7_begin 50 [some (.inr (.inr se)), some (.inr (.inr p)), some (.inr (.inr 214)), some (.inl fl), none] [] h Q := by
    intro fl fc
    simp only [rX7_begin_50, rX7_begin_51]
    refine bg_loop c c.E ?_ (A 2).toNat 0 h fl (Nat.zero_add _) (Fp.refl _ h) ob (fun g hg => absurd hg (Nat.not_lt_zero _)) (fun _ g _ g6 hb => vd g g6 hb) fc
    intro h1 fl1 f1 ob1 v1 fc1
    have c1 := c.fr f1 (fun a k q => fg_se q)
    have sh1 := c1.2.2.1
    have sa1 := SrA.mk ob1 v1
    have fa1 := f1.fa (S := seS se) (fun a k q => seS_fg q)
    simp only [rX7_begin_124, rX7_begin_125]
    rcases fc1 with rfl | ⟨rfl, rfl, y3, y4, y5, y6, y7⟩
    · simp only [rX7_begin_128, rX7_begin_129, rX7_begin_130, rX7_begin_133, rX7_begin_134, rX7_begin_137, rX7_begin_138, hN_wI, hN_wJ, hN_wR, hS_wI, hS_wJ, hS_wR, hK_wI, hK_wJ, hK_wR, hI_wI, hI_wJ, hI_wR, hJ_wI, hJ_wJ, hJ_wR, hR_wI, hR_wJ, hR_wR, hN_nw, hS_nw, hK_nw, hI_nw, hJ_nw, hR_nw, psh_some, psh_none, sh1.1, sh1.2.2.2.2.2.2.2.2.2.2.1, g2, Int.toNat_natCast, Int.natCast_nonneg, true_and, and_true, and_self, if_true, if_false, or_true, true_or, or_false, false_or, ne_eq, not_true_eq_false, not_false_eq_true, Nat.reduceLeDiff, Nat.reduceEqDiff, Nat.reduceLT, Nat.reduceAdd, Nat.reduceMul, Nat.reduceSub, Int.reduceLT, Int.reduceLE, Int.reduceEq, Int.reduceToNat, Int.reduceAdd, Int.reduceSub, Int.reduceMul, Int.reduceNeg, Int.cast_ofNat_Int, false_and, and_false]
      refine S_fillI (n := 64) g11 (by rw [hK_wI]; exact sh1.2.2.2.2.2.2.2.2.2.2.2.2.2.2.2.2.2.2.2.2.2.2.2) (by decide) ?_
      intro h2 f2 z2
      have f12 : Fp (bgP se) h1 h2 := ((Fp.refl (bgP se) h1).wI (a := se) (k := 11) (Or.inr (Or.inr ⟨rfl, rfl⟩)) (-1)).trans (f2.mono (fun a k q => Or.inr (Or.inl q)))
      have c2 := c1.fr f12 (fun a k q => bg_se q)
      have ej : ∀ j k, 4 ≤ j → j ≤ 10 → hI h2 (se + j) k = hI h1 (se + j) k := fun j k h1' h2' => by rw [f2.I (djj j h1' h2').2, hI_wI, if_neg (fun q => (djj j h1' h2').1 q.1)]
      have e11 : hI h2 se 11 = -1 := by rw [f2.I (fun q => d11 q.symm), hI_wI, if_pos ⟨rfl, rfl⟩]
      have fa2 := f12.fa (S := seS se) (fun a k q => seS_bg q)
      simp only [psh_none]
      refine bg_end c2 (sa1.cg ej) (fun set hset => Or.inl (z2 set ?_)) (Or.inl e11) ?_
      · have := pow6 (n := (A 2).toNat) (by have := pa.2.2.2.1; omega); omega
      · intro h' f' n' s' m' x'
        exact k h' ((fa1.trans fa2).trans f') (by rw [n', f12.N, f1.N]) (by rw [s', f12.S, f1.S]) m' x'
    · rw [if_neg (by decide)]
      obtain ⟨E, E2⟩ := c.E y4
      have ef : ∀ g : Nat, (g : Int) < A 2 → F' (2 + g) = F (2 + g) ∧ F' (8 + g) = F (8 + g) := fun g hg => by
        have := y7 g (by omega)
        exact ⟨this.1.symm, this.2.symm⟩
      have es : stt F' = stt F := by unfold stt; rw [y5, y6]
      rcases sx with q | ⟨⟨set, q⟩, qm⟩
      · exact absurd q y3
      · exact bg_end c1 sa1 (qm.to E E2 pa so ef es) (Or.inr ⟨set, q.to E E2 pa so ef es⟩) k
  have t2 : hI h (se + 1) 2 = F 0 := sp.2.2.2.1
  have t3 : hI h (se + 1) 3 = F 1 := sp.2.2.2.2.1
  have u2 : hI h 214 2 = F' 0 := s1.1
  have u3 : hI h 214 3 = F' 1 := s1.2.1
  simp only [rX7_begin_0, rX7_begin_1, rX7_begin_4, rX7_begin_5, K0, Int.toNat_natCast, Int.natCast_nonneg, true_and, and_true, and_self, if_true, if_false, or_true, true_or, or_false, false_or, ne_eq, not_true_eq_false, not_false_eq_true, Nat.reduceLeDiff, Nat.reduceEqDiff, Nat.reduceLT, Nat.reduceAdd, Nat.reduceMul, Nat.reduceSub, Int.reduceLT, Int.reduceLE, Int.reduceEq, Int.reduceToNat, Int.reduceAdd, Int.reduceSub, Int.reduceMul, Int.reduceNeg, Int.cast_ofNat_Int, false_and, and_false]
  by_cases hm : hI h se 11 = -1
  · rw [if_pos hm]
    simp only [rX7_begin_48, rX7_begin_49]
    exact loop 0 (Or.inl rfl)
  rw [if_neg hm]
  simp only [rX7_begin_8, rX7_begin_9, rX7_begin_12, rX7_begin_13, K0, r10, pg, og, Int.toNat_natCast, Int.natCast_nonneg, true_and, and_true, and_self, if_true, if_false, or_true, true_or, or_false, false_or, ne_eq, not_true_eq_false, not_false_eq_true, Nat.reduceLeDiff, Nat.reduceEqDiff, Nat.reduceLT, Nat.reduceAdd, Nat.reduceMul, Nat.reduceSub, Int.reduceLT, Int.reduceLE, Int.reduceEq, Int.reduceToNat, Int.reduceAdd, Int.reduceSub, Int.reduceMul, Int.reduceNeg, Int.cast_ofNat_Int, false_and, and_false]
  by_cases hp : po' = p
  · rw [if_pos hp]
    simp only [rX7_begin_16, rX7_begin_17, rX7_begin_20, rX7_begin_23, rX7_begin_24, rX7_begin_27, K0, R1, K1, Cs_K200 m, Cs_R200_0 m, Cs_R200_1 m, Cs_R200_2 m, Cs_R200_3 m, Cs_R200_4 m, Cs_R200_5 m, Cs_R200_6 m, Cs_K201 m, Cs_R201_0 m, Cs_R201_1 m, Cs_K202 m, Cs_K203 m, Cs_K211 m, Cs_R211_0 m, Cs_R211_1 m, Cs_K212 m, Cs_K213 m, Cs_K214 m, Cs_R214_0 m, Cs_R214_1 m, Cs_K215 m, Cs_K216 m, Cs_K217 m, Cs_R217_0 m, Cs_R217_1 m, Cs_K218 m, Cs_K219 m, Cs_K220 m, Cs_R220_0 m, Cs_K221 m, Cs_K262 m, Cs_K271 m, Cs_R271_0 m, Cs_R271_1 m, Cs_K272 m, Cs_K276 m, Cs_R272_0 m, Cs_R276_0 m, Cs_K273 m, Cs_R273_0 m, Cs_R273_1 m, Cs_K274 m, Cs_K275 m, Cs_K277 m, Cs_R277_0 m, Cs_R277_1 m, Cs_K278 m, Cs_K279 m, Cs_R262_0 m, Cs_K263 m, Cs_R263_0 m, Cs_K264 m, Cs_R262_1 m, Cs_K265 m, Cs_R265_0 m, Cs_K266 m, Cs_R262_2 m, Cs_K267 m, Cs_R267_0 m, Cs_K268 m, Cs_R262_3 m, Cs_K269 m, Cs_R269_0 m, Cs_K270 m, t2, u2, Int.toNat_natCast, Int.natCast_nonneg, true_and, and_true, and_self, if_true, if_false, or_true, true_or, or_false, false_or, ne_eq, not_true_eq_false, not_false_eq_true, Nat.reduceLeDiff, Nat.reduceEqDiff, Nat.reduceLT, Nat.reduceAdd, Nat.reduceMul, Nat.reduceSub, Int.reduceLT, Int.reduceLE, Int.reduceEq, Int.reduceToNat, Int.reduceAdd, Int.reduceSub, Int.reduceMul, Int.reduceNeg, Int.cast_ofNat_Int, false_and, and_false]
    by_cases h0 : F 0 = F' 0
    · rw [if_pos h0]
      simp only [rX7_begin_30, rX7_begin_31, rX7_begin_34, rX7_begin_37, rX7_begin_38, rX7_begin_41, K0, R1, K1, Cs_K200 m, Cs_R200_0 m, Cs_R200_1 m, Cs_R200_2 m, Cs_R200_3 m, Cs_R200_4 m, Cs_R200_5 m, Cs_R200_6 m, Cs_K201 m, Cs_R201_0 m, Cs_R201_1 m, Cs_K202 m, Cs_K203 m, Cs_K211 m, Cs_R211_0 m, Cs_R211_1 m, Cs_K212 m, Cs_K213 m, Cs_K214 m, Cs_R214_0 m, Cs_R214_1 m, Cs_K215 m, Cs_K216 m, Cs_K217 m, Cs_R217_0 m, Cs_R217_1 m, Cs_K218 m, Cs_K219 m, Cs_K220 m, Cs_R220_0 m, Cs_K221 m, Cs_K262 m, Cs_K271 m, Cs_R271_0 m, Cs_R271_1 m, Cs_K272 m, Cs_K276 m, Cs_R272_0 m, Cs_R276_0 m, Cs_K273 m, Cs_R273_0 m, Cs_R273_1 m, Cs_K274 m, Cs_K275 m, Cs_K277 m, Cs_R277_0 m, Cs_R277_1 m, Cs_K278 m, Cs_K279 m, Cs_R262_0 m, Cs_K263 m, Cs_R263_0 m, Cs_K264 m, Cs_R262_1 m, Cs_K265 m, Cs_R265_0 m, Cs_K266 m, Cs_R262_2 m, Cs_K267 m, Cs_R267_0 m, Cs_K268 m, Cs_R262_3 m, Cs_K269 m, Cs_R269_0 m, Cs_K270 m, t3, u3, Int.toNat_natCast, Int.natCast_nonneg, true_and, and_true, and_self, if_true, if_false, or_true, true_or, or_false, false_or, ne_eq, not_true_eq_false, not_false_eq_true, Nat.reduceLeDiff, Nat.reduceEqDiff, Nat.reduceLT, Nat.reduceAdd, Nat.reduceMul, Nat.reduceSub, Int.reduceLT, Int.reduceLE, Int.reduceEq, Int.reduceToNat, Int.reduceAdd, Int.reduceSub, Int.reduceMul, Int.reduceNeg, Int.cast_ofNat_Int, false_and, and_false]
      by_cases h1 : F 1 = F' 1
      · rw [if_pos h1]
        simp only [rX7_begin_44, rX7_begin_45, rX7_begin_49]
        exact loop 1 (Or.inr ⟨rfl, rfl, hm, hp, h0, h1, fun g hg => absurd hg (Nat.not_lt_zero _)⟩)
      · rw [if_neg h1]
        simp only [rX7_begin_48, rX7_begin_49]
        exact loop 0 (Or.inl rfl)
    · rw [if_neg h0]
      simp only [rX7_begin_48, rX7_begin_49]
      exact loop 0 (Or.inl rfl)
  · rw [if_neg hp]
    simp only [rX7_begin_48, rX7_begin_49]
    exact loop 0 (Or.inl rfl)
