/-! suspects of the class -/
/-- what has come at dive i, place p -/
def XI (f : Nat → Nat → Nat) (ok : Nat → Nat → Bool) (G l : Nat) (L : List Nat) (i p : Nat) (q t : Nat) : Prop := (q ≤ i ∧ CI f ok G l L q t) ∨ (q = i + 1 ∧ ∃ p', p' < p ∧ p' < L.length ∧ CI f ok G l L i (L.getD p' 0) ∧ ∃ g, g < G ∧ lead f ok G l i (L.getD p' 0) g = true ∧ f g (L.getD p' 0) = t)
def VI (f : Nat → Nat → Nat) (ok : Nat → Nat → Bool) (G l : Nat) (L : List Nat) (i p : Nat) (g : Nat) : Prop := ∃ i' p', (i' < i ∨ (i' = i ∧ p' < p)) ∧ p' < L.length ∧ CI f ok G l L i' (L.getD p' 0) ∧ lead f ok G l i' (L.getD p' 0) g = true
theorem XI_next {f : Nat → Nat → Nat} {ok : Nat → Nat → Bool} {G l : Nat} {L : List Nat} {i q t : Nat} : XI f ok G l L i L.length q t ↔ XI f ok G l L (i + 1) 0 q t := by
  constructor
  · rintro (⟨h1, h2⟩ | ⟨h1, p', h2, h3, h4, g, h5⟩)
    · exact Or.inl ⟨Nat.le_succ_of_le h1, h2⟩
    · subst h1
      exact Or.inl ⟨Nat.le_refl _, p', h3, h4, g, h5⟩
  · rintro (⟨h1, h2⟩ | ⟨h1, p', h2, _⟩)
    · by_cases e : q = i + 1
      · subst e
        obtain ⟨p', h3, h4, g, h5⟩ := h2
        exact Or.inr ⟨rfl, p', h3, h3, h4, g, h5⟩
      · exact Or.inl ⟨by omega, h2⟩
    · exact absurd h2 (Nat.not_lt_zero _)
theorem VI_next {f : Nat → Nat → Nat} {ok : Nat → Nat → Bool} {G l : Nat} {L : List Nat} {i g : Nat} : VI f ok G l L i L.length g ↔ VI f ok G l L (i + 1) 0 g := by
  constructor
  · rintro ⟨i', p', h1, h2⟩
    exact ⟨i', p', Or.inl (by omega), h2⟩
  · rintro ⟨i', p', h1, h2, h3⟩
    exact ⟨i', p', by omega, h2, h3⟩
theorem XI_i {f : Nat → Nat → Nat} {ok : Nat → Nat → Bool} {G l : Nat} {L : List Nat} {i p t : Nat} : XI f ok G l L i p i t ↔ CI f ok G l L i t := ⟨fun h => h.elim (fun h => h.2) (fun h => by omega), fun h => Or.inl ⟨Nat.le_refl _, h⟩⟩
set_option maxHeartbeats 1000000 in
theorem S_goersOfAny {d : Nat} {Q : Option PV → Hp → Prop} {h0 h : Hp} {A : Nat → Int} {f : Nat → Nat → Nat} {L : List Nat} {ta se G l : Nat} (x : TW h0 h A f (2 ^ G - 1) L ta se) (hG : A 2 = (G : Int)) {z : Nat → Int} (ez : ∀ i, i < 12 → hI h (ta + 2) i = z i) (l12 : l ≤ 12) (go : GO h ta f (okT2 z) G l L (fun _ => 1)) (cz : ∀ p, p < L.length → hI h (ta + 4) p = 0)
    (k : ∀ h' (v : Nat), Fp (fun b _ => b = ta + 4) h h' → (∀ g, v.testBit g = true ↔ g < G ∧ VI f (okT2 z) G l L l 0 g) → Q (some (.inl (v : Int))) h') :
    WP (d + 5) mX9_goersOfAny 0 [some (.inr (.inr ta)), some (.inl (l : Int)), none, none, none] [] h Q := by
  have ok := x.2.2.2.2.1.2.2.2.1
  have lk := x.2.2.2.2.1.le
  have g4 : 200 ≤ ta + 4 := by have := x.2.2.2.2.2.2.2.1; omega
  obtain ⟨K0, R0, R1, R2, R3, R4, K1, K2, K3, K4⟩ := x.2.2.2.1.ks
  have inner : ∀ (i : Nat), i < l → (∀ (e : Hp) (v : Nat), Fp (fun b _ => b = ta + 4) h e → CM e ta L (XI f (okT2 z) G l L i L.length) → v < 64 → (∀ g, v.testBit g = true ↔ g < G ∧ VI f (okT2 z) G l L i L.length g) → WP (d + 5) mX9_goersOfAny 61 [some (.inr (.inr ta)), some (.inl (l : Int)), some (.inl (v : Int)), some (.inl (i : Int)), some (.inl (L.length : Int))] [] e Q) → ∀ n p (e : Hp) (v : Nat), p + n = L.length → Fp (fun b _ => b = ta + 4) h e → CM e ta L (XI f (okT2 z) G l L i p) → v < 64 → (∀ g, v.testBit g = true ↔ g < G ∧ VI f (okT2 z) G l L i p g) → WP (d + 5) mX9_goersOfAny 19 [some (.inr (.inr ta)), some (.inl (l : Int)), some (.inl (v : Int)), some (.inl (i : Int)), some (.inl (p : Int))] [] e Q := by
    intro i hi kk n
    have i31 : i < 31 := Nat.lt_of_lt_of_le hi (Nat.le_trans l12 (by decide))
    induction n with
    | zero =>
      intro p e v hp fe ce v6 vb
      have ep : p = L.length := hp
      subst ep
      have xe := x.fp fe (fun b _ q => q ▸ t2_ta.2.2.2)
      obtain ⟨K0, R0, _⟩ := xe.2.2.2.1.ks
      have KS := xe.2.2.2.2.1.2.1.1
      have len := xe.2.2.2.2.1.2.2.1
      rw [rX9_goersOfAny_19]
      simp only [rX9_goersOfAny_21, rX9_goersOfAny_22, rX9_goersOfAny_25, rX9_goersOfAny_28, K0, R0, KS, len, Int.lt_irrefl, Int.toNat_natCast, Int.natCast_nonneg, true_and, and_true, and_self, if_true, if_false, or_true, true_or, or_false, false_or, ne_eq, not_true_eq_false, not_false_eq_true, Nat.reduceLeDiff, Nat.reduceEqDiff, Nat.reduceLT, Nat.reduceAdd, Nat.reduceMul, Nat.reduceSub, Int.reduceLT, Int.reduceLE, Int.reduceEq, Int.reduceToNat, Int.reduceAdd, Int.reduceSub, Int.reduceMul, Int.reduceNeg, Int.cast_ofNat_Int, false_and, and_false]
      exact kk e v fe ce v6 vb
    | succ n ih =>
      intro p e v hp fe ce v6 vb
      obtain ⟨pl, hn⟩ := gm_n hp
      obtain ⟨p1, p2, p3, p4⟩ := i_16 lk pl
      have xe := x.fp fe (fun b _ q => q ▸ t2_ta.2.2.2)
      obtain ⟨K0, R0, R1, R2, R3, R4, K1, K2, K3, K4⟩ := xe.2.2.2.1.ks
      have KS := xe.2.2.2.2.1.2.1.1
      have len := xe.2.2.2.2.1.2.2.1
      obtain ⟨c, e1, e2, e3⟩ := ce p pl
      have ci : c.testBit i = true ↔ CI f (okT2 z) G l L i (L.getD p 0) := (e3 i).trans XI_i
      rw [rX9_goersOfAny_19]
      simp only [rX9_goersOfAny_21, rX9_goersOfAny_22, rX9_goersOfAny_25, rX9_goersOfAny_28, rX9_goersOfAny_31, rX9_goersOfAny_32, rX9_goersOfAny_35, rX9_goersOfAny_37, rX9_goersOfAny_38, rX9_goersOfAny_39, rX9_goersOfAny_42, K0, R0, R4, K4, KS, len, p1, p2, e1, S_has (b := c) (i := i) (b31 e2) i31, psh_some, Int.toNat_natCast, Int.natCast_nonneg, true_and, and_true, and_self, if_true, if_false, or_true, true_or, or_false, false_or, ne_eq, not_true_eq_false, not_false_eq_true, Nat.reduceLeDiff, Nat.reduceEqDiff, Nat.reduceLT, Nat.reduceAdd, Nat.reduceMul, Nat.reduceSub, Int.reduceLT, Int.reduceLE, Int.reduceEq, Int.reduceToNat, Int.reduceAdd, Int.reduceSub, Int.reduceMul, Int.reduceNeg, Int.cast_ofNat_Int, false_and, and_false]
      by_cases hc : c.testBit i = true
      · simp only [if_pos hc]
        rw [if_neg (by decide)]
        simp only [rX9_goersOfAny_45, rX9_goersOfAny_46, rX9_goersOfAny_47, rX9_goersOfAny_48, rX9_goersOfAny_50, K0, Int.toNat_natCast, Int.natCast_nonneg, true_and, and_true, and_self, if_true, if_false, or_true, true_or, or_false, false_or, ne_eq, not_true_eq_false, not_false_eq_true, Nat.reduceLeDiff, Nat.reduceEqDiff, Nat.reduceLT, Nat.reduceAdd, Nat.reduceMul, Nat.reduceSub, Int.reduceLT, Int.reduceLE, Int.reduceEq, Int.reduceToNat, Int.reduceAdd, Int.reduceSub, Int.reduceMul, Int.reduceNeg, Int.cast_ofNat_Int, false_and, and_false]
        refine S_goersFrom (d := d) xe hG (fun i hi => by rw [fe.I n34.2]; exact ez i hi) l12 hi (go.fr fe) pl ce ?_
        intro e5 v5 f5 c5 v56 vb5
        have o : ior (v : Int) (v5 : Int) = ((v ||| v5 : Nat) : Int) := ior_n (Nat.lt_trans v6 (by decide)) (Nat.lt_trans v56 (by decide))
        simp only [psh_some, rX9_goersOfAny_53, rX9_goersOfAny_54, rX9_goersOfAny_55, rX9_goersOfAny_58, o, p3]
        refine ih (p + 1) e5 (v ||| v5) hn (fe.trans f5) (c5.of (fun q r hr => ?_)) (Nat.or_lt_two_pow (n := 6) v6 v56) (fun g => ?_)
        · constructor
          · rintro ((h1 | ⟨h1, p', h2, h3⟩) | ⟨h1, g, h2⟩)
            · exact Or.inl h1
            · exact Or.inr ⟨h1, p', Nat.lt_succ_of_lt h2, h3⟩
            · exact Or.inr ⟨h1, p, Nat.lt_succ_self p, pl, ci.1 hc, g, h2⟩
          · rintro (h1 | ⟨h1, p', h2, h3, h4, h5⟩)
            · exact Or.inl (Or.inl h1)
            · by_cases hpp : p' = p
              · rw [hpp] at h5; exact Or.inr ⟨h1, h5⟩
              · exact Or.inl (Or.inr ⟨h1, p', lt_one h2 hpp, h3, h4, h5⟩)
        · rw [Nat.testBit_or, Bool.or_eq_true, vb, vb5]
          constructor
          · rintro (⟨h1, i', p', h2, h3⟩ | ⟨h1, h2⟩)
            · exact ⟨h1, i', p', h2.elim Or.inl (fun q => Or.inr ⟨q.1, Nat.lt_succ_of_lt q.2⟩), h3⟩
            · exact ⟨h1, i, p, Or.inr ⟨rfl, Nat.lt_succ_self p⟩, pl, ci.1 hc, h2⟩
          · rintro ⟨h1, i', p', h2, h3, h4, h5⟩
            by_cases hpp : i' = i ∧ p' = p
            · rw [hpp.1, hpp.2] at h5; exact Or.inr ⟨h1, h5⟩
            · exact Or.inl ⟨h1, i', p', h2.elim Or.inl (fun q => Or.inr ⟨q.1, lt_one q.2 (fun c => hpp ⟨q.1, c⟩)⟩), h3, h4, h5⟩
      · simp only [if_neg hc]
        rw [if_pos (by trivial)]
        simp only [rX9_goersOfAny_55, rX9_goersOfAny_58, p3]
        refine ih (p + 1) e v hn fe (ce.of (fun q r hr => ?_)) v6 (fun g => ?_)
        · constructor
          · rintro (h1 | ⟨h1, p', h2, h3⟩)
            · exact Or.inl h1
            · exact Or.inr ⟨h1, p', Nat.lt_succ_of_lt h2, h3⟩
          · rintro (h1 | ⟨h1, p', h2, h3, h4, h5⟩)
            · exact Or.inl h1
            · by_cases hpp : p' = p
              · rw [hpp] at h4; exact absurd (ci.2 h4) hc
              · exact Or.inr ⟨h1, p', lt_one h2 hpp, h3, h4, h5⟩
        · rw [vb]
          constructor
          · rintro ⟨h1, i', p', h2, h3⟩
            exact ⟨h1, i', p', h2.elim Or.inl (fun q => Or.inr ⟨q.1, Nat.lt_succ_of_lt q.2⟩), h3⟩
          · rintro ⟨h1, i', p', h2, h3, h4, h5⟩
            by_cases hpp : i' = i ∧ p' = p
            · rw [hpp.1, hpp.2] at h4; exact absurd (ci.2 h4) hc
            · exact ⟨h1, i', p', h2.elim Or.inl (fun q => Or.inr ⟨q.1, lt_one q.2 (fun c => hpp ⟨q.1, c⟩)⟩), h3, h4, h5⟩
  have outer : ∀ n i (e : Hp) (v : Nat) (y4 : Option PV), i + n = l → Fp (fun b _ => b = ta + 4) h e → CM e ta L (XI f (okT2 z) G l L i 0) → v < 64 → (∀ g, v.testBit g = true ↔ g < G ∧ VI f (okT2 z) G l L i 0 g) → WP (d + 5) mX9_goersOfAny 11 [some (.inr (.inr ta)), some (.inl (l : Int)), some (.inl (v : Int)), some (.inl (i : Int)), y4] [] e Q := by
    intro n
    induction n with
    | zero =>
      intro i e v y4 hi fe ce v6 vb
      have ei : i = l := hi
      subst ei
      rw [rX9_goersOfAny_11]
      simp only [rX9_goersOfAny_12, rX9_goersOfAny_13, rX9_goersOfAny_67, rX9_goersOfAny_68, Int.lt_irrefl, if_false]
      exact k e v fe vb
    | succ n ih =>
      intro i e v y4 hi fe ce v6 vb
      obtain ⟨il, i12, _, ill, i1, hn⟩ := i_l hi l12
      rw [rX9_goersOfAny_11]
      simp only [rX9_goersOfAny_12, rX9_goersOfAny_13, rX9_goersOfAny_16, rX9_goersOfAny_17, il, if_true]
      refine inner i ill ?_ L.length 0 e v (Nat.zero_add _) fe ce v6 vb
      intro e2 v2 f2 c2 v26 vb2
      simp only [rX9_goersOfAny_61, rX9_goersOfAny_64, i1]
      exact ih (i + 1) e2 v2 _ hn f2 (c2.of (fun q p hp => XI_next)) v26 (fun g => by rw [vb2, VI_next])
  simp only [rX9_goersOfAny_0, rX9_goersOfAny_1, rX9_goersOfAny_2, rX9_goersOfAny_3, rX9_goersOfAny_6, rX9_goersOfAny_7, rX9_goersOfAny_8, rX9_goersOfAny_9, rX9_goersOfAny_10, K0, R4, K4, g4, Int.toNat_natCast, Int.natCast_nonneg, true_and, and_true, and_self, if_true, if_false, or_true, true_or, or_false, false_or, ne_eq, not_true_eq_false, not_false_eq_true, Nat.reduceLeDiff, Nat.reduceEqDiff, Nat.reduceLT, Nat.reduceAdd, Nat.reduceMul, Nat.reduceSub, Int.reduceLT, Int.reduceLE, Int.reduceEq, Int.reduceToNat, Int.reduceAdd, Int.reduceSub, Int.reduceMul, Int.reduceNeg, Int.cast_ofNat_Int, false_and, and_false]
  have f1 : Fp (fun b _ => b = ta + 4) h (wI h (ta + 4) 0 1) := (Fp.refl (fun b _ => b = ta + 4) h).wI rfl _
  refine outer l 0 _ 0 _ (Nat.zero_add _) f1 (fun p hp => ?_) (by decide) (fun g => ⟨fun h => ?_, fun h => ?_⟩)
  · by_cases p0 : p = 0
    · subst p0
      refine ⟨1, by rw [hI_wI, if_pos ⟨rfl, rfl⟩]; rfl, by decide, fun q => ?_⟩
      constructor
      · intro hb
        have q0 : q = 0 := by
          rw [show (1 : Nat) = 2 ^ 0 from rfl, Nat.testBit_two_pow] at hb
          exact (of_decide_eq_true hb).symm
        rw [q0]
        exact Or.inl ⟨Nat.le_refl _, rfl⟩
      · rintro (⟨h1, h2⟩ | ⟨h1, p', h2, _⟩)
        · rw [Nat.le_zero.1 h1]; decide
        · exact absurd h2 (Nat.not_lt_zero _)
    · refine ⟨0, by rw [hI_wI, if_neg (fun c => p0 c.2), cz p hp]; rfl, by decide, fun q => ?_⟩
      constructor
      · intro hb; rw [Nat.zero_testBit] at hb; exact absurd hb (by decide)
      · rintro (⟨h1, h2⟩ | ⟨h1, p', h2, _⟩)
        · rw [Nat.le_zero.1 h1] at h2
          have h2' : L.getD p 0 = L.getD 0 0 := h2
          exact absurd (getD_inj ok hp ok.2.2 h2') p0
        · exact absurd h2 (Nat.not_lt_zero _)
  · rw [Nat.zero_testBit] at h; exact absurd h (by decide)
  · obtain ⟨_, i', p', h2, _⟩ := h
    exact absurd h2 (fun q => q.elim (Nat.not_lt_zero _) (fun q => Nat.not_lt_zero _ q.2))
/-- who can have been down -/
def SU (σ : AS) (z : Nat → Int) (l g : Nat) : Prop := ∃ i p, i < l ∧ p < (LA σ).length ∧ 0 < rwD σ z i ((LA σ).getD p 0) ∧ lead (fA σ) (okT2 z) (GA σ) l i ((LA σ).getD p 0) g = true
noncomputable def suV (σ : AS) (t : Int) : Int := if poV σ t = 0 then (fitP (SU σ (tzZ σ t.toNat) (sM σ t.toNat).toNat) (GA σ) : Int) else poV σ t
theorem VI_SU {σ : AS} {z : Nat → Int} {l g : Nat} (hg : g < GA σ) : VI (fA σ) (okT2 z) (GA σ) l (LA σ) l 0 g ↔ SU σ z l g := by
  constructor
  · rintro ⟨i, p, h1, h2, h3, h4⟩
    have hi : i < l := h1.elim id (fun q => absurd q.2 (Nat.not_lt_zero _))
    exact ⟨i, p, hi, h2, (D_lead hi hg h4).1 h3, h4⟩
  · rintro ⟨i, p, hi, h2, h3, h4⟩
    exact ⟨i, p, Or.inl hi, h2, (D_lead hi hg h4).2 h3, h4⟩
set_option maxHeartbeats 1000000 in
theorem C_suspects {d : Nat} {σ : AS} {t : Int} : CSpec (d + 7) mX11_suspects [some (.inr (.inr 200)), some (.inl t), none, none, none] σ (.inl (suV σ t)) σ := by
  intro h Q x w k
  have m := x.1.1
  unfold suV at k
  simp only [rX11_suspects_0, rX11_suspects_1, rX11_suspects_2, Cs_K200 m, Cs_R200_0 m, Cs_R200_1 m, Cs_R200_2 m, Cs_R200_3 m, Cs_R200_4 m, Cs_R200_5 m, Cs_R200_6 m, Cs_K201 m, Cs_R201_0 m, Cs_R201_1 m, Cs_K202 m, Cs_K203 m, Cs_K211 m, Cs_R211_0 m, Cs_R211_1 m, Cs_K212 m, Cs_K213 m, Cs_K214 m, Cs_R214_0 m, Cs_R214_1 m, Cs_K215 m, Cs_K216 m, Cs_K217 m, Cs_R217_0 m, Cs_R217_1 m, Cs_K218 m, Cs_K219 m, Cs_K220 m, Cs_R220_0 m, Cs_K221 m, Cs_K262 m, Cs_K271 m, Cs_R271_0 m, Cs_R271_1 m, Cs_K272 m, Cs_K276 m, Cs_R272_0 m, Cs_R276_0 m, Cs_K273 m, Cs_R273_0 m, Cs_R273_1 m, Cs_K274 m, Cs_K275 m, Cs_K277 m, Cs_R277_0 m, Cs_R277_1 m, Cs_K278 m, Cs_K279 m, Cs_R262_0 m, Cs_K263 m, Cs_R263_0 m, Cs_K264 m, Cs_R262_1 m, Cs_K265 m, Cs_R265_0 m, Cs_K266 m, Cs_R262_2 m, Cs_K267 m, Cs_R267_0 m, Cs_K268 m, Cs_R262_3 m, Cs_K269 m, Cs_R269_0 m, Cs_K270 m, Int.toNat_natCast, Int.natCast_nonneg, true_and, and_true, and_self, if_true, if_false, or_true, true_or, or_false, false_or, ne_eq, not_true_eq_false, not_false_eq_true, Nat.reduceLeDiff, Nat.reduceEqDiff, Nat.reduceLT, Nat.reduceAdd, Nat.reduceMul, Nat.reduceSub, Int.reduceLT, Int.reduceLE, Int.reduceEq, Int.reduceToNat, Int.reduceAdd, Int.reduceSub, Int.reduceMul, Int.reduceNeg, Int.cast_ofNat_Int, false_and, and_false]
  refine S_cPosted (d := d + 5) m x.1.2.2.2.2.2.1 ?_
  simp only [psh_some, rX11_suspects_5, rX11_suspects_6, rX11_suspects_7]
  by_cases h0 : poV σ t = 0
  · rw [if_pos h0] at k ⊢
    obtain ⟨j, l, rfl, j4, ns, el, l1, l12, zz⟩ := poV_0 h0
    have j4' := (j_n j4).1
    simp only [Int.toNat_natCast, el] at k
    obtain ⟨r1, r2, r3, r4, r5, r6⟩ := tray_at x j4 ns el
    simp only [h0, rX11_suspects_12, rX11_suspects_13, rX11_suspects_16, rX11_suspects_17, rX11_suspects_18, rX11_suspects_21, rX11_suspects_22, rX11_suspects_23, Cs_K200 m, Cs_R200_0 m, Cs_R200_1 m, Cs_R200_2 m, Cs_R200_3 m, Cs_R200_4 m, Cs_R200_5 m, Cs_R200_6 m, Cs_K201 m, Cs_R201_0 m, Cs_R201_1 m, Cs_K202 m, Cs_K203 m, Cs_K211 m, Cs_R211_0 m, Cs_R211_1 m, Cs_K212 m, Cs_K213 m, Cs_K214 m, Cs_R214_0 m, Cs_R214_1 m, Cs_K215 m, Cs_K216 m, Cs_K217 m, Cs_R217_0 m, Cs_R217_1 m, Cs_K218 m, Cs_K219 m, Cs_K220 m, Cs_R220_0 m, Cs_K221 m, Cs_K262 m, Cs_K271 m, Cs_R271_0 m, Cs_R271_1 m, Cs_K272 m, Cs_K276 m, Cs_R272_0 m, Cs_R276_0 m, Cs_K273 m, Cs_R273_0 m, Cs_R273_1 m, Cs_K274 m, Cs_K275 m, Cs_K277 m, Cs_R277_0 m, Cs_R277_1 m, Cs_K278 m, Cs_K279 m, Cs_R262_0 m, Cs_K263 m, Cs_R263_0 m, Cs_K264 m, Cs_R262_1 m, Cs_K265 m, Cs_R265_0 m, Cs_K266 m, Cs_R262_2 m, Cs_K267 m, Cs_R267_0 m, Cs_K268 m, Cs_R262_3 m, Cs_K269 m, Cs_R269_0 m, Cs_K270 m, j4', r1, r2, r5, Int.toNat_natCast, Int.natCast_nonneg, true_and, and_true, and_self, if_true, if_false, or_true, true_or, or_false, false_or, ne_eq, not_true_eq_false, not_false_eq_true, Nat.reduceLeDiff, Nat.reduceEqDiff, Nat.reduceLT, Nat.reduceAdd, Nat.reduceMul, Nat.reduceSub, Int.reduceLT, Int.reduceLE, Int.reduceEq, Int.reduceToNat, Int.reduceAdd, Int.reduceSub, Int.reduceMul, Int.reduceNeg, Int.cast_ofNat_Int, false_and, and_false]
    refine S_tally x w ?_
    intro h1' ta se th c1
    have tw : TW h1' h1' (sA σ) (fA σ) (2 ^ GA σ - 1) (LA σ) ta se := th.tw
    have m1 := th.1.1.1
    obtain ⟨K0, _⟩ := tw.2.2.2.1.ks
    obtain ⟨r1, r2, r3, r4, r5, r6⟩ := tray_at th.1 j4 ns el
    simp only [psh_some, rX11_suspects_26, rX11_suspects_28, rX11_suspects_30, rX11_suspects_31, rX11_suspects_34, rX11_suspects_35, rX11_suspects_36, Cs_K200 m1, Cs_R200_0 m1, Cs_R200_1 m1, Cs_R200_2 m1, Cs_R200_3 m1, Cs_R200_4 m1, Cs_R200_5 m1, Cs_R200_6 m1, Cs_K201 m1, Cs_R201_0 m1, Cs_R201_1 m1, Cs_K202 m1, Cs_K203 m1, Cs_K211 m1, Cs_R211_0 m1, Cs_R211_1 m1, Cs_K212 m1, Cs_K213 m1, Cs_K214 m1, Cs_R214_0 m1, Cs_R214_1 m1, Cs_K215 m1, Cs_K216 m1, Cs_K217 m1, Cs_R217_0 m1, Cs_R217_1 m1, Cs_K218 m1, Cs_K219 m1, Cs_K220 m1, Cs_R220_0 m1, Cs_K221 m1, Cs_K262 m1, Cs_K271 m1, Cs_R271_0 m1, Cs_R271_1 m1, Cs_K272 m1, Cs_K276 m1, Cs_R272_0 m1, Cs_R276_0 m1, Cs_K273 m1, Cs_R273_0 m1, Cs_R273_1 m1, Cs_K274 m1, Cs_K275 m1, Cs_K277 m1, Cs_R277_0 m1, Cs_R277_1 m1, Cs_K278 m1, Cs_K279 m1, Cs_R262_0 m1, Cs_K263 m1, Cs_R263_0 m1, Cs_K264 m1, Cs_R262_1 m1, Cs_K265 m1, Cs_R265_0 m1, Cs_K266 m1, Cs_R262_2 m1, Cs_K267 m1, Cs_R267_0 m1, Cs_K268 m1, Cs_R262_3 m1, Cs_K269 m1, Cs_R269_0 m1, Cs_K270 m1, K0, j4', r1, Int.toNat_natCast, Int.natCast_nonneg, true_and, and_true, and_self, if_true, if_false, or_true, true_or, or_false, false_or, ne_eq, not_true_eq_false, not_false_eq_true, Nat.reduceLeDiff, Nat.reduceEqDiff, Nat.reduceLT, Nat.reduceAdd, Nat.reduceMul, Nat.reduceSub, Int.reduceLT, Int.reduceLE, Int.reduceEq, Int.reduceToNat, Int.reduceAdd, Int.reduceSub, Int.reduceMul, Int.reduceNeg, Int.cast_ofNat_Int, false_and, and_false]
    refine S_see (d := d + 4) (z := trZ σ j) tw r2 r3 r4 (j_n j4).2.2 r5 l12 r6 zz ?_
    intro h2' tw2 f2 z2
    obtain ⟨K02, _⟩ := tw2.2.2.2.1.ks
    simp only [psh_none, rX11_suspects_39, rX11_suspects_41, rX11_suspects_42, K02, Int.toNat_natCast, Int.natCast_nonneg, true_and, and_true, and_self, if_true, if_false, or_true, true_or, or_false, false_or, ne_eq, not_true_eq_false, not_false_eq_true, Nat.reduceLeDiff, Nat.reduceEqDiff, Nat.reduceLT, Nat.reduceAdd, Nat.reduceMul, Nat.reduceSub, Int.reduceLT, Int.reduceLE, Int.reduceEq, Int.reduceToNat, Int.reduceAdd, Int.reduceSub, Int.reduceMul, Int.reduceNeg, Int.cast_ofNat_Int, false_and, and_false]
    refine S_markBack (d := d + 1) (G := GA σ) (z := szZ (trZ σ j) l) tw2 (GA_e w) z2 l12 l1 ?_
    intro h3' f3 go3 cz3
    have tw3 := tw2.fp f3 (fun b k q => mk_ta q)
    obtain ⟨K03, _⟩ := tw3.2.2.2.1.ks
    have z3 : ∀ i, i < 12 → hI h3' (ta + 2) i = szZ (trZ σ j) l i := fun i hi => by rw [f3.I mk_no]; exact z2 i hi
    simp only [psh_none, rX11_suspects_45, rX11_suspects_47, rX11_suspects_48, K03, Int.toNat_natCast, Int.natCast_nonneg, true_and, and_true, and_self, if_true, if_false, or_true, true_or, or_false, false_or, ne_eq, not_true_eq_false, not_false_eq_true, Nat.reduceLeDiff, Nat.reduceEqDiff, Nat.reduceLT, Nat.reduceAdd, Nat.reduceMul, Nat.reduceSub, Int.reduceLT, Int.reduceLE, Int.reduceEq, Int.reduceToNat, Int.reduceAdd, Int.reduceSub, Int.reduceMul, Int.reduceNeg, Int.cast_ofNat_Int, false_and, and_false]
    refine S_goersOfAny (d := d + 1) (z := szZ (trZ σ j) l) tw3 (GA_e w) z3 l12 go3 cz3 ?_
    intro h4' v f4 vb
    have tw4 := tw3.fp f4 (fun b _ q => q ▸ t2_ta.2.2.2)
    simp only [psh_some, rX11_suspects_51]
    obtain ⟨x4, c4⟩ := th.done tw4
    have e : tzZ σ j = szZ (trZ σ j) l := by unfold tzZ; rw [el]; rfl
    rw [e] at k
    have ev : v = fitP (SU σ (szZ (trZ σ j) l) l) (GA σ) := fitP_eq (fun g => by
      rw [vb]
      exact ⟨fun q => ⟨q.1, (VI_SU q.1).1 q.2⟩, fun q => ⟨q.1, (VI_SU q.1).2 q.2⟩⟩)
    rw [ev]
    exact k h4' x4 (c1.trans c4).1
  · rw [if_neg h0] at k ⊢
    simp only [rX11_suspects_10, rX11_suspects_11]
    exact k h x (Cfr.refl h)
