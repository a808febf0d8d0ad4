/-! the game's cells, its chains, a position reached -/
def gaS (ga a : Nat) : Prop := ga ≤ a ∧ a ≤ ga + 5
def GZ (h : Hp) (ga se : Nat) : Prop := hR h 200 10 = ga ∧ ga ≠ 0 ∧ 314 ≤ ga ∧ ga + 5 < 200 + hN h ∧ (ga + 5 < se ∨ se + 11 < ga) ∧ 114 ≤ hN h
def GW (h0 h : Hp) (A : Nat → Int) (f : Nat → Nat → Nat) (set : Nat) (L : List Nat) (ga se : Nat) : Prop := Fp (fun a _ => gaS ga a) h0 h ∧ GmOk h ga se ∧ PR h se A f set L ∧ GZ h ga se
theorem GH.gw {h : Hp} {σ : AS} {ga se set : Nat} {L : List Nat} (x : GH h σ ga se set L) : GW h h (sA σ) (fA σ) set L ga se := by
  obtain ⟨x1, x2, x3, x4, x5, x6, x7⟩ := x
  have b := x1.2.1.2.2.resolve_left (by rw [x3]; exact x4)
  rw [x2, x3] at b
  exact ⟨Fp.refl _ h, x6, x7, x3, x4, b.1, b.2.1, b.2.2.2.1, x1.1.2.1⟩
theorem GZ.dy {h : Hp} {ga se : Nat} (z : GZ h ga se) : ∀ a, gaS ga a → Dy h a ∧ (a < se ∨ se + 11 < a) := fun a q => by
  obtain ⟨z1, z2, z3, z4, z5, z6⟩ := z
  unfold gaS at q
  refine ⟨Or.inr (Or.inr ?_), by omega⟩
  rw [z1]
  exact ⟨z2, q.1, q.2⟩
theorem GW.fp {h0 h h' : Hp} {A : Nat → Int} {f : Nat → Nat → Nat} {set : Nat} {L : List Nat} {ga se : Nat} (x : GW h0 h A f set L ga se) {P : Nat → Nat → Prop} (g : Fp P h h') (hp : ∀ a k, P a k → gaS ga a) : GW h0 h' A f set L ga se := by
  obtain ⟨x1, x2, x3, x4⟩ := x
  have fa := g.fa (S := gaS ga) hp
  refine ⟨x1.trans (g.mono hp), x2.cg (fun a _ _ => g.K a) (fun k => g.R ga k), x3.fa fa x4.2.2.2.2.2 x4.dy (by have := x4.2.2.1; unfold gaS; omega), ?_⟩
  obtain ⟨z1, z2, z3, z4, z5, z6⟩ := x4
  exact ⟨by rw [g.R]; exact z1, z2, z3, by rw [g.N]; exact z4, z5, by rw [g.N]; exact z6⟩
theorem GH.done {h0 h : Hp} {σ : AS} {ga se set : Nat} {L : List Nat} (x : GH h0 σ ga se set L) {f : Nat → Nat → Nat} (y : GW h0 h (sA σ) f set L ga se) : CRep h σ ∧ Cf0 h0 h := by
  obtain ⟨x1, x2, x3, x4, x5, x6, x7⟩ := id x
  obtain ⟨y1, y2, y3, y4⟩ := y
  have z := x.gw.2.2.2
  have n := x1.1.2.1
  have t3 := z.2.2.1
  have b := x1.2.1
  have fa := y1.fa (S := gaS ga) (fun a k q => q)
  refine ⟨x1.ty fa (by rw [x2]; exact x5) (fun a q => by rw [x2]; exact z.dy a q) (fun h9 => ?_) (fun _ => by rw [x2, x3]; exact y2), Cf0.of y1 (fun a k q => by unfold gaS at q; unfold cfP; omega)⟩
  exact (x1.2.2.2.1 h9).cg (fun a h1 h2 => y1.K a) (fun k => y1.R _ k)
theorem GmOk.ks {h : Hp} {ga se : Nat} (x : GmOk h ga se) : hK h ga = (1, 0) ∧ hR h ga 0 = se ∧ hR h ga 1 = ga + 1 ∧ hR h ga 2 = ga + 2 ∧ hR h ga 3 = ga + 3 ∧ hR h ga 4 = ga + 4 ∧ hR h ga 5 = ga + 5 ∧ hK h (ga + 1) = (21, 1600) ∧ hK h (ga + 2) = (21, 9600) ∧ hK h (ga + 3) = (21, 3200) ∧ hK h (ga + 4) = (21, 3200) ∧ hK h (ga + 5) = (21, 3200) := x
/-- a chain of dives -/
def ChL (h : Hp) (ga : Nat) : Int → List Nat → Prop
  | v, [] => v = -1
  | v, d :: l => v = (d : Int) ∧ d < 9600 ∧ ChL h ga (hI h (ga + 2) d) l
theorem ChL.cg {h h' : Hp} {ga : Nat} : ∀ (l : List Nat) (v : Int), (∀ d, d ∈ l → hI h' (ga + 2) d = hI h (ga + 2) d) → ChL h ga v l → ChL h' ga v l := by
  intro l
  induction l with
  | nil => intro v _ x; exact x
  | cons d l ih =>
    intro v e x
    obtain ⟨x1, x2, x3⟩ := x
    exact ⟨x1, x2, by rw [e d List.mem_cons_self]; exact ih _ (fun c hc => e c (List.mem_cons_of_mem _ hc)) x3⟩
def CHm (f : Nat → Nat → Nat) (set G : Nat) (L : List Nat) (p0 g0 q d : Nat) : Prop := ∃ p g, d = 6 * p + g ∧ (p < p0 ∨ (p = p0 ∧ g < g0)) ∧ p < L.length ∧ g < G ∧ set.testBit g = true ∧ f g (L.getD p 0) = L.getD q 0
def CHs (h : Hp) (ga : Nat) (f : Nat → Nat → Nat) (set G : Nat) (L : List Nat) (p0 g0 : Nat) : Prop := ∀ q, q < L.length → ∃ l : List Nat, ChL h ga (hI h (ga + 1) q) l ∧ l.Nodup ∧ ∀ d, d ∈ l ↔ CHm f set G L p0 g0 q d
theorem CHs.of {h : Hp} {ga : Nat} {f : Nat → Nat → Nat} {set G : Nat} {L : List Nat} {p0 g0 p1 g1 : Nat} (x : CHs h ga f set G L p0 g0) (e : ∀ q d, CHm f set G L p0 g0 q d ↔ CHm f set G L p1 g1 q d) : CHs h ga f set G L p1 g1 := fun q hq => by
  obtain ⟨l, a, b, c⟩ := x q hq
  exact ⟨l, a, b, fun d => (c d).trans (e q d)⟩
def chP (ga a _k : Nat) : Prop := a = ga + 1 ∨ a = ga + 2
theorem ch_ga {ga a k : Nat} (q : chP ga a k) : gaS ga a := by unfold chP at q; unfold gaS; omega
theorem ch_no {ga k : Nat} : ¬ chP ga ga k := by unfold chP; omega
theorem ix_6 {p g : Nat} (hp : p < 1600) (hg : g < 6) : w32 ((p : Int) * 6) = ((6 * p : Nat) : Int) ∧ w32 (((6 * p : Nat) : Int) + (g : Int)) = ((6 * p + g : Nat) : Int) ∧ ((6 * p + g : Nat) : Int) < 9600 ∧ 6 * p + g < 9600 := ⟨by rw [w32_i (by omega) (by omega)]; omega, w32_ll (by omega), by omega, by omega⟩
theorem CHs.put {h : Hp} {ga : Nat} {f : Nat → Nat → Nat} {set G : Nat} {L : List Nat} {p g q : Nat} (o : lsOk L) (lk : L.length ≤ 1600) (G6 : G ≤ 6) (x : CHs h ga f set G L p g) (hp : p < L.length) (hg : g < G) (hb : set.testBit g = true) (hq : q < L.length) (eq : L.getD q 0 = f g (L.getD p 0)) : CHs (wI (wI h (ga + 2) (6 * p + g) (hI h (ga + 1) q)) (ga + 1) q ((6 * p + g : Nat) : Int)) ga f set G L p (g + 1) := by
  have nd : ∀ r, ¬ CHm f set G L p g r (6 * p + g) := fun r ⟨p', g', e1, e2, e3, e4, _⟩ => by omega
  have pl := lk
  intro r hr
  obtain ⟨l, l1, l2, l3⟩ := x r hr
  have ni : ∀ d, d ∈ l → hI (wI (wI h (ga + 2) (6 * p + g) (hI h (ga + 1) q)) (ga + 1) q ((6 * p + g : Nat) : Int)) (ga + 2) d = hI h (ga + 2) d := fun d hd => by
    have hne : d ≠ 6 * p + g := fun c => nd r (by rw [← c]; exact (l3 d).1 hd)
    rw [hI_wI, if_neg (by omega), hI_wI, if_neg (fun c => hne c.2)]
  by_cases hrq : r = q
  · subst hrq
    refine ⟨(6 * p + g) :: l, ⟨by rw [hI_wI, if_pos ⟨rfl, rfl⟩], by omega, ?_⟩, List.nodup_cons.2 ⟨fun c => nd r ((l3 _).1 c), l2⟩, fun d => ?_⟩
    · rw [hI_wI, if_neg (by omega), hI_wI, if_pos ⟨rfl, rfl⟩]
      exact ChL.cg l _ ni l1
    · rw [List.mem_cons, l3]
      constructor
      · rintro (h1 | ⟨p', g', e1, e2, e3⟩)
        · exact ⟨p, g, h1, Or.inr ⟨rfl, Nat.lt_succ_self g⟩, hp, hg, hb, eq.symm⟩
        · exact ⟨p', g', e1, by omega, e3⟩
      · rintro ⟨p', g', e1, e2, e3⟩
        by_cases hc : p' = p ∧ g' = g
        · exact Or.inl (by rw [e1, hc.1, hc.2])
        · exact Or.inr ⟨p', g', e1, by omega, e3⟩
  · refine ⟨l, ?_, l2, fun d => ?_⟩
    · rw [hI_wI, if_neg (fun c => hrq c.2), hI_wI, if_neg (by omega)]
      exact ChL.cg l _ ni l1
    · rw [l3]
      constructor
      · rintro ⟨p', g', e1, e2, e3⟩; exact ⟨p', g', e1, by omega, e3⟩
      · rintro ⟨p', g', e1, e2, e3, e4, e5, e6⟩
        by_cases hc : p' = p ∧ g' = g
        · rw [hc.1, hc.2, ← eq] at e6
          exact absurd (getD_inj o hr hq e6.symm) hrq
        · exact ⟨p', g', e1, by omega, e3, e4, e5, e6⟩
theorem n_ga {ga : Nat} : ¬ (ga + 1 = ga + 2) ∧ ¬ (ga + 2 = ga + 1) ∧ ¬ (ga = ga + 1) ∧ ¬ (ga = ga + 2) := by omega
set_option maxHeartbeats 1000000 in
theorem S_gBegin {d : Nat} {Q : Option PV → Hp → Prop} {h0 h : Hp} {A : Nat → Int} {f : Nat → Nat → Nat} {L : List Nat} {ga se G one other : Nat} (x : GW h0 h A f (one ||| other) L ga se) (hG : A 2 = (G : Int)) (o1 : one < 64) (o2 : other < 64)
    (k : ∀ h', GW h0 h' A f (one ||| other) L ga se → hI h' ga 7 = (one : Int) → hI h' ga 8 = (other : Int) → CHs h' ga f (one ||| other) G L L.length 0 → Q none h') :
    WP (d + 3) mX1_begin 0 [some (.inr (.inr ga)), some (.inl (one : Int)), some (.inl (other : Int)), none, none, none] [] h Q := by
  have ok := x.2.2.1.2.2.2.1
  have lk := x.2.2.1.le
  have t3 := x.2.2.2.2.2.1
  have g0 : 200 ≤ ga := by omega
  have g1 : 200 ≤ ga + 1 := by omega
  have g2 : 200 ≤ ga + 2 := by omega
  have G6 : G ≤ 6 := by have := x.2.2.1.2.2.2.2.2.2.2.1.2.2.2.1; omega
  have ob := ior_n (a := one) (b := other) (Nat.lt_trans o1 (by decide)) (Nat.lt_trans o2 (by decide))
  have s64 : one ||| other < 64 := Nat.or_lt_two_pow (n := 6) o1 o2
  have s31 := v_31 s64
  obtain ⟨K0, R0, _⟩ := x.2.1.ks
  simp only [rX1_begin_0, rX1_begin_1, rX1_begin_2, rX1_begin_5, rX1_begin_6, rX1_begin_7, rX1_begin_10, rX1_begin_11, K0, g0, hK_wI, Int.toNat_natCast, Int.natCast_nonneg, true_and, and_true, and_self, if_true, if_false, or_true, true_or, or_false, false_or, ne_eq, not_true_eq_false, not_false_eq_true, Nat.reduceLeDiff, Nat.reduceEqDiff, Nat.reduceLT, Nat.reduceAdd, Nat.reduceMul, Nat.reduceSub, Int.reduceLT, Int.reduceLE, Int.reduceEq, Int.reduceToNat, Int.reduceAdd, Int.reduceSub, Int.reduceMul, Int.reduceNeg, Int.cast_ofNat_Int, false_and, and_false]
  have f1 : Fp (fun a _ => gaS ga a) h (wI (wI h ga 7 (one : Int)) ga 8 (other : Int)) := ((Fp.refl (fun a _ => gaS ga a) h).wI ⟨Nat.le_refl _, Nat.le_add_right _ _⟩ _).wI ⟨Nat.le_refl _, Nat.le_add_right _ _⟩ _
  have e7 : hI (wI (wI h ga 7 (one : Int)) ga 8 (other : Int)) ga 7 = (one : Int) := by rw [hI_wI, if_neg (by omega), hI_wI, if_pos ⟨rfl, rfl⟩]
  have e8 : hI (wI (wI h ga 7 (one : Int)) ga 8 (other : Int)) ga 8 = (other : Int) := by rw [hI_wI, if_pos ⟨rfl, rfl⟩]
  have x1 := x.fp f1 (fun a k q => q)
  generalize wI (wI h ga 7 (one : Int)) ga 8 (other : Int) = h1 at f1 e7 e8 x1 ⊢
  refine wp_for (fun i e => WP (d + 3) mX1_begin 12 [some (.inr (.inr ga)), some (.inl (one : Int)), some (.inl (other : Int)), some (.inl (i : Int)), none, none] [] e Q) (fun i e => Fp (chP ga) h1 e ∧ ∀ p, p < i → hI e (ga + 1) p = -1) L.length ?_ ?_ 0 h1 (Nat.zero_le _) ⟨Fp.refl _ h1, fun p hp => absurd hp (Nat.not_lt_zero _)⟩
  · rintro i e hi ⟨fe, ze⟩ kk
    have xe := x1.fp fe (fun a k q => ch_ga q)
    obtain ⟨K0, R0, R1, R2, R3, R4, R5, K1, _⟩ := xe.2.1.ks
    have KS := xe.2.2.1.2.1.1
    have len := xe.2.2.1.2.2.1
    obtain ⟨c1, c2, c3, c4⟩ := i_16 lk hi
    rw [rX1_begin_12]
    simp only [rX1_begin_13, rX1_begin_14, rX1_begin_17, rX1_begin_20, rX1_begin_23, rX1_begin_24, rX1_begin_27, rX1_begin_28, rX1_begin_29, rX1_begin_30, rX1_begin_33, K0, R0, R1, K1, KS, len, c1, c2, c3, g1, Int.toNat_natCast, Int.natCast_nonneg, true_and, and_true, and_self, if_true, if_false, or_true, true_or, or_false, false_or, ne_eq, not_true_eq_false, not_false_eq_true, Nat.reduceLeDiff, Nat.reduceEqDiff, Nat.reduceLT, Nat.reduceAdd, Nat.reduceMul, Nat.reduceSub, Int.reduceLT, Int.reduceLE, Int.reduceEq, Int.reduceToNat, Int.reduceAdd, Int.reduceSub, Int.reduceMul, Int.reduceNeg, Int.cast_ofNat_Int, false_and, and_false]
    refine kk _ ⟨fe.wI (Or.inl rfl) _, fun p hp => ?_⟩
    rw [hI_wI]
    by_cases hpi : p = i
    · rw [if_pos ⟨rfl, hpi⟩]
    · rw [if_neg (fun q => hpi q.2)]; exact ze p (lt_one hp hpi)
  · rintro e0 ⟨fe0, ze0⟩
    have xe0 := x1.fp fe0 (fun a k q => ch_ga q)
    obtain ⟨K0, R0, _⟩ := xe0.2.1.ks
    have KS := xe0.2.2.1.2.1.1
    have len := xe0.2.2.1.2.2.1
    rw [rX1_begin_12]
    simp only [rX1_begin_13, rX1_begin_14, rX1_begin_17, rX1_begin_20, rX1_begin_36, rX1_begin_37, K0, R0, KS, len, Int.lt_irrefl, Int.toNat_natCast, Int.natCast_nonneg, true_and, and_true, and_self, if_true, if_false, or_true, true_or, or_false, false_or, ne_eq, not_true_eq_false, not_false_eq_true, Nat.reduceLeDiff, Nat.reduceEqDiff, Nat.reduceLT, Nat.reduceAdd, Nat.reduceMul, Nat.reduceSub, Int.reduceLT, Int.reduceLE, Int.reduceEq, Int.reduceToNat, Int.reduceAdd, Int.reduceSub, Int.reduceMul, Int.reduceNeg, Int.cast_ofNat_Int, false_and, and_false]
    have inner : ∀ (p : Nat), p < L.length → (∀ (e : Hp) (y5 : Option PV), Fp (chP ga) h1 e → CHs e ga f (one ||| other) G L p G → WP (d + 3) mX1_begin 135 [some (.inr (.inr ga)), some (.inl (one : Int)), some (.inl (other : Int)), some (.inl (p : Int)), some (.inl (G : Int)), y5] [] e Q) → ∀ n g (e : Hp) (y5 : Option PV), g + n = G → Fp (chP ga) h1 e → CHs e ga f (one ||| other) G L p g → WP (d + 3) mX1_begin 52 [some (.inr (.inr ga)), some (.inl (one : Int)), some (.inl (other : Int)), some (.inl (p : Int)), some (.inl (g : Int)), y5] [] e Q := by
      intro p hp kk n
      obtain ⟨p1, p2, p3, p4⟩ := i_16 lk hp
      induction n with
      | zero =>
        intro g e y5 hg fe ce
        have eg : g = G := hg
        subst eg
        have xe := x1.fp fe (fun a k q => ch_ga q)
        obtain ⟨K0, R0, _⟩ := xe.2.1.ks
        have KS := xe.2.2.1.2.1.1
        obtain ⟨pp, P0, PK, PG⟩ := xe.2.2.1.pl
        rw [rX1_begin_52]
        simp only [rX1_begin_54, rX1_begin_55, rX1_begin_58, rX1_begin_61, rX1_begin_64, K0, R0, KS, P0, PK, PG, hG, Int.lt_irrefl, Int.toNat_natCast, Int.natCast_nonneg, true_and, and_true, and_self, if_true, if_false, or_true, true_or, or_false, false_or, ne_eq, not_true_eq_false, not_false_eq_true, Nat.reduceLeDiff, Nat.reduceEqDiff, Nat.reduceLT, Nat.reduceAdd, Nat.reduceMul, Nat.reduceSub, Int.reduceLT, Int.reduceLE, Int.reduceEq, Int.reduceToNat, Int.reduceAdd, Int.reduceSub, Int.reduceMul, Int.reduceNeg, Int.cast_ofNat_Int, false_and, and_false]
        exact kk e y5 fe ce
      | succ n ih =>
        intro g e y5 hg fe ce
        obtain ⟨gG, hn⟩ := gm_n hg
        obtain ⟨gG', g6, gs⟩ := g_6 gG G6
        have g31 : g < 31 := Nat.lt_trans g6 (by decide)
        have xe := x1.fp fe (fun a k q => ch_ga q)
        obtain ⟨K0, R0, R1, R2, R3, R4, R5, K1, K2, _⟩ := xe.2.1.ks
        have KS := xe.2.2.1.2.1.1
        obtain ⟨pp, P0, PK, PG⟩ := xe.2.2.1.pl
        have q7 : hI e ga 7 = (one : Int) := by rw [fe.I ch_no]; exact e7
        have q8 : hI e ga 8 = (other : Int) := by rw [fe.I ch_no]; exact e8
        rw [rX1_begin_52]
        simp only [rX1_begin_54, rX1_begin_55, rX1_begin_58, rX1_begin_61, rX1_begin_64, rX1_begin_67, rX1_begin_68, rX1_begin_71, rX1_begin_72, rX1_begin_75, rX1_begin_76, rX1_begin_78, rX1_begin_81, K0, R0, KS, P0, PK, PG, hG, gG', q7, q8, ob, S_has (b := one ||| other) (i := g) s31 g31, psh_some, Int.toNat_natCast, Int.natCast_nonneg, true_and, and_true, and_self, if_true, if_false, or_true, true_or, or_false, false_or, ne_eq, not_true_eq_false, not_false_eq_true, Nat.reduceLeDiff, Nat.reduceEqDiff, Nat.reduceLT, Nat.reduceAdd, Nat.reduceMul, Nat.reduceSub, Int.reduceLT, Int.reduceLE, Int.reduceEq, Int.reduceToNat, Int.reduceAdd, Int.reduceSub, Int.reduceMul, Int.reduceNeg, Int.cast_ofNat_Int, false_and, and_false]
        by_cases hb : (one ||| other).testBit g = true
        · simp only [if_pos hb]
          rw [if_neg (by decide)]
          obtain ⟨q, hq, eq, pa⟩ := S_placeAfter xe.2.2.1 hp (by rw [hG]; exact gG') hb
          obtain ⟨q1, q2, q3, q4⟩ := i_16 lk hq
          obtain ⟨i1, i2, i3, i4⟩ := ix_6 p4 g6
          have nw := (n_ga (ga := ga)).1
          simp only [rX1_begin_84, rX1_begin_85, rX1_begin_88, rX1_begin_90, rX1_begin_91, rX1_begin_94, rX1_begin_96, rX1_begin_97, rX1_begin_100, rX1_begin_101, rX1_begin_103, rX1_begin_104, rX1_begin_106, rX1_begin_107, rX1_begin_108, rX1_begin_111, rX1_begin_113, rX1_begin_114, rX1_begin_115, rX1_begin_116, rX1_begin_119, rX1_begin_121, rX1_begin_122, rX1_begin_124, rX1_begin_125, rX1_begin_127, rX1_begin_128, rX1_begin_129, rX1_begin_132, hN_wI, hN_wJ, hN_wR, hS_wI, hS_wJ, hS_wR, hK_wI, hK_wJ, hK_wR, hI_wI, hI_wJ, hI_wR, hJ_wI, hJ_wJ, hJ_wR, hR_wI, hR_wJ, hR_wR, hN_nw, hS_nw, hK_nw, hI_nw, hJ_nw, hR_nw, psh_some, psh_none, K0, R0, R1, R2, K1, K2, KS, pa, psh_some, q2, i1, i2, i3, g1, g2, gs, nw, Int.toNat_natCast, Int.natCast_nonneg, true_and, and_true, and_self, if_true, if_false, or_true, true_or, or_false, false_or, ne_eq, not_true_eq_false, not_false_eq_true, Nat.reduceLeDiff, Nat.reduceEqDiff, Nat.reduceLT, Nat.reduceAdd, Nat.reduceMul, Nat.reduceSub, Int.reduceLT, Int.reduceLE, Int.reduceEq, Int.reduceToNat, Int.reduceAdd, Int.reduceSub, Int.reduceMul, Int.reduceNeg, Int.cast_ofNat_Int, false_and, and_false]
          refine ih (g + 1) _ _ hn ((fe.wI (Or.inr rfl) _).wI (Or.inl rfl) _) (ce.put ok lk G6 hp gG hb hq eq)
        · simp only [if_neg hb]
          rw [if_pos (by trivial)]
          simp only [rX1_begin_129, rX1_begin_132, gs]
          refine ih (g + 1) e _ hn fe (ce.of (fun q d => ?_))
          constructor
          · rintro ⟨p', g', e1, e2, e3⟩; exact ⟨p', g', e1, e2.elim Or.inl (fun c => Or.inr ⟨c.1, Nat.lt_succ_of_lt c.2⟩), e3⟩
          · rintro ⟨p', g', e1, e2, e3, e4, e5, e6⟩
            refine ⟨p', g', e1, e2.elim Or.inl (fun c => Or.inr ⟨c.1, lt_one c.2 (fun z => ?_)⟩), e3, e4, e5, e6⟩
            rw [z] at e5; exact hb e5
    have outer : ∀ n p (e : Hp) (y4 y5 : Option PV), p + n = L.length → Fp (chP ga) h1 e → CHs e ga f (one ||| other) G L p 0 → WP (d + 3) mX1_begin 38 [some (.inr (.inr ga)), some (.inl (one : Int)), some (.inl (other : Int)), some (.inl (p : Int)), y4, y5] [] e Q := by
      intro n
      induction n with
      | zero =>
        intro p e y4 y5 hp fe ce
        have ep : p = L.length := hp
        subst ep
        have xe := x1.fp fe (fun a k q => ch_ga q)
        obtain ⟨K0, R0, _⟩ := xe.2.1.ks
        have KS := xe.2.2.1.2.1.1
        have len := xe.2.2.1.2.2.1
        rw [rX1_begin_38]
        simp only [rX1_begin_39, rX1_begin_40, rX1_begin_43, rX1_begin_46, rX1_begin_141, K0, R0, KS, len, Int.lt_irrefl, Int.toNat_natCast, Int.natCast_nonneg, true_and, and_true, and_self, if_true, if_false, or_true, true_or, or_false, false_or, ne_eq, not_true_eq_false, not_false_eq_true, Nat.reduceLeDiff, Nat.reduceEqDiff, Nat.reduceLT, Nat.reduceAdd, Nat.reduceMul, Nat.reduceSub, Int.reduceLT, Int.reduceLE, Int.reduceEq, Int.reduceToNat, Int.reduceAdd, Int.reduceSub, Int.reduceMul, Int.reduceNeg, Int.cast_ofNat_Int, false_and, and_false]
        exact k e xe (by rw [fe.I ch_no]; exact e7) (by rw [fe.I ch_no]; exact e8) ce
      | succ n ih =>
        intro p e y4 y5 hp fe ce
        obtain ⟨pl, hn⟩ := gm_n hp
        obtain ⟨p1, p2, p3, p4⟩ := i_16 lk pl
        have xe := x1.fp fe (fun a k q => ch_ga q)
        obtain ⟨K0, R0, _⟩ := xe.2.1.ks
        have KS := xe.2.2.1.2.1.1
        have len := xe.2.2.1.2.2.1
        rw [rX1_begin_38]
        simp only [rX1_begin_39, rX1_begin_40, rX1_begin_43, rX1_begin_46, rX1_begin_49, rX1_begin_50, K0, R0, KS, len, p1, Int.toNat_natCast, Int.natCast_nonneg, true_and, and_true, and_self, if_true, if_false, or_true, true_or, or_false, false_or, ne_eq, not_true_eq_false, not_false_eq_true, Nat.reduceLeDiff, Nat.reduceEqDiff, Nat.reduceLT, Nat.reduceAdd, Nat.reduceMul, Nat.reduceSub, Int.reduceLT, Int.reduceLE, Int.reduceEq, Int.reduceToNat, Int.reduceAdd, Int.reduceSub, Int.reduceMul, Int.reduceNeg, Int.cast_ofNat_Int, false_and, and_false]
        refine inner p pl ?_ G 0 e _ (Nat.zero_add _) fe ce
        intro e2 z5 f2 c2
        simp only [rX1_begin_135, rX1_begin_138, p3]
        refine ih (p + 1) e2 _ _ hn f2 (c2.of (fun q d => ?_))
        constructor
        · rintro ⟨p', g', e1, e2, e3⟩; exact ⟨p', g', e1, Or.inl (e2.elim (fun c => Nat.lt_succ_of_lt c) (fun c => by rw [c.1]; exact Nat.lt_succ_self p)), e3⟩
        · rintro ⟨p', g', e1, e2, e3, e4, e5⟩
          have hlt : p' < p + 1 := e2.elim id (fun c => absurd c.2 (Nat.not_lt_zero _))
          by_cases hpp : p' = p
          · exact ⟨p', g', e1, Or.inr ⟨hpp, e4⟩, e3, e4, e5⟩
          · exact ⟨p', g', e1, Or.inl (lt_one hlt hpp), e3, e4, e5⟩
    refine outer L.length 0 e0 _ _ (Nat.zero_add _) fe0 (fun q hq => ⟨[], ?_, List.nodup_nil, fun d => ⟨fun c => absurd c List.not_mem_nil, fun ⟨p', g', e1, e2, _⟩ => ?_⟩⟩)
    · exact ze0 q hq
    · exact absurd e2 (fun c => c.elim (Nat.not_lt_zero _) (fun c => Nat.not_lt_zero _ c.2))
