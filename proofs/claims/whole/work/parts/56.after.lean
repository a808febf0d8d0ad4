/-! the class's search: where a dive leads -/
theorem S_stateOf {d : Nat} {h : Hp} {Q : Option PV → Hp → Prop} {b t : Nat} (hb : b ≤ 99) (ht : t < 64) : WP d mX11_stateOf 0 [some (.inl (b : Int)), some (.inl (t : Int))] [] h Q = Q (some (.inl ((100 * t + b : Nat) : Int))) h := by
  have e1 : w32 ((t : Int) * 100) = ((100 * t : Nat) : Int) := by rw [w32_i (by omega) (by omega)]; omega
  have e2 : w32 (((100 * t : Nat) : Int) + (b : Int)) = ((100 * t + b : Nat) : Int) := w32_ll (by omega)
  simp only [rX11_stateOf_0, rX11_stateOf_1, rX11_stateOf_3, rX11_stateOf_4, rX11_stateOf_5, rX11_stateOf_6, e1, e2]
theorem S_boardOf {d : Nat} {h : Hp} {Q : Option PV → Hp → Prop} {s : Nat} : WP d mX11_boardOf 0 [some (.inl (s : Int))] [] h Q = Q (some (.inl ((s % 100 : Nat) : Int))) h := by
  have e : (s : Int).tmod 100 = ((s % 100 : Nat) : Int) := by rw [tmod_n (by omega)]; omega
  simp only [rX11_boardOf_0, rX11_boardOf_1, rX11_boardOf_3, rX11_boardOf_4, e, Int.toNat_natCast, Int.natCast_nonneg, true_and, and_true, and_self, if_true, if_false, or_true, true_or, or_false, false_or, ne_eq, not_true_eq_false, not_false_eq_true, Nat.reduceLeDiff, Nat.reduceEqDiff, Nat.reduceLT, Nat.reduceAdd, Nat.reduceMul, Nat.reduceSub, Int.reduceLT, Int.reduceLE, Int.reduceEq, Int.reduceToNat, Int.reduceAdd, Int.reduceSub, Int.reduceMul, Int.reduceNeg, Int.cast_ofNat_Int, false_and, and_false]
theorem S_thingsOf {d : Nat} {h : Hp} {Q : Option PV → Hp → Prop} {s : Nat} (hs : s < 2147483648) : WP d mX11_thingsOf 0 [some (.inl (s : Int))] [] h Q = Q (some (.inl ((s / 100 : Nat) : Int))) h := by
  have e : w32 ((s : Int).tdiv 100) = ((s / 100 : Nat) : Int) := by rw [tdiv_n (by omega), w32_i (by omega) (by omega)]; omega
  simp only [rX11_thingsOf_0, rX11_thingsOf_1, rX11_thingsOf_3, rX11_thingsOf_4, e, Int.toNat_natCast, Int.natCast_nonneg, true_and, and_true, and_self, if_true, if_false, or_true, true_or, or_false, false_or, ne_eq, not_true_eq_false, not_false_eq_true, Nat.reduceLeDiff, Nat.reduceEqDiff, Nat.reduceLT, Nat.reduceAdd, Nat.reduceMul, Nat.reduceSub, Int.reduceLT, Int.reduceLE, Int.reduceEq, Int.reduceToNat, Int.reduceAdd, Int.reduceSub, Int.reduceMul, Int.reduceNeg, Int.cast_ofNat_Int, false_and, and_false]
theorem shr13 {n : Nat} (h : n < 2147483648) : ishr (n : Int) 13 = ((n / 8192 : Nat) : Int) := by
  have := ishr_n (a := n) (i := 13) h (by omega)
  exact this
theorem and8191 {n : Nat} (h : n < 2147483648) : iand (n : Int) 8191 = ((n % 8192 : Nat) : Int) := by
  rw [show (8191 : Int) = ((8191 : Nat) : Int) from rfl, iand_n h, show (8191 : Nat) = 2 ^ 13 - 1 from rfl, Nat.and_two_pow_sub_one_eq_mod]
theorem enc13 {a s : Nat} (ha : a ≤ 100000) (hs : s < 8192) : ior (ishl (a : Int) 13) (s : Int) = ((8192 * a + s : Nat) : Int) := by
  have e : ishl (a : Int) 13 = ((a * 2 ^ 13 : Nat) : Int) := ishl_n (a := a) (i := 13) (by omega) (by omega)
  rw [e, ior_n (by omega) (by omega)]
  have := Nat.two_pow_add_eq_or_of_lt (i := 13) (b := s) hs a
  rw [Nat.mul_comm a, ← this]
/-- where the search lies -/
def SeAt (h : Hp) (se : Nat) : Prop := hR h 200 8 = se ∧ 314 ≤ se ∧ se + 11 < 200 + hN h
theorem SeAt.fr {P : Nat → Nat → Prop} {h h' : Hp} {se : Nat} (f : Fp P h h') (x : SeAt h se) : SeAt h' se := ⟨by rw [f.R]; exact x.1, x.2.1, by rw [f.N]; exact x.2.2⟩
theorem Shp.fr {P : Nat → Nat → Prop} {h h' : Hp} {se : Nat} (f : Fp P h h') (x : Shp h se) : Shp h' se := by
  unfold Shp
  simp only [f.K, f.R]
  exact x
def srP (se a _k : Nat) : Prop := (211 ≤ a ∧ a ≤ 213) ∨ (se ≤ a ∧ a ≤ se + 11)
/-- the pool and the stand of the search -/
def SrP (h : Hp) (se : Nat) (B F : Nat → Int) : Prop := poolOk B ∧ stOk F ∧ (PoolIs h (hR h se 10) B ∧ PoolIn h (hR h se 10)) ∧ StIs h (se + 1) F
theorem SrP.fr {P : Nat → Nat → Prop} {h h' : Hp} {se : Nat} {B F : Nat → Int} (f : Fp P h h') (at' : SeAt h se) (hp : ∀ a k, P a k → srP se a k ∧ (a ≤ se ∨ se + 3 < a)) (x : SrP h se B F) : SrP h' se B F := by
  obtain ⟨x1, x2, ⟨x3, x4⟩, x5⟩ := x
  obtain ⟨a1, a2, a3⟩ := at'
  have fa := f.fa (S := fun a => (211 ≤ a ∧ a ≤ 213) ∨ (se ≤ a ∧ a ≤ se + 11)) (fun a k q => (hp a k q).1)
  have pc : ∀ a, PlCell h (hR h se 10) a → a < 200 + hN h ∧ ¬ ((211 ≤ a ∧ a ≤ 213) ∨ (se ≤ a ∧ a ≤ se + 11)) := fun a ha => by
    obtain ⟨y1, y2, y3⟩ := x4.2 a ha
    refine ⟨y1, fun q => ?_⟩
    rcases q with q | q
    · omega
    · exact y3 (Or.inl ⟨by omega, by omega, by omega⟩)
  refine ⟨x1, x2, ?_, x5.fp f (fun a k h1 h2 q => by have := (hp a k q).2; omega)⟩
  rw [f.R]
  exact ⟨(x3.fa fa pc).1, x4.fa fa (by omega) (by omega) (pc _ (Or.inl ⟨by omega, by omega⟩)).2⟩
/-- what is kept of dives -/
def SrA (h : Hp) (se : Nat) (B F : Nat → Int) : Prop := (∀ g, g < 6 → 1 ≤ hI h (se + 5) g ∧ hI h (se + 5) g ≤ 100000) ∧ (∀ (g s : Nat), g < 6 → s < 6400 → 0 ≤ hI h (se + 4) (6400 * g + s) ∧ hI h (se + 4) (6400 * g + s) / 8192 ≤ hI h (se + 5) g ∧ ((g : Int) < B 2 → hI h (se + 4) (6400 * g + s) / 8192 = hI h (se + 5) g → hI h (se + 4) (6400 * g + s) % 8192 = (nxt B F g s : Int))) ∧ ∀ s, s < 6400 → 0 ≤ hI h (se + 7) s
theorem SrC_iff {h : Hp} {se : Nat} {B F : Nat → Int} : SrC h se B F ↔ SrP h se B F ∧ SrA h se B F := by
  unfold SrC SrP SrA
  constructor
  · rintro ⟨a, b, c, e, f, g, i⟩; exact ⟨⟨a, b, c, e⟩, f, g, i⟩
  · rintro ⟨⟨a, b, c, e⟩, f, g, i⟩; exact ⟨a, b, c, e, f, g, i⟩
theorem SrP.lk {h : Hp} {se : Nat} {B F : Nat → Int} (dv : DvOk h) (at' : SeAt h se) (sh : Shp h se) (x : SrP h se B F) {g s : Nat} (hg : g < 6) (hs : s < 6400) : LkC h (hR h se 10) (se + 1) (pdA B) g (s % 100) (s / 100) (F (2 + g)) (F (8 + g)) := by
  obtain ⟨x1, x2, ⟨x3, x4⟩, x5⟩ := x
  obtain ⟨o1, o2, o3, o4, o5⟩ := x2
  obtain ⟨o6, o7, o8, o9⟩ := o5 g hg
  obtain ⟨s1, s2⟩ := x5.2.2 g hg
  obtain ⟨a1, a2, a3⟩ := at'
  obtain ⟨_, _, _, _, _, _, _, _, _, _, _, k1, r0, r1, k2, k3, _⟩ := sh
  have r0' : hR h (se + 1) 0 = se + 1 + 1 := r0
  have r1' : hR h (se + 1) 1 = se + 1 + 2 := r1
  have sa : StAt h (se + 1) := by
    unfold StAt
    rw [r0', r1']
    exact ⟨by omega, by omega, by omega, k1, k2, k3⟩
  exact ⟨dv, x3.1, x1.2.2.2.2.1, sa, by rw [r0']; exact s1, by rw [r1']; exact s2, o6, o7, o8, o9, hg, by omega, by omega⟩
def aftP (se i a k : Nat) : Prop := (211 ≤ a ∧ a ≤ 213) ∨ (a = se + 4 ∧ k = i)
theorem ix_n {g s : Nat} (hg : g < 6) (hs : s < 6400) : w32 ((g : Int) * 6400) = ((6400 * g : Nat) : Int) ∧ w32 (((6400 * g : Nat) : Int) + (s : Int)) = ((6400 * g + s : Nat) : Int) ∧ ((6400 * g + s : Nat) : Int) < 38400 ∧ (g : Int) < 6 ∧ s / 100 < 64 ∧ s < 2147483648 := by
  refine ⟨by rw [w32_i (by omega) (by omega)]; omega, w32_ll (by omega), by omega, by omega, by omega, by omega⟩
theorem ab_n {x y : Int} {a b : Nat} (hb : x = (b : Int)) (ha : y = (a : Int)) (h1 : x / 8192 ≤ y) (h2 : y ≤ 100000) : a ≤ 100000 ∧ b < 2147483648 := by omega
theorem eq_n {a b : Nat} : ((a : Int) = (b : Int)) = (a = b) := propext ⟨fun h => by omega, fun h => by rw [h]⟩
theorem vP_aft {se i a k : Nat} (h : vP a k) : aftP se i a k := Or.inl (by unfold vP at h; omega)
theorem dm_n {x y : Int} {a b n : Nat} (hb : x = (b : Int)) (ha : y = (a : Int)) (hq : b / 8192 = a) : x / 8192 = y ∧ (x % 8192 = (n : Int) → ((b % 8192 : Nat) : Int) = (n : Int)) := by omega
theorem en_n {a n : Nat} (h1 : a ≤ 100000) (h2 : n < 6400) : 8192 * a + n < 2147483648 ∧ (8192 * a + n) % 8192 = n ∧ ((8192 * a + n : Nat) : Int) / 8192 = (a : Int) ∧ ((8192 * a + n : Nat) : Int) % 8192 = (n : Int) ∧ n < 8192 ∧ (0 : Int) ≤ ((8192 * a + n : Nat) : Int) := by omega
theorem ix_inj {g s g' s' : Nat} (hs : s < 6400) (hs' : s' < 6400) (e : 6400 * g' + s' = 6400 * g + s) : g' = g ∧ s' = s := by omega
theorem le99 {x : Int} {q : Nat} (h : x = (q : Int)) (h1 : x ≤ 99) : q ≤ 99 := by omega
set_option maxHeartbeats 2000000 in
theorem S_after {d : Nat} {Q : Option PV → Hp → Prop} {h : Hp} {se : Nat} {B F : Nat → Int} (dv : DvOk h) (at' : SeAt h se) (sh : Shp h se) (xp : SrP h se B F) (xa : SrA h se B F) {g s : Nat} (hg : (g : Int) < B 2) (hs : s < 6400)
    (k : ∀ h', Fp (aftP se (6400 * g + s)) h h' → SrA h' se B F → hI h' (se + 4) (6400 * g + s) / 8192 = hI h' (se + 5) g → Q (some (.inl (nxt B F g s : Int))) h') :
    WP (d + 4) mX7_after 0 [some (.inr (.inr se)), some (.inl (g : Int)), some (.inl (s : Int)), none] [] h Q := by
  have g6 : g < 6 := by have := xp.1.2.2.2.1; omega
  have h3 := at'.2.1
  have se4 : 200 ≤ se + 4 := by omega
  have nv : ∀ a k, 314 ≤ a → ¬ vP a k := fun a k h1 => by unfold vP; omega
  have n4 := fun k => nv (se + 4) k (by omega)
  have n5 := fun k => nv (se + 5) k (by omega)
  have n7 := fun k => nv (se + 7) k (by omega)
  have d54 : ¬ (se + 5 = se + 4) := by omega
  have d74 : ¬ (se + 7 = se + 4) := by omega
  obtain ⟨e1, e2, e3, g6', s64, s31⟩ := ix_n g6 hs
  have L := xp.lk dv at' sh g6 hs
  have nlt : nxt B F g s < 6400 := nxt_lt xp.1.2.2.2.2.1 hs
  obtain ⟨K0, R0, R1, R2, R3, R4, R5, R6, R7, R8, R9, K1, r0, r1, K2, K3, K4, K5, K6, K7, K8, K9, K10, K11⟩ := id sh
  obtain ⟨ag, bh, pl⟩ := id xa
  obtain ⟨ag1, ag2⟩ := ag g g6
  obtain ⟨b1, b2, b3⟩ := bh g s g6 hs
  obtain ⟨b, hb⟩ := Int.eq_ofNat_of_zero_le b1
  obtain ⟨a, ha⟩ := Int.eq_ofNat_of_zero_le (Int.le_trans (by decide) ag1)
  have hb' : hI h (se + 4) (6400 * g + s) = (b : Int) := hb
  have ha' : hI h (se + 5) g = (a : Int) := ha
  obtain ⟨a10, b31⟩ := ab_n hb' ha' b2 ag2
  have ev := shr13 b31
  simp only [rX7_after_0, rX7_after_1, rX7_after_4, rX7_after_5, rX7_after_6, rX7_after_7, rX7_after_8, rX7_after_9, rX7_after_12, rX7_after_13, rX7_after_14, rX7_after_16, rX7_after_17, rX7_after_18, rX7_after_21, rX7_after_22, rX7_after_23, K0, R2, R3, K4, K5, e1, e2, e3, g6', hb', ha', ev, Int.toNat_natCast, Int.natCast_nonneg, true_and, and_true, and_self, if_true, if_false, or_true, true_or, or_false, false_or, ne_eq, not_true_eq_false, not_false_eq_true, Nat.reduceLeDiff, Nat.reduceEqDiff, Nat.reduceLT, Nat.reduceAdd, Nat.reduceMul, Nat.reduceSub, Int.reduceLT, Int.reduceLE, Int.reduceEq, Int.reduceToNat, Int.reduceAdd, Int.reduceSub, Int.reduceMul, Int.reduceNeg, Int.cast_ofNat_Int, false_and, and_false]
  by_cases hq : b / 8192 = a
  · rw [if_pos (congrArg Nat.cast hq)]
    have e5 := and8191 b31
    have dm := dm_n (n := nxt B F g s) hb' ha' hq
    have e6 := dm.2 (b3 hg dm.1)
    simp only [rX7_after_83, rX7_after_84, rX7_after_87, rX7_after_88, rX7_after_89, rX7_after_92, rX7_after_93, K0, R2, K4, e3, hb', e5, e6, Int.toNat_natCast, Int.natCast_nonneg, true_and, and_true, and_self, if_true, if_false, or_true, true_or, or_false, false_or, ne_eq, not_true_eq_false, not_false_eq_true, Nat.reduceLeDiff, Nat.reduceEqDiff, Nat.reduceLT, Nat.reduceAdd, Nat.reduceMul, Nat.reduceSub, Int.reduceLT, Int.reduceLE, Int.reduceEq, Int.reduceToNat, Int.reduceAdd, Int.reduceSub, Int.reduceMul, Int.reduceNeg, Int.cast_ofNat_Int, false_and, and_false]
    exact k h (Fp.refl _ h) xa dm.1
  · rw [if_neg (fun q => hq (by rw [eq_n] at q; exact q))]
    simp only [rX7_after_26, rX7_after_27, rX7_after_30, rX7_after_31, rX7_after_34, rX7_after_35, rX7_after_38, rX7_after_39, rX7_after_40, rX7_after_43, rX7_after_44, rX7_after_47, K0, R0, R1, dv.1, S_boardOf, S_thingsOf s31, psh_some, Int.toNat_natCast, Int.natCast_nonneg, true_and, and_true, and_self, if_true, if_false, or_true, true_or, or_false, false_or, ne_eq, not_true_eq_false, not_false_eq_true, Nat.reduceLeDiff, Nat.reduceEqDiff, Nat.reduceLT, Nat.reduceAdd, Nat.reduceMul, Nat.reduceSub, Int.reduceLT, Int.reduceLE, Int.reduceEq, Int.reduceToNat, Int.reduceAdd, Int.reduceSub, Int.reduceMul, Int.reduceNeg, Int.cast_ofNat_Int, false_and, and_false]
    refine S_look L ?_
    intro h1 f1 a1 a2 a3
    have dv1 := dv.fr f1
    have sh1 := sh.fr f1
    obtain ⟨K0', R0', R1', R2', R3', R4', R5', R6', R7', R8', R9', K1', r0', r1', K2', K3', K4', K5', K6', _⟩ := id sh1
    have ha1 : hI h1 (se + 5) g = (a : Int) := by rw [f1.I (n5 _)]; exact ha'
    have pin := dPst_in (p := pdA B) (br := F (2 + g)) (bo := F (8 + g)) (g := g) (th := s / 100) (bd := s % 100)
    have tin := dThr_in xp.1.2.2.2.2.1 (br := F (2 + g)) (bo := F (8 + g)) (g := g) (th := s / 100) (bd := s % 100) s64
    obtain ⟨q, hq'⟩ := Int.eq_ofNat_of_zero_le pin.1
    have q99 : q ≤ 99 := le99 hq' pin.2
    have nx : nxt B F g s = 100 * dThr (pdA B) (F (2 + g)) (F (8 + g)) g (s / 100) (s % 100) + q := by unfold nxt; rw [hq']; rfl
    rw [hq'] at a3
    obtain ⟨v31, v8, div, mdl, n81, v0⟩ := en_n a10 nlt
    have e7 := enc13 a10 n81
    have e9 := and8191 v31
    rw [v8] at e9
    simp only [psh_none, rX7_after_50, rX7_after_51, rX7_after_54, rX7_after_55, rX7_after_56, rX7_after_59, rX7_after_60, rX7_after_61, rX7_after_63, rX7_after_64, rX7_after_65, rX7_after_68, rX7_after_71, rX7_after_72, rX7_after_75, rX7_after_78, rX7_after_81, rX7_after_82, rX7_after_83, rX7_after_84, rX7_after_87, rX7_after_88, rX7_after_89, rX7_after_92, rX7_after_93, hN_wI, hN_wJ, hN_wR, hS_wI, hS_wJ, hS_wR, hK_wI, hK_wJ, hK_wR, hI_wI, hI_wJ, hI_wR, hJ_wI, hJ_wJ, hJ_wR, hR_wI, hR_wJ, hR_wR, hN_nw, hS_nw, hK_nw, hI_nw, hJ_nw, hR_nw, psh_some, psh_none, K0', R0', R2', R3', K4', K5', e3, g6', ha1, a2, a3, dv1.1, S_stateOf q99 tin, ← nx, psh_some, e7, e9, se4, Int.toNat_natCast, Int.natCast_nonneg, true_and, and_true, and_self, if_true, if_false, or_true, true_or, or_false, false_or, ne_eq, not_true_eq_false, not_false_eq_true, Nat.reduceLeDiff, Nat.reduceEqDiff, Nat.reduceLT, Nat.reduceAdd, Nat.reduceMul, Nat.reduceSub, Int.reduceLT, Int.reduceLE, Int.reduceEq, Int.reduceToNat, Int.reduceAdd, Int.reduceSub, Int.reduceMul, Int.reduceNeg, Int.cast_ofNat_Int, false_and, and_false]
    have f2 : Fp (aftP se (6400 * g + s)) h (wI h1 (se + 4) (6400 * g + s) ((8192 * a + nxt B F g s : Nat) : Int)) := (f1.mono (fun a k q => vP_aft q)).wI (Or.inr ⟨rfl, rfl⟩) _
    have i5 : ∀ j, hI (wI h1 (se + 4) (6400 * g + s) ((8192 * a + nxt B F g s : Nat) : Int)) (se + 5) j = hI h (se + 5) j := fun j => by rw [hI_wI, if_neg (fun q => d54 q.1), f1.I (n5 _)]
    have i4 : ∀ j, hI (wI h1 (se + 4) (6400 * g + s) ((8192 * a + nxt B F g s : Nat) : Int)) (se + 4) j = if j = 6400 * g + s then ((8192 * a + nxt B F g s : Nat) : Int) else hI h (se + 4) j := fun j => by
      rw [hI_wI]
      by_cases hj : j = 6400 * g + s
      · rw [if_pos ⟨rfl, hj⟩, if_pos hj]
      · rw [if_neg (fun q => hj q.2), if_neg hj, f1.I (n4 _)]
    have i7 : ∀ j, hI (wI h1 (se + 4) (6400 * g + s) ((8192 * a + nxt B F g s : Nat) : Int)) (se + 7) j = hI h (se + 7) j := fun j => by rw [hI_wI, if_neg (fun q => d74 q.1), f1.I (n7 _)]
    refine k _ f2 ⟨fun g' hg' => by rw [i5]; exact ag g' hg', fun g' s' hg' hs' => ?_, fun s' hs' => by rw [i7]; exact pl s' hs'⟩ ?_
    · rw [i4, i5]
      by_cases he : 6400 * g' + s' = 6400 * g + s
      · obtain ⟨eg, es⟩ := ix_inj hs hs' he
        subst eg es
        rw [if_pos rfl, ha', div, mdl]
        exact ⟨v0, Int.le_refl _, fun _ _ => rfl⟩
      · rw [if_neg he]
        exact bh g' s' hg' hs'
    · rw [i4, i5, if_pos rfl, ha', div]
