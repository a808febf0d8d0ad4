/-! the reference's whoPosted -/
def snP (a k : Nat) : Prop := a = 309
/-- what is as seen, from level m on -/
def AN (h : Hp) (f : Nat → Nat → Nat) (ok : Nat → Nat → Bool) (G l : Nat) (L : List Nat) (m : Nat → Nat) : Prop := ∀ p, p < L.length → ∀ q, m p ≤ q → q ≤ l → hI h 309 (6400 * q + L.getD p 0) = if asR f ok G l (l - q) (L.getD p 0) = true then 1 else 0
theorem x64 {q s l : Nat} (hq : q ≤ l) (hl : l ≤ 12) (hs : s < 6400) : w32 (6400 * (q : Int)) = ((6400 * q : Nat) : Int) ∧ w32 (((6400 * q : Nat) : Int) + (s : Int)) = ((6400 * q + s : Nat) : Int) ∧ ((6400 * q + s : Nat) : Int) < 83200 := ⟨by rw [w32_i (by omega) (by omega)]; omega, w32_ll (by omega), by omega⟩
theorem x64_inj {q s q' s' : Nat} (hs : s < 6400) (hs' : s' < 6400) (e : 6400 * q' + s' = 6400 * q + s) : q' = q ∧ s' = s := by omega
theorem S_goesSeen {d : Nat} {h : Hp} {Q : Option PV → Hp → Prop} {A : Nat → Int} {f : Nat → Nat → Nat} {L : List Nat} {G l j i p g : Nat} (x : RQ h A f (2 ^ G - 1) L) (hG : A 2 = (G : Int)) {z : Nat → Int} (j4 : j < 4) (ez : ∀ i, i < l → hJ h 313 (40 * j + i) = z i) (l12 : l ≤ 12) (hi : i < l) {m : Nat → Nat} (an : AN h f (okT2 z) G l L m) (hm : ∀ q, q < L.length → m q ≤ i + 1) (hp : p < L.length) (hg : g < G) : WP (d + 1) mX12_goesSeen 0 [some (.inr (.inr 294)), some (.inl (j : Int)), some (.inl (i : Int)), some (.inl (L.getD p 0 : Int)), some (.inl (g : Int)), none] [] h Q = Q (some (.inl (if lead f (okT2 z) G l i (L.getD p 0) g = true then 1 else 0))) h := by
  have mm := x.1
  have ok := x.2.2.2.1
  have G6 : G ≤ 6 := by have := x.2.2.2.2.2.2.2.2.2.1; omega
  obtain ⟨gG', g6, g1⟩ := g_6 hg G6
  have sl := getD_lt ok hp
  obtain ⟨i1, i2, i3, i4, _⟩ := ix6 g6 sl
  obtain ⟨th, tm⟩ := x.2.2.2.2.2.1 p g hp (by rw [hG]; exact gG') (all_bt hg)
  obtain ⟨q, hq, eq⟩ := mem_getD tm
  obtain ⟨c12, c1, c31, cl⟩ := d_12 hi l12
  have tl : f g (L.getD p 0) < 6400 := by rw [← eq]; exact getD_lt ok hq
  obtain ⟨y1, y2, y3⟩ := x64 cl l12 tl
  have a1 := an q hq (i + 1) (hm q hq) cl
  rw [eq] at a1
  have le := lead_e (f := f) (ok := okT2 z) (G := G) (l := l) (i := i) (s := L.getD p 0) (g := g) (a := sees (z i) ((f g (L.getD p 0) % 100 : Nat) : Int)) rfl rfl
  have i40 : i < 40 := Nat.lt_trans c12 (by decide)
  simp only [rX12_goesSeen_0, rX12_goesSeen_1, rX12_goesSeen_4, rX12_goesSeen_6, rX12_goesSeen_7, rX12_goesSeen_8, rX12_goesSeen_10, rX12_goesSeen_11, rX12_goesSeen_12, rX12_goesSeen_14, rX12_goesSeen_15, rX12_goesSeen_16, rX12_goesSeen_17, rX12_goesSeen_19, rX12_goesSeen_22, rX12_goesSeen_25, rX12_goesSeen_26, rX12_goesSeen_29, rX12_goesSeen_32, rX12_goesSeen_33, rX12_goesSeen_34, rX12_goesSeen_35, rX12_goesSeen_36, rX12_goesSeen_38, rX12_goesSeen_39, rX12_goesSeen_40, rX12_goesSeen_43, rX12_goesSeen_44, rX12_goesSeen_47, rX12_goesSeen_48, Md_K280 mm, Md_R281 mm, Md_K281 mm, Md_R282 mm, Md_K282 mm, Md_R283 mm, Md_K283 mm, Md_R284 mm, Md_K284 mm, Md_R285 mm, Md_K285 mm, Md_R286 mm, Md_K286 mm, Md_R287 mm, Md_K287 mm, Md_R288 mm, Md_K288 mm, Md_R289 mm, Md_K289 mm, Md_R290 mm, Md_K290 mm, Md_R291 mm, Md_K291 mm, Md_R292 mm, Md_K292 mm, Md_R293 mm, Md_K293 mm, Md_R294 mm, Md_K294 mm, Md_R295 mm, Md_K295 mm, Md_R296 mm, Md_K296 mm, Md_R297 mm, Md_K297 mm, Md_R298 mm, Md_K298 mm, Md_R299 mm, Md_K299 mm, i1, i2, i3, th, S_isSeen mm (s := f g (L.getD p 0)) j4 i40 (ez i hi), psh_some, c1, y1, y2, y3, a1, Int.toNat_natCast, Int.natCast_nonneg, true_and, and_true, and_self, if_true, if_false, or_true, true_or, or_false, false_or, ne_eq, not_true_eq_false, not_false_eq_true, Nat.reduceLeDiff, Nat.reduceEqDiff, Nat.reduceLT, Nat.reduceAdd, Nat.reduceMul, Nat.reduceSub, Int.reduceLT, Int.reduceLE, Int.reduceEq, Int.reduceToNat, Int.reduceAdd, Int.reduceSub, Int.reduceMul, Int.reduceNeg, Int.cast_ofNat_Int, false_and, and_false]
  rw [le]
  by_cases h1 : sees (z i) ((f g (L.getD p 0) % 100 : Nat) : Int) = true
  · by_cases h2 : asR f (okT2 z) G l (l - (i + 1)) (f g (L.getD p 0)) = true
    · simp only [h1, h2, Int.toNat_natCast, Int.natCast_nonneg, true_and, and_true, and_self, if_true, if_false, or_true, true_or, or_false, false_or, ne_eq, not_true_eq_false, not_false_eq_true, Nat.reduceLeDiff, Nat.reduceEqDiff, Nat.reduceLT, Nat.reduceAdd, Nat.reduceMul, Nat.reduceSub, Int.reduceLT, Int.reduceLE, Int.reduceEq, Int.reduceToNat, Int.reduceAdd, Int.reduceSub, Int.reduceMul, Int.reduceNeg, Int.cast_ofNat_Int, false_and, and_false, Bool.and_self, if_true]
    · rw [Bool.eq_false_iff.2 h2]
      simp only [h1, Int.toNat_natCast, Int.natCast_nonneg, true_and, and_true, and_self, if_true, if_false, or_true, true_or, or_false, false_or, ne_eq, not_true_eq_false, not_false_eq_true, Nat.reduceLeDiff, Nat.reduceEqDiff, Nat.reduceLT, Nat.reduceAdd, Nat.reduceMul, Nat.reduceSub, Int.reduceLT, Int.reduceLE, Int.reduceEq, Int.reduceToNat, Int.reduceAdd, Int.reduceSub, Int.reduceMul, Int.reduceNeg, Int.cast_ofNat_Int, false_and, and_false, Bool.and_false, Bool.false_eq_true]
  · rw [Bool.eq_false_iff.2 h1]
    simp only [Int.toNat_natCast, Int.natCast_nonneg, true_and, and_true, and_self, if_true, if_false, or_true, true_or, or_false, false_or, ne_eq, not_true_eq_false, not_false_eq_true, Nat.reduceLeDiff, Nat.reduceEqDiff, Nat.reduceLT, Nat.reduceAdd, Nat.reduceMul, Nat.reduceSub, Int.reduceLT, Int.reduceLE, Int.reduceEq, Int.reduceToNat, Int.reduceAdd, Int.reduceSub, Int.reduceMul, Int.reduceNeg, Int.cast_ofNat_Int, false_and, and_false, Bool.false_and, Bool.false_eq_true]
theorem sn_no {a k : Nat} (h : a = 295 ∨ a = 302 ∨ a = 303 ∨ a = 304 ∨ (a = 294 ∧ k = 27)) : ¬ snP a k := by unfold snP; omega
theorem or_b01 (a b : Bool) : ior (if a = true then (1 : Int) else 0) (if b = true then 1 else 0) = if (a || b) = true then 1 else 0 := or01 a b
set_option maxHeartbeats 1000000 in
theorem ls_inner {d : Nat} {Q : Option PV → Hp → Prop} {h : Hp} {A : Nat → Int} {f : Nat → Nat → Nat} {L : List Nat} {G l j i : Nat} (x : RQ h A f (2 ^ G - 1) L) (hG : A 2 = (G : Int)) {z : Nat → Int} (j4 : j < 4) (ez : ∀ i, i < l → hJ h 313 (40 * j + i) = z i) (l12 : l ≤ 12) (hi : i < l) {x2 : Option PV}
    (k : ∀ h' y5 y6, Fp snP h h' → AN h' f (okT2 z) G l L (fun _ => i) → WP (d + 2) mX12_laysSeen 138 [some (.inr (.inr 294)), some (.inl (j : Int)), x2, some (.inl (i : Int)), some (.inl (L.length : Int)), y5, y6] [] h' Q) :
    ∀ n p (e : Hp) (y5 y6 : Option PV), p + n = L.length → Fp snP h e → AN e f (okT2 z) G l L (mL i p) → WP (d + 2) mX12_laysSeen 60 [some (.inr (.inr 294)), some (.inl (j : Int)), x2, some (.inl (i : Int)), some (.inl (p : Int)), y5, y6] [] e Q := by
  have ok := x.2.2.2.1
  have G6 : G ≤ 6 := by have := x.2.2.2.2.2.2.2.2.2.1; omega
  intro n
  induction n with
  | zero =>
    intro p e y5 y6 hp fe ae
    have ep : p = L.length := hp
    subst ep
    have xe := x.fr fe (fun a k q => sn_no q)
    have me := xe.1
    rw [rX12_laysSeen_60]
    simp only [rX12_laysSeen_62, rX12_laysSeen_63, rX12_laysSeen_66, Md_K280 me, Md_R281 me, Md_K281 me, Md_R282 me, Md_K282 me, Md_R283 me, Md_K283 me, Md_R284 me, Md_K284 me, Md_R285 me, Md_K285 me, Md_R286 me, Md_K286 me, Md_R287 me, Md_K287 me, Md_R288 me, Md_K288 me, Md_R289 me, Md_K289 me, Md_R290 me, Md_K290 me, Md_R291 me, Md_K291 me, Md_R292 me, Md_K292 me, Md_R293 me, Md_K293 me, Md_R294 me, Md_K294 me, Md_R295 me, Md_K295 me, Md_R296 me, Md_K296 me, Md_R297 me, Md_K297 me, Md_R298 me, Md_K298 me, Md_R299 me, Md_K299 me, xe.2.2.1, Int.lt_irrefl, Int.toNat_natCast, Int.natCast_nonneg, true_and, and_true, and_self, if_true, if_false, or_true, true_or, or_false, false_or, ne_eq, not_true_eq_false, not_false_eq_true, Nat.reduceLeDiff, Nat.reduceEqDiff, Nat.reduceLT, Nat.reduceAdd, Nat.reduceMul, Nat.reduceSub, Int.reduceLT, Int.reduceLE, Int.reduceEq, Int.reduceToNat, Int.reduceAdd, Int.reduceSub, Int.reduceMul, Int.reduceNeg, Int.cast_ofNat_Int, false_and, and_false]
    refine k e y5 y6 fe (fun q hq r h1 h2 => ae q hq r ?_ h2)
    unfold mL
    rw [if_pos hq]; exact h1
  | succ n ih =>
    intro p e y5 y6 hp fe ae
    have pl : p < L.length := by omega
    have hn : p + 1 + n = L.length := by omega
    obtain ⟨p1, p2, p3, p4⟩ := i_64 ok pl
    have xe := x.fr fe (fun a k q => sn_no q)
    have me := xe.1
    have op := xe.2.2.2.2.1 p pl
    have a2 := xe.2.1 2 (by decide)
    have ez' : ∀ i, i < l → hJ e 313 (40 * j + i) = z i := fun i hi => by rw [fe.J (by unfold snP; decide)]; exact ez i hi
    have hm : ∀ q, q < L.length → mL i p q ≤ i + 1 := fun q _ => by unfold mL; split <;> omega
    have sl := getD_lt ok pl
    obtain ⟨u1, u2, u3⟩ := x64 (Nat.le_of_lt hi) l12 sl
    have as := asR_s (f := f) (ok := okT2 z) (G := G) hi (L.getD p 0)
    have b01 : ∀ b : Bool, ((if b = true then (1 : Int) else 0) = 0 ∨ (if b = true then (1 : Int) else 0) = 1) := fun b => by cases b <;> decide
    have fin : AN (wI e 309 (6400 * i + L.getD p 0) (if anyB (lead f (okT2 z) G l i (L.getD p 0)) G = true then 1 else 0)) f (okT2 z) G l L (mL i (p + 1)) := by
      intro q hq r h1 h2
      rw [hI_wI]
      by_cases he : 6400 * r + L.getD q 0 = 6400 * i + L.getD p 0
      · obtain ⟨er, es⟩ := x64_inj sl (getD_lt ok hq) he
        rw [if_pos ⟨rfl, he⟩, er, es, as]
      · rw [if_neg (fun c => he c.2)]
        refine ae q hq r ?_ h2
        unfold mL at h1 ⊢
        by_cases h5 : q < p
        · rw [if_pos h5]; rw [if_pos (Nat.lt_succ_of_lt h5)] at h1; exact h1
        · rw [if_neg h5]
          by_cases h6 : q = p
          · subst h6
            rw [if_pos (Nat.lt_succ_self q)] at h1
            have : r ≠ i := fun c => he (by rw [c])
            omega
          · rw [if_neg (fun c => h5 (lt_one c h6))] at h1; exact h1
    rw [rX12_laysSeen_60]
    simp only [rX12_laysSeen_62, rX12_laysSeen_63, rX12_laysSeen_66, rX12_laysSeen_69, rX12_laysSeen_70, rX12_laysSeen_72, rX12_laysSeen_73, Md_K280 me, Md_R281 me, Md_K281 me, Md_R282 me, Md_K282 me, Md_R283 me, Md_K283 me, Md_R284 me, Md_K284 me, Md_R285 me, Md_K285 me, Md_R286 me, Md_K286 me, Md_R287 me, Md_K287 me, Md_R288 me, Md_K288 me, Md_R289 me, Md_K289 me, Md_R290 me, Md_K290 me, Md_R291 me, Md_K291 me, Md_R292 me, Md_K292 me, Md_R293 me, Md_K293 me, Md_R294 me, Md_K294 me, Md_R295 me, Md_K295 me, Md_R296 me, Md_K296 me, Md_R297 me, Md_K297 me, Md_R298 me, Md_K298 me, Md_R299 me, Md_K299 me, xe.2.2.1, p1, Int.toNat_natCast, Int.natCast_nonneg, true_and, and_true, and_self, if_true, if_false, or_true, true_or, or_false, false_or, ne_eq, not_true_eq_false, not_false_eq_true, Nat.reduceLeDiff, Nat.reduceEqDiff, Nat.reduceLT, Nat.reduceAdd, Nat.reduceMul, Nat.reduceSub, Int.reduceLT, Int.reduceLE, Int.reduceEq, Int.reduceToNat, Int.reduceAdd, Int.reduceSub, Int.reduceMul, Int.reduceNeg, Int.cast_ofNat_Int, false_and, and_false]
    have main : ∀ n g, g + n = G → WP (d + 2) mX12_laysSeen 75 [some (.inr (.inr 294)), some (.inl (j : Int)), x2, some (.inl (i : Int)), some (.inl (p : Int)), some (.inl (if anyB (lead f (okT2 z) G l i (L.getD p 0)) g = true then 1 else 0)), some (.inl (g : Int))] [] e Q := by
      intro n
      induction n with
      | zero =>
        intro g hg
        have eg : g = G := hg
        subst eg
        rw [rX12_laysSeen_75]
        simp only [rX12_laysSeen_77, rX12_laysSeen_78, rX12_laysSeen_81, rX12_laysSeen_82, rX12_laysSeen_83, rX12_laysSeen_112, rX12_laysSeen_113, rX12_laysSeen_116, rX12_laysSeen_119, rX12_laysSeen_120, rX12_laysSeen_121, rX12_laysSeen_122, rX12_laysSeen_125, rX12_laysSeen_127, rX12_laysSeen_128, rX12_laysSeen_129, rX12_laysSeen_131, rX12_laysSeen_132, rX12_laysSeen_135, Md_K280 me, Md_R281 me, Md_K281 me, Md_R282 me, Md_K282 me, Md_R283 me, Md_K283 me, Md_R284 me, Md_K284 me, Md_R285 me, Md_K285 me, Md_R286 me, Md_K286 me, Md_R287 me, Md_K287 me, Md_R288 me, Md_K288 me, Md_R289 me, Md_K289 me, Md_R290 me, Md_K290 me, Md_R291 me, Md_K291 me, Md_R292 me, Md_K292 me, Md_R293 me, Md_K293 me, Md_R294 me, Md_K294 me, Md_R295 me, Md_K295 me, Md_R296 me, Md_K296 me, Md_R297 me, Md_K297 me, Md_R298 me, Md_K298 me, Md_R299 me, Md_K299 me, a2, hG, Int.lt_irrefl, p2, op, u1, u2, u3, p3, b01, Int.toNat_natCast, Int.natCast_nonneg, true_and, and_true, and_self, if_true, if_false, or_true, true_or, or_false, false_or, ne_eq, not_true_eq_false, not_false_eq_true, Nat.reduceLeDiff, Nat.reduceEqDiff, Nat.reduceLT, Nat.reduceAdd, Nat.reduceMul, Nat.reduceSub, Int.reduceLT, Int.reduceLE, Int.reduceEq, Int.reduceToNat, Int.reduceAdd, Int.reduceSub, Int.reduceMul, Int.reduceNeg, Int.cast_ofNat_Int, false_and, and_false]
        exact ih (p + 1) _ _ _ hn (fe.wI (by exact rfl) _) fin
      | succ n ih2 =>
        intro g hg
        have gG : g < G := by omega
        have hn2 : g + 1 + n = G := by omega
        obtain ⟨gG', g6, g1⟩ := g_6 gG G6
        have go := ih2 (g + 1) hn2
        unfold anyB at go
        rw [← or_b01] at go
        rw [rX12_laysSeen_75]
        simp only [rX12_laysSeen_77, rX12_laysSeen_78, rX12_laysSeen_81, rX12_laysSeen_82, rX12_laysSeen_83, rX12_laysSeen_86, rX12_laysSeen_88, rX12_laysSeen_89, rX12_laysSeen_90, rX12_laysSeen_91, rX12_laysSeen_92, rX12_laysSeen_95, rX12_laysSeen_97, rX12_laysSeen_98, rX12_laysSeen_100, rX12_laysSeen_103, rX12_laysSeen_104, rX12_laysSeen_106, rX12_laysSeen_109, Md_K280 me, Md_R281 me, Md_K281 me, Md_R282 me, Md_K282 me, Md_R283 me, Md_K283 me, Md_R284 me, Md_K284 me, Md_R285 me, Md_K285 me, Md_R286 me, Md_K286 me, Md_R287 me, Md_K287 me, Md_R288 me, Md_K288 me, Md_R289 me, Md_K289 me, Md_R290 me, Md_K290 me, Md_R291 me, Md_K291 me, Md_R292 me, Md_K292 me, Md_R293 me, Md_K293 me, Md_R294 me, Md_K294 me, Md_R295 me, Md_K295 me, Md_R296 me, Md_K296 me, Md_R297 me, Md_K297 me, Md_R298 me, Md_K298 me, Md_R299 me, Md_K299 me, a2, hG, gG', p2, op, S_goesSeen xe hG j4 ez' l12 hi ae hm pl gG, psh_some, g1, Int.toNat_natCast, Int.natCast_nonneg, true_and, and_true, and_self, if_true, if_false, or_true, true_or, or_false, false_or, ne_eq, not_true_eq_false, not_false_eq_true, Nat.reduceLeDiff, Nat.reduceEqDiff, Nat.reduceLT, Nat.reduceAdd, Nat.reduceMul, Nat.reduceSub, Int.reduceLT, Int.reduceLE, Int.reduceEq, Int.reduceToNat, Int.reduceAdd, Int.reduceSub, Int.reduceMul, Int.reduceNeg, Int.cast_ofNat_Int, false_and, and_false]
        exact go
    exact main G 0 (Nat.zero_add _)
theorem ls_i {l j : Nat} (h : j < l) (hl : l ≤ 12) : ¬ ((j : Int) < 0) ∧ w32 ((j : Int) + -1) = (j : Int) - 1 := ⟨by omega, w32_i (by omega) (by omega)⟩
def sqP (a k : Nat) : Prop := rsP a k ∨ snP a k
set_option maxHeartbeats 1000000 in
theorem S_laysSeen {d : Nat} {Q : Option PV → Hp → Prop} {h : Hp} {σ : AS} (x : RRep h σ) (w : WF σ) {j l : Nat} (j4 : j < 4) (el : sM σ j = (l : Int)) (l1 : 1 ≤ l) (l12 : l ≤ 12)
    (k : ∀ h', Fp sqP h h' → RQ h' (sA σ) (fA σ) (2 ^ GA σ - 1) (LA σ) → AN h' (fA σ) (okT2 (szZ (trZ σ j) l)) (GA σ) l (LA σ) (fun _ => 0) → Q none h') :
    WP (d + 4) mX12_laysSeen 0 [some (.inr (.inr 294)), some (.inl (j : Int)), none, none, none, none, none] [] h Q := by
  have m := x.1
  have j4' := (j_n j4).1
  have G6 := G_6 w
  simp only [rX12_laysSeen_0, rX12_laysSeen_1, rX12_laysSeen_2, rX12_laysSeen_5, Md_K280 m, Md_R281 m, Md_K281 m, Md_R282 m, Md_K282 m, Md_R283 m, Md_K283 m, Md_R284 m, Md_K284 m, Md_R285 m, Md_K285 m, Md_R286 m, Md_K286 m, Md_R287 m, Md_K287 m, Md_R288 m, Md_K288 m, Md_R289 m, Md_K289 m, Md_R290 m, Md_K290 m, Md_R291 m, Md_K291 m, Md_R292 m, Md_K292 m, Md_R293 m, Md_K293 m, Md_R294 m, Md_K294 m, Md_R295 m, Md_K295 m, Md_R296 m, Md_K296 m, Md_R297 m, Md_K297 m, Md_R298 m, Md_K298 m, Md_R299 m, Md_K299 m, S_rAll (x.rp w), psh_some, Int.toNat_natCast, Int.natCast_nonneg, true_and, and_true, and_self, if_true, if_false, or_true, true_or, or_false, false_or, ne_eq, not_true_eq_false, not_false_eq_true, Nat.reduceLeDiff, Nat.reduceEqDiff, Nat.reduceLT, Nat.reduceAdd, Nat.reduceMul, Nat.reduceSub, Int.reduceLT, Int.reduceLE, Int.reduceEq, Int.reduceToNat, Int.reduceAdd, Int.reduceSub, Int.reduceMul, Int.reduceNeg, Int.cast_ofNat_Int, false_and, and_false]
  refine S_laysStands (x.rp w) w.2.1 (set64 w.1 (all_l2 _)) ?_
  intro h1' f1 x1
  have q1' : RQ h1' (sA σ) (fA σ) (2 ^ GA σ - 1) (LA σ) := x1.rq w.1 w.2.1 (all_l2 _)
  have m1 := q1'.1
  have ok := q1'.2.2.2.1
  have fu := f1.mono (P' := uP) (fun a k q => rsP_u q)
  have xr := x.u fu
  have sM' := (xr.2.2.2.2.2.2.2.1 j j4).2
  rw [el] at sM'
  have sB' := xr.2.2.2.2.2.2.2.2
  have ez : ∀ {e : Hp}, Fp snP h1' e → ∀ i, i < l → hJ e 313 (40 * j + i) = szZ (trZ σ j) l i := fun fe i hi => by
    rw [fe.J (by unfold snP; decide), sB' (40 * j + i) (tr_i j4 (Nat.lt_of_lt_of_le hi l12))]
    unfold szZ
    rw [if_pos hi]; rfl
  simp only [psh_none, rX12_laysSeen_8, rX12_laysSeen_9, rX12_laysSeen_12, rX12_laysSeen_13, rX12_laysSeen_14, rX12_laysSeen_15, rX12_laysSeen_16, Md_K280 m1, Md_R281 m1, Md_K281 m1, Md_R282 m1, Md_K282 m1, Md_R283 m1, Md_K283 m1, Md_R284 m1, Md_K284 m1, Md_R285 m1, Md_K285 m1, Md_R286 m1, Md_K286 m1, Md_R287 m1, Md_K287 m1, Md_R288 m1, Md_K288 m1, Md_R289 m1, Md_K289 m1, Md_R290 m1, Md_K290 m1, Md_R291 m1, Md_K291 m1, Md_R292 m1, Md_K292 m1, Md_R293 m1, Md_K293 m1, Md_R294 m1, Md_K294 m1, Md_R295 m1, Md_K295 m1, Md_R296 m1, Md_K296 m1, Md_R297 m1, Md_K297 m1, Md_R298 m1, Md_K298 m1, Md_R299 m1, Md_K299 m1, j4', sM', Int.toNat_natCast, Int.natCast_nonneg, true_and, and_true, and_self, if_true, if_false, or_true, true_or, or_false, false_or, ne_eq, not_true_eq_false, not_false_eq_true, Nat.reduceLeDiff, Nat.reduceEqDiff, Nat.reduceLT, Nat.reduceAdd, Nat.reduceMul, Nat.reduceSub, Int.reduceLT, Int.reduceLE, Int.reduceEq, Int.reduceToNat, Int.reduceAdd, Int.reduceSub, Int.reduceMul, Int.reduceNeg, Int.cast_ofNat_Int, false_and, and_false]
  refine wp_for (fun i e => WP (d + 4) mX12_laysSeen 17 [some (.inr (.inr 294)), some (.inl (j : Int)), some (.inl (l : Int)), some (.inl (i : Int)), none, none, none] [] e Q) (fun i e => Fp snP h1' e ∧ ∀ p, p < i → p < (LA σ).length → hI e 309 (6400 * l + (LA σ).getD p 0) = 1) (LA σ).length ?_ ?_ 0 h1' (Nat.zero_le _) ⟨Fp.refl _ h1', fun p hp => absurd hp (Nat.not_lt_zero _)⟩
  · rintro i e hi ⟨fe, ze⟩ kk
    obtain ⟨p1, p2, p3, p4⟩ := i_64 ok hi
    have qe := q1'.fr fe (fun a k q => sn_no q)
    have me := qe.1
    obtain ⟨u1, u2, u3⟩ := x64 (Nat.le_refl l) l12 (getD_lt ok hi)
    rw [rX12_laysSeen_17]
    simp only [rX12_laysSeen_18, rX12_laysSeen_19, rX12_laysSeen_22, rX12_laysSeen_25, rX12_laysSeen_26, rX12_laysSeen_29, rX12_laysSeen_32, rX12_laysSeen_33, rX12_laysSeen_34, rX12_laysSeen_35, rX12_laysSeen_38, rX12_laysSeen_39, rX12_laysSeen_40, rX12_laysSeen_41, rX12_laysSeen_42, rX12_laysSeen_43, rX12_laysSeen_46, Md_K280 me, Md_R281 me, Md_K281 me, Md_R282 me, Md_K282 me, Md_R283 me, Md_K283 me, Md_R284 me, Md_K284 me, Md_R285 me, Md_K285 me, Md_R286 me, Md_K286 me, Md_R287 me, Md_K287 me, Md_R288 me, Md_K288 me, Md_R289 me, Md_K289 me, Md_R290 me, Md_K290 me, Md_R291 me, Md_K291 me, Md_R292 me, Md_K292 me, Md_R293 me, Md_K293 me, Md_R294 me, Md_K294 me, Md_R295 me, Md_K295 me, Md_R296 me, Md_K296 me, Md_R297 me, Md_K297 me, Md_R298 me, Md_K298 me, Md_R299 me, Md_K299 me, qe.2.2.1, p1, p2, p3, qe.2.2.2.2.1 i hi, u1, u2, u3, Int.toNat_natCast, Int.natCast_nonneg, true_and, and_true, and_self, if_true, if_false, or_true, true_or, or_false, false_or, ne_eq, not_true_eq_false, not_false_eq_true, Nat.reduceLeDiff, Nat.reduceEqDiff, Nat.reduceLT, Nat.reduceAdd, Nat.reduceMul, Nat.reduceSub, Int.reduceLT, Int.reduceLE, Int.reduceEq, Int.reduceToNat, Int.reduceAdd, Int.reduceSub, Int.reduceMul, Int.reduceNeg, Int.cast_ofNat_Int, false_and, and_false]
    refine kk _ ⟨fe.wI (by exact rfl) _, fun p hp hpl => ?_⟩
    rw [hI_wI]
    by_cases hpi : p = i
    · rw [if_pos ⟨rfl, by rw [hpi]⟩]
    · rw [if_neg (fun c => hpi (getD_inj ok hpl hi (x64_inj (getD_lt ok hi) (getD_lt ok hpl) c.2).2))]
      exact ze p (lt_one hp hpi) hpl
  · rintro e0 ⟨fe0, ze0⟩
    have qe := q1'.fr fe0 (fun a k q => sn_no q)
    have me := qe.1
    have an0 : AN e0 (fA σ) (okT2 (szZ (trZ σ j) l)) (GA σ) l (LA σ) (fun _ => l) := fun p hp q h1 h2 => by
      have e : q = l := Nat.le_antisymm h2 h1
      rw [e, Nat.sub_self, ze0 p hp hp]; rfl
    rw [rX12_laysSeen_17]
    simp only [rX12_laysSeen_18, rX12_laysSeen_19, rX12_laysSeen_22, rX12_laysSeen_49, rX12_laysSeen_50, rX12_laysSeen_51, rX12_laysSeen_52, Md_K280 me, Md_R281 me, Md_K281 me, Md_R282 me, Md_K282 me, Md_R283 me, Md_K283 me, Md_R284 me, Md_K284 me, Md_R285 me, Md_K285 me, Md_R286 me, Md_K286 me, Md_R287 me, Md_K287 me, Md_R288 me, Md_K288 me, Md_R289 me, Md_K289 me, Md_R290 me, Md_K290 me, Md_R291 me, Md_K291 me, Md_R292 me, Md_K292 me, Md_R293 me, Md_K293 me, Md_R294 me, Md_K294 me, Md_R295 me, Md_K295 me, Md_R296 me, Md_K296 me, Md_R297 me, Md_K297 me, Md_R298 me, Md_K298 me, Md_R299 me, Md_K299 me, qe.2.2.1, Int.lt_irrefl, mk_l l1 l12, Int.toNat_natCast, Int.natCast_nonneg, true_and, and_true, and_self, if_true, if_false, or_true, true_or, or_false, false_or, ne_eq, not_true_eq_false, not_false_eq_true, Nat.reduceLeDiff, Nat.reduceEqDiff, Nat.reduceLT, Nat.reduceAdd, Nat.reduceMul, Nat.reduceSub, Int.reduceLT, Int.reduceLE, Int.reduceEq, Int.reduceToNat, Int.reduceAdd, Int.reduceSub, Int.reduceMul, Int.reduceNeg, Int.cast_ofNat_Int, false_and, and_false]
    have main : ∀ jj (e : Hp) (y4 y5 y6 : Option PV), jj ≤ l → Fp snP h1' e → AN e (fA σ) (okT2 (szZ (trZ σ j) l)) (GA σ) l (LA σ) (fun _ => jj) → WP (d + 4) mX12_laysSeen 53 [some (.inr (.inr 294)), some (.inl (j : Int)), some (.inl (l : Int)), some (.inl ((jj : Int) - 1)), y4, y5, y6] [] e Q := by
      intro jj
      induction jj with
      | zero =>
        intro e y4 y5 y6 hj fe ae
        rw [rX12_laysSeen_53]
        simp only [rX12_laysSeen_54, rX12_laysSeen_144, Int.natCast_zero, Int.reduceSub, Int.reduceLT, if_true]
        exact k e ((f1.mono (fun a k q => Or.inl q)).trans (fe.mono (fun a k q => Or.inr q))) (q1'.fr fe (fun a k q => sn_no q)) ae
      | succ jj ih =>
        intro e y4 y5 y6 hj fe ae
        obtain ⟨j0, j1⟩ := ls_i hj l12
        have qe := q1'.fr fe (fun a k q => sn_no q)
        rw [dn1]
        rw [rX12_laysSeen_53]
        simp only [rX12_laysSeen_54, rX12_laysSeen_57, rX12_laysSeen_58, j0, if_false]
        refine ls_inner (d := d + 2) (z := szZ (trZ σ j) l) qe (GA_e w) j4 (ez fe) l12 hj ?_ (LA σ).length 0 e _ _ (Nat.zero_add _) (Fp.refl _ e) (fun q hq r h1 h2 => ae q hq r h1 h2)
        intro e2 z5 z6 f2 a2
        simp only [rX12_laysSeen_138, rX12_laysSeen_141, j1]
        exact ih e2 _ _ _ (Nat.le_of_succ_le hj) (fe.trans f2) a2
    obtain ⟨j', hj'⟩ : ∃ j', l = j' + 1 := ⟨l - 1, by omega⟩
    have go := main l e0 none none none (Nat.le_refl l) fe0 an0
    have e5 : ((l - 1 : Nat) : Int) = (l : Int) - 1 := by omega
    rw [e5]
    exact go
