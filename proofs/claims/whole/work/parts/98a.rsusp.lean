/-! suspects of the reference -/
def WI (D : Nat → Nat → Nat) (le : Nat → Nat → Nat → Bool) (L : List Nat) (i p g0 g : Nat) : Prop := ∃ i' p', (i' < i ∨ (i' = i ∧ (p' < p ∨ (p' = p ∧ g < g0)))) ∧ p' < L.length ∧ 0 < D i' (L.getD p' 0) ∧ le i' (L.getD p' 0) g = true
theorem WI_p {D : Nat → Nat → Nat} {le : Nat → Nat → Nat → Bool} {L : List Nat} {i p G g : Nat} (hg : g < G) : WI D le L i p G g ↔ WI D le L i (p + 1) 0 g := by
  constructor
  · rintro ⟨i', p', h1, h2⟩; exact ⟨i', p', by omega, h2⟩
  · rintro ⟨i', p', h1, h2⟩; exact ⟨i', p', by omega, h2⟩
theorem WI_i {D : Nat → Nat → Nat} {le : Nat → Nat → Nat → Bool} {L : List Nat} {i g : Nat} : WI D le L i L.length 0 g ↔ WI D le L (i + 1) 0 0 g := by
  constructor
  · rintro ⟨i', p', h1, h2⟩; exact ⟨i', p', by omega, h2⟩
  · rintro ⟨i', p', h1, h2, h3⟩; exact ⟨i', p', by omega, h2, h3⟩
theorem WI_add {D : Nat → Nat → Nat} {le : Nat → Nat → Nat → Bool} {L : List Nat} {i p g0 g : Nat} (hp : p < L.length) (hd : 0 < D i (L.getD p 0)) (hl : le i (L.getD p 0) g0 = true) : WI D le L i p (g0 + 1) g ↔ WI D le L i p g0 g ∨ g = g0 := by
  constructor
  · rintro ⟨i', p', h1, h2⟩
    by_cases hg : g = g0
    · exact Or.inr hg
    · exact Or.inl ⟨i', p', by omega, h2⟩
  · rintro (⟨i', p', h1, h2⟩ | hg)
    · exact ⟨i', p', by omega, h2⟩
    · exact ⟨i, p, by omega, hp, hd, by rw [hg]; exact hl⟩
theorem WI_not {D : Nat → Nat → Nat} {le : Nat → Nat → Nat → Bool} {L : List Nat} {i p g0 g : Nat} (hn : ¬ (0 < D i (L.getD p 0) ∧ le i (L.getD p 0) g0 = true)) : WI D le L i p (g0 + 1) g ↔ WI D le L i p g0 g := by
  constructor
  · rintro ⟨i', p', h1, h2, h3, h4⟩
    by_cases hc : i' = i ∧ p' = p ∧ g = g0
    · obtain ⟨rfl, rfl, rfl⟩ := hc
      exact absurd ⟨h3, h4⟩ hn
    · exact ⟨i', p', by omega, h2, h3, h4⟩
  · rintro ⟨i', p', h1, h2⟩; exact ⟨i', p', by omega, h2⟩
theorem AN.fr {h h' : Hp} {f : Nat → Nat → Nat} {ok : Nat → Nat → Bool} {G l : Nat} {L : List Nat} {m : Nat → Nat} (fp : Fp mP h h') (x : AN h f ok G l L m) : AN h' f ok G l L m := fun p hp q h1 h2 => by
  rw [fp.I (by unfold mP; decide)]; exact x p hp q h1 h2
theorem ior_0 {v : Nat} (h : v < 2147483648) : ior (v : Int) 0 = (v : Int) := by
  have := ior_n (a := v) (b := 0) h (by decide)
  rw [Nat.or_zero] at this
  exact this
theorem v_31 {v : Nat} (h : v < 64) : v < 2147483648 := by omega
set_option maxHeartbeats 1000000 in
theorem su_filter {d : Nat} {Q : Option PV → Hp → Prop} {h : Hp} {A : Nat → Int} {f : Nat → Nat → Nat} {set : Nat} {L : List Nat} (x : RQ h A f set L) {j i : Nat} {z : Int} {x2 x3 x6 : Option PV} (j4 : j < 4) (i12 : i < 12) (ez : hJ h 313 (40 * j + i) = z) {D : Nat → Nat} (mv : MV h 307 L D)
    (k : ∀ h', Fp (fun a _ => a = 307) h h' → MV h' 307 L (flD (okZ z) D) → WP (d + 1) mX12_suspects 180 [some (.inr (.inr 294)), some (.inl (j : Int)), x2, x3, some (.inl (i : Int)), some (.inl (L.length : Int)), x6] [] h' Q) :
    WP (d + 1) mX12_suspects 135 [some (.inr (.inr 294)), some (.inl (j : Int)), x2, x3, some (.inl (i : Int)), some (.inl 0), x6] [] h Q := by
  have ok := x.2.2.2.1
  refine wp_for (fun p e => WP (d + 1) mX12_suspects 135 [some (.inr (.inr 294)), some (.inl (j : Int)), x2, x3, some (.inl (i : Int)), some (.inl (p : Int)), x6] [] e Q) (fun p e => Fp (fun a _ => a = 307) h e ∧ (∀ q, q < L.length → hJ e 307 (L.getD q 0) = if q < p then w64 (flD (okZ z) D (L.getD q 0) : Int) else w64 (D (L.getD q 0) : Int))) L.length ?_ ?_ 0 h (Nat.zero_le _) ⟨Fp.refl _ h, fun q hq => by rw [if_neg (Nat.not_lt_zero _)]; exact mv q hq⟩
  · rintro p e hp ⟨fe, ze⟩ kk
    obtain ⟨p1, p2, p3, p4⟩ := i_64 ok hp
    have xe := x.fr fe (fun a k q => by omega)
    have me := xe.1
    have s6 : (L.getD p 0 : Int) < 6400 := Int.ofNat_lt.2 (getD_lt ok hp)
    have ez' : hJ e 313 (40 * j + i) = z := by rw [fe.J (show ¬ (313 = 307) by decide)]; exact ez
    have oi := xe.2.2.2.2.1 p hp
    rw [rX12_suspects_135]
    simp only [rX12_suspects_137, rX12_suspects_138, rX12_suspects_141, rX12_suspects_144, rX12_suspects_145, rX12_suspects_146, rX12_suspects_148, rX12_suspects_149, rX12_suspects_152, rX12_suspects_154, rX12_suspects_155, rX12_suspects_158, Md_K280 me, Md_R281 me, Md_K281 me, Md_R282 me, Md_K282 me, Md_R283 me, Md_K283 me, Md_R284 me, Md_K284 me, Md_R285 me, Md_K285 me, Md_R286 me, Md_K286 me, Md_R287 me, Md_K287 me, Md_R288 me, Md_K288 me, Md_R289 me, Md_K289 me, Md_R290 me, Md_K290 me, Md_R291 me, Md_K291 me, Md_R292 me, Md_K292 me, Md_R293 me, Md_K293 me, Md_R294 me, Md_K294 me, Md_R295 me, Md_K295 me, Md_R296 me, Md_K296 me, Md_R297 me, Md_K297 me, Md_R298 me, Md_K298 me, Md_R299 me, Md_K299 me, xe.2.2.1, p1, p2, oi, S_isSeen me j4 (ji_n j4 i12).2 ez', psh_some, Int.toNat_natCast, Int.natCast_nonneg, true_and, and_true, and_self, if_true, if_false, or_true, true_or, or_false, false_or, ne_eq, not_true_eq_false, not_false_eq_true, Nat.reduceLeDiff, Nat.reduceEqDiff, Nat.reduceLT, Nat.reduceAdd, Nat.reduceMul, Nat.reduceSub, Int.reduceLT, Int.reduceLE, Int.reduceEq, Int.reduceToNat, Int.reduceAdd, Int.reduceSub, Int.reduceMul, Int.reduceNeg, Int.cast_ofNat_Int, false_and, and_false]
    by_cases hc : sees z ((L.getD p 0 % 100 : Nat) : Int) = true
    · rw [if_pos hc, if_neg (by decide)]
      simp only [rX12_suspects_174, rX12_suspects_177, p3]
      refine kk e ⟨fe, fun q hq => ?_⟩
      rw [ze q hq]
      by_cases hqp : q = p
      · subst hqp
        rw [if_neg (Nat.lt_irrefl q), if_pos (Nat.lt_succ_self q)]
        unfold flD
        rw [if_pos (show okZ z (L.getD q 0) = true from hc)]
      · by_cases h5 : q < p
        · rw [if_pos h5, if_pos (Nat.lt_succ_of_lt h5)]
        · rw [if_neg h5, if_neg (fun c => h5 (lt_one c hqp))]
    · rw [if_neg hc, if_pos (by trivial)]
      simp only [rX12_suspects_161, rX12_suspects_162, rX12_suspects_165, rX12_suspects_166, rX12_suspects_169, rX12_suspects_171, rX12_suspects_172, rX12_suspects_173, rX12_suspects_174, rX12_suspects_177, Md_K280 me, Md_R281 me, Md_K281 me, Md_R282 me, Md_K282 me, Md_R283 me, Md_K283 me, Md_R284 me, Md_K284 me, Md_R285 me, Md_K285 me, Md_R286 me, Md_K286 me, Md_R287 me, Md_K287 me, Md_R288 me, Md_K288 me, Md_R289 me, Md_K289 me, Md_R290 me, Md_K290 me, Md_R291 me, Md_K291 me, Md_R292 me, Md_K292 me, Md_R293 me, Md_K293 me, Md_R294 me, Md_K294 me, Md_R295 me, Md_K295 me, Md_R296 me, Md_K296 me, Md_R297 me, Md_K297 me, Md_R298 me, Md_K298 me, Md_R299 me, Md_K299 me, p2, p3, oi, s6, Int.toNat_natCast, Int.natCast_nonneg, true_and, and_true, and_self, if_true, if_false, or_true, true_or, or_false, false_or, ne_eq, not_true_eq_false, not_false_eq_true, Nat.reduceLeDiff, Nat.reduceEqDiff, Nat.reduceLT, Nat.reduceAdd, Nat.reduceMul, Nat.reduceSub, Int.reduceLT, Int.reduceLE, Int.reduceEq, Int.reduceToNat, Int.reduceAdd, Int.reduceSub, Int.reduceMul, Int.reduceNeg, Int.cast_ofNat_Int, false_and, and_false]
      refine kk _ ⟨fe.wJ (by exact rfl) _, fun q hq => ?_⟩
      rw [hJ_wJ]
      by_cases hqp : q = p
      · subst hqp
        rw [if_pos ⟨rfl, rfl⟩, if_pos (Nat.lt_succ_self q)]
        unfold flD
        rw [if_neg (show ¬ okZ z (L.getD q 0) = true from hc)]; exact w64_0.symm
      · rw [if_neg (fun c => hqp (getD_inj ok hq hp c.2)), ze q hq]
        by_cases h5 : q < p
        · rw [if_pos h5, if_pos (Nat.lt_succ_of_lt h5)]
        · rw [if_neg h5, if_neg (fun c => h5 (lt_one c hqp))]
  · rintro e ⟨fe, ze⟩
    have xe := x.fr fe (fun a k q => by omega)
    have me := xe.1
    rw [rX12_suspects_135]
    simp only [rX12_suspects_137, rX12_suspects_138, rX12_suspects_141, Md_K280 me, Md_R281 me, Md_K281 me, Md_R282 me, Md_K282 me, Md_R283 me, Md_K283 me, Md_R284 me, Md_K284 me, Md_R285 me, Md_K285 me, Md_R286 me, Md_K286 me, Md_R287 me, Md_K287 me, Md_R288 me, Md_K288 me, Md_R289 me, Md_K289 me, Md_R290 me, Md_K290 me, Md_R291 me, Md_K291 me, Md_R292 me, Md_K292 me, Md_R293 me, Md_K293 me, Md_R294 me, Md_K294 me, Md_R295 me, Md_K295 me, Md_R296 me, Md_K296 me, Md_R297 me, Md_K297 me, Md_R298 me, Md_K298 me, Md_R299 me, Md_K299 me, xe.2.2.1, Int.lt_irrefl, Int.toNat_natCast, Int.natCast_nonneg, true_and, and_true, and_self, if_true, if_false, or_true, true_or, or_false, false_or, ne_eq, not_true_eq_false, not_false_eq_true, Nat.reduceLeDiff, Nat.reduceEqDiff, Nat.reduceLT, Nat.reduceAdd, Nat.reduceMul, Nat.reduceSub, Int.reduceLT, Int.reduceLE, Int.reduceEq, Int.reduceToNat, Int.reduceAdd, Int.reduceSub, Int.reduceMul, Int.reduceNeg, Int.cast_ofNat_Int, false_and, and_false]
    exact k e fe (fun q hq => by rw [ze q hq, if_pos hq])
set_option maxHeartbeats 1000000 in
theorem R_suspects {d : Nat} {σ : AS} {t : Int} : RSpec (d + 5) mX12_suspects [some (.inr (.inr 294)), some (.inl t), none, none, none, none, none] σ (.inl (suV σ t)) σ := by
  refine RSpec5.of (RSpec5.u ?_) (fun h Q hk => by simp only [rX12_suspects_0, rX12_suspects_1, rX12_suspects_2, hk, Int.toNat_natCast, Int.natCast_nonneg, true_and, and_true, and_self, if_true, if_false, or_true, true_or, or_false, false_or, ne_eq, not_true_eq_false, not_false_eq_true, Nat.reduceLeDiff, Nat.reduceEqDiff, Nat.reduceLT, Nat.reduceAdd, Nat.reduceMul, Nat.reduceSub, Int.reduceLT, Int.reduceLE, Int.reduceEq, Int.reduceToNat, Int.reduceAdd, Int.reduceSub, Int.reduceMul, Int.reduceNeg, Int.cast_ofNat_Int, false_and, and_false])
  intro h Q x w k
  have m := x.1
  unfold suV at k
  simp only [rX12_suspects_5, rX12_suspects_6, rX12_suspects_7, Md_K280 m, Md_R281 m, Md_K281 m, Md_R282 m, Md_K282 m, Md_R283 m, Md_K283 m, Md_R284 m, Md_K284 m, Md_R285 m, Md_K285 m, Md_R286 m, Md_K286 m, Md_R287 m, Md_K287 m, Md_R288 m, Md_K288 m, Md_R289 m, Md_K289 m, Md_R290 m, Md_K290 m, Md_R291 m, Md_K291 m, Md_R292 m, Md_K292 m, Md_R293 m, Md_K293 m, Md_R294 m, Md_K294 m, Md_R295 m, Md_K295 m, Md_R296 m, Md_K296 m, Md_R297 m, Md_K297 m, Md_R298 m, Md_K298 m, Md_R299 m, Md_K299 m, Int.toNat_natCast, Int.natCast_nonneg, true_and, and_true, and_self, if_true, if_false, or_true, true_or, or_false, false_or, ne_eq, not_true_eq_false, not_false_eq_true, Nat.reduceLeDiff, Nat.reduceEqDiff, Nat.reduceLT, Nat.reduceAdd, Nat.reduceMul, Nat.reduceSub, Int.reduceLT, Int.reduceLE, Int.reduceEq, Int.reduceToNat, Int.reduceAdd, Int.reduceSub, Int.reduceMul, Int.reduceNeg, Int.cast_ofNat_Int, false_and, and_false]
  refine S_noPosted (d := d + 2) x ?_
  simp only [psh_some, rX12_suspects_10, rX12_suspects_11, rX12_suspects_12]
  by_cases h0 : poV σ t = 0
  · rw [if_pos h0] at k ⊢
    obtain ⟨j, l, rfl, j4, ns, el, l1, l12, zz⟩ := poV_0 h0
    have j4' := (j_n j4).1
    simp only [Int.toNat_natCast, el] at k
    have e9 : tzZ σ j = szZ (trZ σ j) l := by unfold tzZ; rw [el]; rfl
    rw [e9] at k
    simp only [h0, rX12_suspects_17, rX12_suspects_18, rX12_suspects_19, Md_K280 m, Md_R281 m, Md_K281 m, Md_R282 m, Md_K282 m, Md_R283 m, Md_K283 m, Md_R284 m, Md_K284 m, Md_R285 m, Md_K285 m, Md_R286 m, Md_K286 m, Md_R287 m, Md_K287 m, Md_R288 m, Md_K288 m, Md_R289 m, Md_K289 m, Md_R290 m, Md_K290 m, Md_R291 m, Md_K291 m, Md_R292 m, Md_K292 m, Md_R293 m, Md_K293 m, Md_R294 m, Md_K294 m, Md_R295 m, Md_K295 m, Md_R296 m, Md_K296 m, Md_R297 m, Md_K297 m, Md_R298 m, Md_K298 m, Md_R299 m, Md_K299 m, Int.toNat_natCast, Int.natCast_nonneg, true_and, and_true, and_self, if_true, if_false, or_true, true_or, or_false, false_or, ne_eq, not_true_eq_false, not_false_eq_true, Nat.reduceLeDiff, Nat.reduceEqDiff, Nat.reduceLT, Nat.reduceAdd, Nat.reduceMul, Nat.reduceSub, Int.reduceLT, Int.reduceLE, Int.reduceEq, Int.reduceToNat, Int.reduceAdd, Int.reduceSub, Int.reduceMul, Int.reduceNeg, Int.cast_ofNat_Int, false_and, and_false]
    refine S_laysSeen x w j4 el l1 l12 ?_
    intro h1' f1 q1 an1
    have m1 := q1.1
    have ok := q1.2.2.2.1
    have l0 : (LA σ).getD 0 0 = stt (stA (sA σ)) := (Lst_0 (sA σ) (stA (sA σ)) _).1
    have sM' : hI h1' 312 j = (l : Int) := by rw [f1.I (sq_no (Or.inr (Or.inl rfl))), (x.2.2.2.2.2.2.2.1 j j4).2, el]
    have ez0 : ∀ i, i < l → hJ h1' 313 (40 * j + i) = szZ (trZ σ j) l i := fun i hi => by
      rw [f1.J (sq_no (Or.inr (Or.inr (Or.inl rfl)))), x.2.2.2.2.2.2.2.2 (40 * j + i) (tr_i j4 (Nat.lt_of_lt_of_le hi l12))]
      unfold szZ
      rw [if_pos hi]; rfl
    have ez : ∀ {e : Hp}, Fp mP h1' e → ∀ i, i < l → hJ e 313 (40 * j + i) = szZ (trZ σ j) l i := fun fe i hi => by
      rw [fe.J (by unfold mP; decide)]; exact ez0 i hi
    have G6 := G_6 w
    generalize szZ (trZ σ j) l = z at an1 k ez
    simp only [psh_none, rX12_suspects_22, rX12_suspects_23, Md_K280 m1, Md_R281 m1, Md_K281 m1, Md_R282 m1, Md_K282 m1, Md_R283 m1, Md_K283 m1, Md_R284 m1, Md_K284 m1, Md_R285 m1, Md_K285 m1, Md_R286 m1, Md_K286 m1, Md_R287 m1, Md_K287 m1, Md_R288 m1, Md_K288 m1, Md_R289 m1, Md_K289 m1, Md_R290 m1, Md_K290 m1, Md_R291 m1, Md_K291 m1, Md_R292 m1, Md_K292 m1, Md_R293 m1, Md_K293 m1, Md_R294 m1, Md_K294 m1, Md_R295 m1, Md_K295 m1, Md_R296 m1, Md_K296 m1, Md_R297 m1, Md_K297 m1, Md_R298 m1, Md_K298 m1, Md_R299 m1, Md_K299 m1, Int.toNat_natCast, Int.natCast_nonneg, true_and, and_true, and_self, if_true, if_false, or_true, true_or, or_false, false_or, ne_eq, not_true_eq_false, not_false_eq_true, Nat.reduceLeDiff, Nat.reduceEqDiff, Nat.reduceLT, Nat.reduceAdd, Nat.reduceMul, Nat.reduceSub, Int.reduceLT, Int.reduceLE, Int.reduceEq, Int.reduceToNat, Int.reduceAdd, Int.reduceSub, Int.reduceMul, Int.reduceNeg, Int.cast_ofNat_Int, false_and, and_false]
    refine S_beginsMany (d := d + 2) ⟨m1, q1.2.1, w.1⟩ w.2.1 ok l0 ?_
    intro h2' f2 mv2 mz2
    simp only [psh_none, rX12_suspects_26, rX12_suspects_27, rX12_suspects_28, rX12_suspects_29]
    have hm : ∀ b q, q < (LA σ).length → (fun _ => 0) q ≤ b + 1 := fun b q _ => Nat.zero_le _
    have gos : ∀ (i p : Nat) (e : Hp), i < l → p < (LA σ).length → Fp mP h1' e → MV e 307 (LA σ) (rwD σ z i) → (∀ p, p < (LA σ).length → rwD σ z i ((LA σ).getD p 0) < 9223372036854775808) → (∀ v : Nat, v < 64 → (∀ g, v.testBit g = true ↔ g < GA σ ∧ WI (rwD σ z) (lead (fA σ) (okT2 z) (GA σ) l) (LA σ) i p (GA σ) g) → WP (d + 5) mX12_suspects 121 [some (.inr (.inr 294)), some (.inl (j : Int)), some (.inl 0), some (.inl (v : Int)), some (.inl (i : Int)), some (.inl (p : Int)), some (.inl (GA σ : Int))] [] e Q) → ∀ (n g v : Nat), g + n = GA σ → v < 64 → (∀ g', v.testBit g' = true ↔ g' < GA σ ∧ WI (rwD σ z) (lead (fA σ) (okT2 z) (GA σ) l) (LA σ) i p g g') → WP (d + 5) mX12_suspects 57 [some (.inr (.inr 294)), some (.inl (j : Int)), some (.inl 0), some (.inl (v : Int)), some (.inl (i : Int)), some (.inl (p : Int)), some (.inl (g : Int))] [] e Q := by
      intro i p e hi hp fe mv bd kk n
      have qe := q1.fr fe (fun a k q => mP_no q)
      have me := qe.1
      have a2 := qe.2.1 2 (by decide)
      have op := qe.2.2.2.2.1 p hp
      obtain ⟨p1, p2, p3, p4⟩ := i_64 ok hp
      have s6 : ((LA σ).getD p 0 : Int) < 6400 := Int.ofNat_lt.2 (getD_lt ok hp)
      have mp : hJ e 307 ((LA σ).getD p 0) = (rwD σ z i ((LA σ).getD p 0) : Int) := by rw [mv p hp, w64_nat (bd p hp)]
      have G2 := GA_e w
      induction n with
      | zero =>
        intro g v hg v6 vb
        have eg : g = GA σ := hg
        subst eg
        rw [rX12_suspects_57]
        simp only [rX12_suspects_59, rX12_suspects_60, rX12_suspects_63, rX12_suspects_64, rX12_suspects_65, Md_K280 me, Md_R281 me, Md_K281 me, Md_R282 me, Md_K282 me, Md_R283 me, Md_K283 me, Md_R284 me, Md_K284 me, Md_R285 me, Md_K285 me, Md_R286 me, Md_K286 me, Md_R287 me, Md_K287 me, Md_R288 me, Md_K288 me, Md_R289 me, Md_K289 me, Md_R290 me, Md_K290 me, Md_R291 me, Md_K291 me, Md_R292 me, Md_K292 me, Md_R293 me, Md_K293 me, Md_R294 me, Md_K294 me, Md_R295 me, Md_K295 me, Md_R296 me, Md_K296 me, Md_R297 me, Md_K297 me, Md_R298 me, Md_K298 me, Md_R299 me, Md_K299 me, a2, G2, Int.lt_irrefl, Int.toNat_natCast, Int.natCast_nonneg, true_and, and_true, and_self, if_true, if_false, or_true, true_or, or_false, false_or, ne_eq, not_true_eq_false, not_false_eq_true, Nat.reduceLeDiff, Nat.reduceEqDiff, Nat.reduceLT, Nat.reduceAdd, Nat.reduceMul, Nat.reduceSub, Int.reduceLT, Int.reduceLE, Int.reduceEq, Int.reduceToNat, Int.reduceAdd, Int.reduceSub, Int.reduceMul, Int.reduceNeg, Int.cast_ofNat_Int, false_and, and_false]
        exact kk v v6 vb
      | succ n ih =>
        intro g v hg v6 vb
        obtain ⟨gG, hn⟩ := gm_n hg
        obtain ⟨gG', g6, g1⟩ := g_6 gG G6
        obtain ⟨v31, g31, vo⟩ := v_64 v6 g6
        rw [rX12_suspects_57]
        simp only [rX12_suspects_59, rX12_suspects_60, rX12_suspects_63, rX12_suspects_64, rX12_suspects_65, rX12_suspects_68, rX12_suspects_69, rX12_suspects_70, rX12_suspects_73, rX12_suspects_74, rX12_suspects_77, rX12_suspects_79, rX12_suspects_80, rX12_suspects_81, rX12_suspects_82, rX12_suspects_83, Md_K280 me, Md_R281 me, Md_K281 me, Md_R282 me, Md_K282 me, Md_R283 me, Md_K283 me, Md_R284 me, Md_K284 me, Md_R285 me, Md_K285 me, Md_R286 me, Md_K286 me, Md_R287 me, Md_K287 me, Md_R288 me, Md_K288 me, Md_R289 me, Md_K289 me, Md_R290 me, Md_K290 me, Md_R291 me, Md_K291 me, Md_R292 me, Md_K292 me, Md_R293 me, Md_K293 me, Md_R294 me, Md_K294 me, Md_R295 me, Md_K295 me, Md_R296 me, Md_K296 me, Md_R297 me, Md_K297 me, Md_R298 me, Md_K298 me, Md_R299 me, Md_K299 me, a2, G2, gG', p2, op, s6, mp, lcm_pos, Int.toNat_natCast, Int.natCast_nonneg, true_and, and_true, and_self, if_true, if_false, or_true, true_or, or_false, false_or, ne_eq, not_true_eq_false, not_false_eq_true, Nat.reduceLeDiff, Nat.reduceEqDiff, Nat.reduceLT, Nat.reduceAdd, Nat.reduceMul, Nat.reduceSub, Int.reduceLT, Int.reduceLE, Int.reduceEq, Int.reduceToNat, Int.reduceAdd, Int.reduceSub, Int.reduceMul, Int.reduceNeg, Int.cast_ofNat_Int, false_and, and_false]
        have no : ¬ (0 < rwD σ z i ((LA σ).getD p 0) ∧ lead (fA σ) (okT2 z) (GA σ) l i ((LA σ).getD p 0) g = true) → WP (d + 5) mX12_suspects 112 [some (.inr (.inr 294)), some (.inl (j : Int)), some (.inl 0), some (.inl (v : Int)), some (.inl (i : Int)), some (.inl (p : Int)), some (.inl (g : Int))] [.inl (v : Int)] e Q := fun hno => by
          simp only [rX12_suspects_112, rX12_suspects_113, rX12_suspects_114, rX12_suspects_115, rX12_suspects_118, ior_0 v31, g1]
          exact ih (g + 1) v hn v6 (fun g' => by rw [vb, WI_not hno])
        by_cases hz : (0 : Int) < (rwD σ z i ((LA σ).getD p 0) : Int)
        · have hz' : 0 < rwD σ z i ((LA σ).getD p 0) := Int.ofNat_lt.1 hz
          rw [if_pos hz]
          simp only [rX12_suspects_86, rX12_suspects_87, rX12_suspects_88, rX12_suspects_90, rX12_suspects_91, rX12_suspects_94, rX12_suspects_96, rX12_suspects_97, rX12_suspects_99, rX12_suspects_102, Md_K280 me, Md_R281 me, Md_K281 me, Md_R282 me, Md_K282 me, Md_R283 me, Md_K283 me, Md_R284 me, Md_K284 me, Md_R285 me, Md_K285 me, Md_R286 me, Md_K286 me, Md_R287 me, Md_K287 me, Md_R288 me, Md_K288 me, Md_R289 me, Md_K289 me, Md_R290 me, Md_K290 me, Md_R291 me, Md_K291 me, Md_R292 me, Md_K292 me, Md_R293 me, Md_K293 me, Md_R294 me, Md_K294 me, Md_R295 me, Md_K295 me, Md_R296 me, Md_K296 me, Md_R297 me, Md_K297 me, Md_R298 me, Md_K298 me, Md_R299 me, Md_K299 me, p2, op, S_goesSeen qe G2 j4 (ez fe) l12 hi (an1.fr fe) (hm i) hp gG, psh_some, Int.toNat_natCast, Int.natCast_nonneg, true_and, and_true, and_self, if_true, if_false, or_true, true_or, or_false, false_or, ne_eq, not_true_eq_false, not_false_eq_true, Nat.reduceLeDiff, Nat.reduceEqDiff, Nat.reduceLT, Nat.reduceAdd, Nat.reduceMul, Nat.reduceSub, Int.reduceLT, Int.reduceLE, Int.reduceEq, Int.reduceToNat, Int.reduceAdd, Int.reduceSub, Int.reduceMul, Int.reduceNeg, Int.cast_ofNat_Int, false_and, and_false]
          by_cases hc : lead (fA σ) (okT2 z) (GA σ) l i ((LA σ).getD p 0) g = true
          · simp only [if_pos hc]
            rw [if_neg (by decide)]
            simp only [rX12_suspects_105, rX12_suspects_106, rX12_suspects_108, rX12_suspects_109, rX12_suspects_113, rX12_suspects_114, rX12_suspects_115, rX12_suspects_118, orb_n v31 g31, g1]
            refine ih (g + 1) (v ||| 2 ^ g) hn vo (fun g' => ?_)
            rw [or_bit, Bool.or_eq_true, vb, decide_eq_true_eq, WI_add hp hz' hc]
            constructor
            · rintro (⟨h1, h2⟩ | h1)
              · exact ⟨h1, Or.inl h2⟩
              · exact ⟨by rw [h1]; exact gG, Or.inr h1⟩
            · rintro ⟨h1, h2 | h2⟩
              · exact Or.inl ⟨h1, h2⟩
              · exact Or.inr h2
          · simp only [if_neg hc]
            rw [if_pos (by trivial)]
            exact no (fun c => hc c.2)
        · rw [if_neg hz]
          exact no (fun c => hz (Int.ofNat_lt.2 c.1))
    have mid : ∀ (i : Nat) (e : Hp), i < l → Fp mP h1' e → MV e 307 (LA σ) (rwD σ z i) → (∀ p, p < (LA σ).length → rwD σ z i ((LA σ).getD p 0) < 9223372036854775808) → (∀ (v : Nat) (y6 : Option PV), v < 64 → (∀ g, v.testBit g = true ↔ g < GA σ ∧ WI (rwD σ z) (lead (fA σ) (okT2 z) (GA σ) l) (LA σ) i (LA σ).length 0 g) → WP (d + 5) mX12_suspects 127 [some (.inr (.inr 294)), some (.inl (j : Int)), some (.inl 0), some (.inl (v : Int)), some (.inl (i : Int)), some (.inl ((LA σ).length : Int)), y6] [] e Q) → ∀ (n p v : Nat) (y6 : Option PV), p + n = (LA σ).length → v < 64 → (∀ g', v.testBit g' = true ↔ g' < GA σ ∧ WI (rwD σ z) (lead (fA σ) (okT2 z) (GA σ) l) (LA σ) i p 0 g') → WP (d + 5) mX12_suspects 45 [some (.inr (.inr 294)), some (.inl (j : Int)), some (.inl 0), some (.inl (v : Int)), some (.inl (i : Int)), some (.inl (p : Int)), y6] [] e Q := by
      intro i e hi fe mv bd kk n
      have qe := q1.fr fe (fun a k q => mP_no q)
      have me := qe.1
      induction n with
      | zero =>
        intro p v y6 hp v6 vb
        have ep : p = (LA σ).length := hp
        subst ep
        rw [rX12_suspects_45]
        simp only [rX12_suspects_47, rX12_suspects_48, rX12_suspects_51, Md_K280 me, Md_R281 me, Md_K281 me, Md_R282 me, Md_K282 me, Md_R283 me, Md_K283 me, Md_R284 me, Md_K284 me, Md_R285 me, Md_K285 me, Md_R286 me, Md_K286 me, Md_R287 me, Md_K287 me, Md_R288 me, Md_K288 me, Md_R289 me, Md_K289 me, Md_R290 me, Md_K290 me, Md_R291 me, Md_K291 me, Md_R292 me, Md_K292 me, Md_R293 me, Md_K293 me, Md_R294 me, Md_K294 me, Md_R295 me, Md_K295 me, Md_R296 me, Md_K296 me, Md_R297 me, Md_K297 me, Md_R298 me, Md_K298 me, Md_R299 me, Md_K299 me, qe.2.2.1, Int.lt_irrefl, Int.toNat_natCast, Int.natCast_nonneg, true_and, and_true, and_self, if_true, if_false, or_true, true_or, or_false, false_or, ne_eq, not_true_eq_false, not_false_eq_true, Nat.reduceLeDiff, Nat.reduceEqDiff, Nat.reduceLT, Nat.reduceAdd, Nat.reduceMul, Nat.reduceSub, Int.reduceLT, Int.reduceLE, Int.reduceEq, Int.reduceToNat, Int.reduceAdd, Int.reduceSub, Int.reduceMul, Int.reduceNeg, Int.cast_ofNat_Int, false_and, and_false]
        exact kk v y6 v6 vb
      | succ n ih =>
        intro p v y6 hp v6 vb
        obtain ⟨pl, hn⟩ := gm_n hp
        obtain ⟨p1, p2, p3, p4⟩ := i_64 ok pl
        rw [rX12_suspects_45]
        simp only [rX12_suspects_47, rX12_suspects_48, rX12_suspects_51, rX12_suspects_54, rX12_suspects_55, Md_K280 me, Md_R281 me, Md_K281 me, Md_R282 me, Md_K282 me, Md_R283 me, Md_K283 me, Md_R284 me, Md_K284 me, Md_R285 me, Md_K285 me, Md_R286 me, Md_K286 me, Md_R287 me, Md_K287 me, Md_R288 me, Md_K288 me, Md_R289 me, Md_K289 me, Md_R290 me, Md_K290 me, Md_R291 me, Md_K291 me, Md_R292 me, Md_K292 me, Md_R293 me, Md_K293 me, Md_R294 me, Md_K294 me, Md_R295 me, Md_K295 me, Md_R296 me, Md_K296 me, Md_R297 me, Md_K297 me, Md_R298 me, Md_K298 me, Md_R299 me, Md_K299 me, qe.2.2.1, p1, Int.toNat_natCast, Int.natCast_nonneg, true_and, and_true, and_self, if_true, if_false, or_true, true_or, or_false, false_or, ne_eq, not_true_eq_false, not_false_eq_true, Nat.reduceLeDiff, Nat.reduceEqDiff, Nat.reduceLT, Nat.reduceAdd, Nat.reduceMul, Nat.reduceSub, Int.reduceLT, Int.reduceLE, Int.reduceEq, Int.reduceToNat, Int.reduceAdd, Int.reduceSub, Int.reduceMul, Int.reduceNeg, Int.cast_ofNat_Int, false_and, and_false]
        refine gos i p e hi pl fe mv bd ?_ (GA σ) 0 v (Nat.zero_add _) v6 vb
        intro v2 v26 vb2
        simp only [rX12_suspects_121, rX12_suspects_124, p3]
        refine ih (p + 1) v2 _ hn v26 (fun g => ?_)
        rw [vb2]
        exact ⟨fun q => ⟨q.1, (WI_p q.1).1 q.2⟩, fun q => ⟨q.1, (WI_p q.1).2 q.2⟩⟩
    have outer : ∀ (n i : Nat) (e : Hp) (v : Nat) (y5 y6 : Option PV), i + n = l → Fp mP h1' e → MV e 307 (LA σ) (rwD σ z i) → MZ e 308 (LA σ) → v < 64 → (∀ g, v.testBit g = true ↔ g < GA σ ∧ WI (rwD σ z) (lead (fA σ) (okT2 z) (GA σ) l) (LA σ) i 0 0 g) → WP (d + 5) mX12_suspects 31 [some (.inr (.inr 294)), some (.inl (j : Int)), some (.inl 0), some (.inl (v : Int)), some (.inl (i : Int)), y5, y6] [] e Q := by
      intro n
      induction n with
      | zero =>
        intro i e v y5 y6 hi fe mv mz v6 vb
        have ei : i = l := hi
        have qe := q1.fr fe (fun a k q => mP_no q)
        have me := qe.1
        have sM2 : hI e 312 j = (l : Int) := by rw [fe.I (by unfold mP; decide)]; exact sM'
        rw [ei] at vb ⊢
        rw [rX12_suspects_31]
        simp only [rX12_suspects_33, rX12_suspects_34, rX12_suspects_37, rX12_suspects_38, rX12_suspects_39, rX12_suspects_186, rX12_suspects_187, Md_K280 me, Md_R281 me, Md_K281 me, Md_R282 me, Md_K282 me, Md_R283 me, Md_K283 me, Md_R284 me, Md_K284 me, Md_R285 me, Md_K285 me, Md_R286 me, Md_K286 me, Md_R287 me, Md_K287 me, Md_R288 me, Md_K288 me, Md_R289 me, Md_K289 me, Md_R290 me, Md_K290 me, Md_R291 me, Md_K291 me, Md_R292 me, Md_K292 me, Md_R293 me, Md_K293 me, Md_R294 me, Md_K294 me, Md_R295 me, Md_K295 me, Md_R296 me, Md_K296 me, Md_R297 me, Md_K297 me, Md_R298 me, Md_K298 me, Md_R299 me, Md_K299 me, j4', sM2, Int.lt_irrefl, Int.toNat_natCast, Int.natCast_nonneg, true_and, and_true, and_self, if_true, if_false, or_true, true_or, or_false, false_or, ne_eq, not_true_eq_false, not_false_eq_true, Nat.reduceLeDiff, Nat.reduceEqDiff, Nat.reduceLT, Nat.reduceAdd, Nat.reduceMul, Nat.reduceSub, Int.reduceLT, Int.reduceLE, Int.reduceEq, Int.reduceToNat, Int.reduceAdd, Int.reduceSub, Int.reduceMul, Int.reduceNeg, Int.cast_ofNat_Int, false_and, and_false]
        have ev : v = fitP (SU σ z l) (GA σ) := fitP_eq (fun g => by
          rw [vb]
          constructor
          · rintro ⟨q1, i', p', h1, h2, h3, h4⟩
            exact ⟨q1, i', p', h1.elim id (fun q => q.2.elim (fun c => absurd c (Nat.not_lt_zero _)) (fun c => absurd c.2 (Nat.not_lt_zero _))), h2, h3, h4⟩
          · rintro ⟨q1, i', p', h1, h2⟩
            exact ⟨q1, i', p', Or.inl h1, h2⟩)
        rw [ev]
        exact k e ((f1.mono (fun a k q => sq_u q)).trans (fe.mono (fun a k q => mP_u q)))
      | succ n ih =>
        intro i e v y5 y6 hi fe mv mz v6 vb
        obtain ⟨il, i12, i12', ill, i1, hn⟩ := i_l hi l12
        have qe := q1.fr fe (fun a k q => mP_no q)
        have me := qe.1
        have sM2 : hI e 312 j = (l : Int) := by rw [fe.I (by unfold mP; decide)]; exact sM'
        rw [rX12_suspects_31]
        simp only [rX12_suspects_33, rX12_suspects_34, rX12_suspects_37, rX12_suspects_38, rX12_suspects_39, rX12_suspects_42, rX12_suspects_43, Md_K280 me, Md_R281 me, Md_K281 me, Md_R282 me, Md_K282 me, Md_R283 me, Md_K283 me, Md_R284 me, Md_K284 me, Md_R285 me, Md_K285 me, Md_R286 me, Md_K286 me, Md_R287 me, Md_K287 me, Md_R288 me, Md_K288 me, Md_R289 me, Md_K289 me, Md_R290 me, Md_K290 me, Md_R291 me, Md_K291 me, Md_R292 me, Md_K292 me, Md_R293 me, Md_K293 me, Md_R294 me, Md_K294 me, Md_R295 me, Md_K295 me, Md_R296 me, Md_K296 me, Md_R297 me, Md_K297 me, Md_R298 me, Md_K298 me, Md_R299 me, Md_K299 me, j4', sM2, il, Int.toNat_natCast, Int.natCast_nonneg, true_and, and_true, and_self, if_true, if_false, or_true, true_or, or_false, false_or, ne_eq, not_true_eq_false, not_false_eq_true, Nat.reduceLeDiff, Nat.reduceEqDiff, Nat.reduceLT, Nat.reduceAdd, Nat.reduceMul, Nat.reduceSub, Int.reduceLT, Int.reduceLE, Int.reduceEq, Int.reduceToNat, Int.reduceAdd, Int.reduceSub, Int.reduceMul, Int.reduceNeg, Int.cast_ofNat_Int, false_and, and_false]
        refine mid i e ill fe mv (rwD_b w qe i12') ?_ (LA σ).length 0 v _ (Nat.zero_add _) v6 vb
        intro v2 z6 v26 vb2
        simp only [rX12_suspects_127, rX12_suspects_128, rX12_suspects_129, Md_K280 me, Md_R281 me, Md_K281 me, Md_R282 me, Md_K282 me, Md_R283 me, Md_K283 me, Md_R284 me, Md_K284 me, Md_R285 me, Md_K285 me, Md_R286 me, Md_K286 me, Md_R287 me, Md_K287 me, Md_R288 me, Md_K288 me, Md_R289 me, Md_K289 me, Md_R290 me, Md_K290 me, Md_R291 me, Md_K291 me, Md_R292 me, Md_K292 me, Md_R293 me, Md_K293 me, Md_R294 me, Md_K294 me, Md_R295 me, Md_K295 me, Md_R296 me, Md_K296 me, Md_R297 me, Md_K297 me, Md_R298 me, Md_K298 me, Md_R299 me, Md_K299 me, Int.toNat_natCast, Int.natCast_nonneg, true_and, and_true, and_self, if_true, if_false, or_true, true_or, or_false, false_or, ne_eq, not_true_eq_false, not_false_eq_true, Nat.reduceLeDiff, Nat.reduceEqDiff, Nat.reduceLT, Nat.reduceAdd, Nat.reduceMul, Nat.reduceSub, Int.reduceLT, Int.reduceLE, Int.reduceEq, Int.reduceToNat, Int.reduceAdd, Int.reduceSub, Int.reduceMul, Int.reduceNeg, Int.cast_ofNat_Int, false_and, and_false]
        refine S_goesMany (d := d + 4) (W := fun _ => 1) qe (GA_e w) (Or.inl ⟨rfl, fun g _ => rfl⟩) mv mz (rwD_b w qe i12') ?_
        intro e2 f2 mv2 mz2
        have fe2 := fe.trans f2
        have qe2 := q1.fr fe2 (fun a k q => mP_no q)
        simp only [psh_none, rX12_suspects_132, rX12_suspects_133]
        refine su_filter (d := d + 4) qe2 j4 i12 (ez fe2 i ill) mv2 ?_
        intro e3 f3 mv3
        rw [flD_s] at mv3
        simp only [rX12_suspects_180, rX12_suspects_183, i1]
        refine ih (i + 1) e3 v2 _ _ hn (fe2.trans (mP_3 f3)) mv3 (fun p hp => ?_) v26 (fun g => by rw [vb2, WI_i])
        rw [f3.J (show ¬ (308 = 307) by decide)]
        exact mz2 p hp
    refine outer l 0 h2' 0 _ _ (Nat.zero_add _) f2 mv2 mz2 (by decide) (fun g => ⟨fun c => ?_, fun c => ?_⟩)
    · rw [Nat.zero_testBit] at c; exact absurd c (by decide)
    · obtain ⟨_, i', p', c1, _⟩ := c
      exact absurd c1 (fun q => q.elim (Nat.not_lt_zero _) (fun q => q.2.elim (Nat.not_lt_zero _) (fun q => Nat.not_lt_zero _ q.2)))
  · rw [if_neg h0] at k ⊢
    simp only [rX12_suspects_15, rX12_suspects_16]
    exact k h (Fp.refl _ h)
