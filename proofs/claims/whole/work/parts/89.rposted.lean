/-! the reference's posted -/
/-- many, but where it isn't as seen -/
def flD (o : Nat → Bool) (D : Nat → Nat) : Nat → Nat := fun t => if o t = true then D t else 0
theorem ji_n {j i : Nat} (hj : j < 4) (hi : i < 12) : 40 * j + i < 160 ∧ i < 40 := by omega
set_option maxHeartbeats 1000000 in
theorem po_filter {d : Nat} {Q : Option PV → Hp → Prop} {h : Hp} {A : Nat → Int} {f : Nat → Nat → Nat} {set : Nat} {L : List Nat} (x : RQ h A f set L) {j i : Nat} {z : Int} {x2 : Option PV} {x5 : Option PV} (j4 : j < 4) (i12 : i < 12) (ez : hJ h 313 (40 * j + i) = z) {D : Nat → Nat} (mv : MV h 307 L D)
    (k : ∀ h', Fp (fun a _ => a = 307) h h' → MV h' 307 L (flD (okZ z) D) → WP (d + 1) mX12_posted 94 [some (.inr (.inr 294)), some (.inl (j : Int)), x2, some (.inl (i : Int)), some (.inl (L.length : Int)), x5] [] h' Q) :
    WP (d + 1) mX12_posted 50 [some (.inr (.inr 294)), some (.inl (j : Int)), x2, some (.inl (i : Int)), some (.inl 0), x5] [] h Q := by
  have ok := x.2.2.2.1
  refine wp_for (fun p e => WP (d + 1) mX12_posted 50 [some (.inr (.inr 294)), some (.inl (j : Int)), x2, some (.inl (i : Int)), some (.inl (p : Int)), x5] [] e Q) (fun p e => Fp (fun a _ => a = 307) h e ∧ (∀ q, q < L.length → hJ e 307 (L.getD q 0) = if q < p then w64 (flD (okZ z) D (L.getD q 0) : Int) else w64 (D (L.getD q 0) : Int))) L.length ?_ ?_ 0 h (Nat.zero_le _) ⟨Fp.refl _ h, fun q hq => by rw [if_neg (Nat.not_lt_zero _)]; exact mv q hq⟩
  · rintro p e hp ⟨fe, ze⟩ kk
    obtain ⟨p1, p2, p3, p4⟩ := i_64 ok hp
    have xe := x.fr fe (fun a k q => by omega)
    have me := xe.1
    have s6 : (L.getD p 0 : Int) < 6400 := Int.ofNat_lt.2 (getD_lt ok hp)
    have ez' : hJ e 313 (40 * j + i) = z := by rw [fe.J (show ¬ (313 = 307) by decide)]; exact ez
    have oi := xe.2.2.2.2.1 p hp
    have zp := ze p hp
    rw [if_neg (Nat.lt_irrefl p)] at zp
    rw [rX12_posted_50]
    simp only [rX12_posted_52, rX12_posted_53, rX12_posted_56, rX12_posted_59, rX12_posted_60, rX12_posted_61, rX12_posted_62, rX12_posted_63, rX12_posted_66, rX12_posted_68, rX12_posted_69, rX12_posted_72, Md_K280 me, Md_R281 me, Md_K281 me, Md_R282 me, Md_K282 me, Md_R283 me, Md_K283 me, Md_R284 me, Md_K284 me, Md_R285 me, Md_K285 me, Md_R286 me, Md_K286 me, Md_R287 me, Md_K287 me, Md_R288 me, Md_K288 me, Md_R289 me, Md_K289 me, Md_R290 me, Md_K290 me, Md_R291 me, Md_K291 me, Md_R292 me, Md_K292 me, Md_R293 me, Md_K293 me, Md_R294 me, Md_K294 me, Md_R295 me, Md_K295 me, Md_R296 me, Md_K296 me, Md_R297 me, Md_K297 me, Md_R298 me, Md_K298 me, Md_R299 me, Md_K299 me, xe.2.2.1, p1, p2, oi, S_isSeen me j4 (ji_n j4 i12).2 ez', psh_some, Int.toNat_natCast, Int.natCast_nonneg, true_and, and_true, and_self, if_true, if_false, or_true, true_or, or_false, false_or, ne_eq, not_true_eq_false, not_false_eq_true, Nat.reduceLeDiff, Nat.reduceEqDiff, Nat.reduceLT, Nat.reduceAdd, Nat.reduceMul, Nat.reduceSub, Int.reduceLT, Int.reduceLE, Int.reduceEq, Int.reduceToNat, Int.reduceAdd, Int.reduceSub, Int.reduceMul, Int.reduceNeg, Int.cast_ofNat_Int, false_and, and_false]
    by_cases hc : sees z ((L.getD p 0 % 100 : Nat) : Int) = true
    · rw [if_pos hc, if_neg (by decide)]
      simp only [rX12_posted_88, rX12_posted_91, p3]
      refine kk e ⟨fe, fun q hq => ?_⟩
      rw [ze q hq]
      by_cases hqp : q = p
      · subst hqp
        rw [if_neg (Nat.lt_irrefl q), if_pos (Nat.lt_succ_self q)]
        unfold flD
        rw [if_pos (show okZ z (L.getD q 0) = true from hc)]
      · by_cases h5 : q < p
        · rw [if_pos h5, if_pos (Nat.lt_succ_of_lt h5)]
        · rw [if_neg h5, if_neg (fun c => h5 (lt_one c hqp))]
    · rw [if_neg hc, if_pos (by trivial)]
      simp only [rX12_posted_75, rX12_posted_76, rX12_posted_79, rX12_posted_80, rX12_posted_83, rX12_posted_85, rX12_posted_86, rX12_posted_87, rX12_posted_88, rX12_posted_91, Md_K280 me, Md_R281 me, Md_K281 me, Md_R282 me, Md_K282 me, Md_R283 me, Md_K283 me, Md_R284 me, Md_K284 me, Md_R285 me, Md_K285 me, Md_R286 me, Md_K286 me, Md_R287 me, Md_K287 me, Md_R288 me, Md_K288 me, Md_R289 me, Md_K289 me, Md_R290 me, Md_K290 me, Md_R291 me, Md_K291 me, Md_R292 me, Md_K292 me, Md_R293 me, Md_K293 me, Md_R294 me, Md_K294 me, Md_R295 me, Md_K295 me, Md_R296 me, Md_K296 me, Md_R297 me, Md_K297 me, Md_R298 me, Md_K298 me, Md_R299 me, Md_K299 me, p2, p3, oi, s6, Int.toNat_natCast, Int.natCast_nonneg, true_and, and_true, and_self, if_true, if_false, or_true, true_or, or_false, false_or, ne_eq, not_true_eq_false, not_false_eq_true, Nat.reduceLeDiff, Nat.reduceEqDiff, Nat.reduceLT, Nat.reduceAdd, Nat.reduceMul, Nat.reduceSub, Int.reduceLT, Int.reduceLE, Int.reduceEq, Int.reduceToNat, Int.reduceAdd, Int.reduceSub, Int.reduceMul, Int.reduceNeg, Int.cast_ofNat_Int, false_and, and_false]
      refine kk _ ⟨fe.wJ (by exact rfl) _, fun q hq => ?_⟩
      rw [hJ_wJ]
      by_cases hqp : q = p
      · subst hqp
        rw [if_pos ⟨rfl, rfl⟩, if_pos (Nat.lt_succ_self q)]
        unfold flD
        rw [if_neg (show ¬ okZ z (L.getD q 0) = true from hc)]; exact w64_0.symm
      · rw [if_neg (fun c => hqp (getD_inj ok hq hp c.2)), ze q hq]
        by_cases h5 : q < p
        · rw [if_pos h5, if_pos (Nat.lt_succ_of_lt h5)]
        · rw [if_neg h5, if_neg (fun c => h5 (lt_one c hqp))]
  · rintro e ⟨fe, ze⟩
    have xe := x.fr fe (fun a k q => by omega)
    have me := xe.1
    rw [rX12_posted_50]
    simp only [rX12_posted_52, rX12_posted_53, rX12_posted_56, Md_K280 me, Md_R281 me, Md_K281 me, Md_R282 me, Md_K282 me, Md_R283 me, Md_K283 me, Md_R284 me, Md_K284 me, Md_R285 me, Md_K285 me, Md_R286 me, Md_K286 me, Md_R287 me, Md_K287 me, Md_R288 me, Md_K288 me, Md_R289 me, Md_K289 me, Md_R290 me, Md_K290 me, Md_R291 me, Md_K291 me, Md_R292 me, Md_K292 me, Md_R293 me, Md_K293 me, Md_R294 me, Md_K294 me, Md_R295 me, Md_K295 me, Md_R296 me, Md_K296 me, Md_R297 me, Md_K297 me, Md_R298 me, Md_K298 me, Md_R299 me, Md_K299 me, xe.2.2.1, Int.lt_irrefl, Int.toNat_natCast, Int.natCast_nonneg, true_and, and_true, and_self, if_true, if_false, or_true, true_or, or_false, false_or, ne_eq, not_true_eq_false, not_false_eq_true, Nat.reduceLeDiff, Nat.reduceEqDiff, Nat.reduceLT, Nat.reduceAdd, Nat.reduceMul, Nat.reduceSub, Int.reduceLT, Int.reduceLE, Int.reduceEq, Int.reduceToNat, Int.reduceAdd, Int.reduceSub, Int.reduceMul, Int.reduceNeg, Int.cast_ofNat_Int, false_and, and_false]
    exact k e fe (fun q hq => by rw [ze q hq, if_pos hq])
theorem flD_s {σ : AS} {z : Nat → Int} {i : Nat} : flD (okZ (z i)) (spL (fA σ) (fun _ => 1) (fun _ => true) (LA σ) (GA σ) (rwD σ z i) (LA σ).length) = rwD σ z (i + 1) := by
  funext t
  exact (spL_ok (ok := okZ (z i)) (LA σ).length t).symm
theorem mP_3 {h h' : Hp} (f : Fp (fun a _ => a = 307) h h') : Fp mP h h' := f.mono (fun _ _ q => Or.inl q)
theorem i_l {i l b : Nat} (h : i + (b + 1) = l) (hl : l ≤ 12) : (i : Int) < (l : Int) ∧ i < 12 ∧ i ≤ 12 ∧ i < l ∧ w32 ((i : Int) + 1) = ((i + 1 : Nat) : Int) ∧ i + 1 + b = l := ⟨by omega, by omega, by omega, by omega, w32_s (by omega), by omega⟩
set_option maxHeartbeats 1000000 in
theorem R_posted {d : Nat} {σ : AS} {t : Int} : RSpec (d + 4) mX12_posted [some (.inr (.inr 294)), some (.inl t), none, none, none, none] σ (.inr (.inl (ptV σ t))) σ := by
  refine RSpec5.of (RSpec5.u ?_) (fun h Q hk => by simp only [rX12_posted_0, rX12_posted_1, rX12_posted_2, hk, Int.toNat_natCast, Int.natCast_nonneg, true_and, and_true, and_self, if_true, if_false, or_true, true_or, or_false, false_or, ne_eq, not_true_eq_false, not_false_eq_true, Nat.reduceLeDiff, Nat.reduceEqDiff, Nat.reduceLT, Nat.reduceAdd, Nat.reduceMul, Nat.reduceSub, Int.reduceLT, Int.reduceLE, Int.reduceEq, Int.reduceToNat, Int.reduceAdd, Int.reduceSub, Int.reduceMul, Int.reduceNeg, Int.cast_ofNat_Int, false_and, and_false])
  intro h Q x w k
  have m := x.1
  unfold ptV at k
  simp only [rX12_posted_5, rX12_posted_6, rX12_posted_7, Md_K280 m, Md_R281 m, Md_K281 m, Md_R282 m, Md_K282 m, Md_R283 m, Md_K283 m, Md_R284 m, Md_K284 m, Md_R285 m, Md_K285 m, Md_R286 m, Md_K286 m, Md_R287 m, Md_K287 m, Md_R288 m, Md_K288 m, Md_R289 m, Md_K289 m, Md_R290 m, Md_K290 m, Md_R291 m, Md_K291 m, Md_R292 m, Md_K292 m, Md_R293 m, Md_K293 m, Md_R294 m, Md_K294 m, Md_R295 m, Md_K295 m, Md_R296 m, Md_K296 m, Md_R297 m, Md_K297 m, Md_R298 m, Md_K298 m, Md_R299 m, Md_K299 m, Int.toNat_natCast, Int.natCast_nonneg, true_and, and_true, and_self, if_true, if_false, or_true, true_or, or_false, false_or, ne_eq, not_true_eq_false, not_false_eq_true, Nat.reduceLeDiff, Nat.reduceEqDiff, Nat.reduceLT, Nat.reduceAdd, Nat.reduceMul, Nat.reduceSub, Int.reduceLT, Int.reduceLE, Int.reduceEq, Int.reduceToNat, Int.reduceAdd, Int.reduceSub, Int.reduceMul, Int.reduceNeg, Int.cast_ofNat_Int, false_and, and_false]
  refine S_noPosted (d := d + 1) x ?_
  simp only [psh_some, rX12_posted_10, rX12_posted_11, rX12_posted_12]
  by_cases h0 : poV σ t = 0
  · rw [if_pos h0] at k ⊢
    obtain ⟨j, l, rfl, j4, ns, el, l1, l12, zz⟩ := poV_0 h0
    have j4' := (j_n j4).1
    simp only [Int.toNat_natCast, el] at k
    simp only [h0, rX12_posted_18, rX12_posted_19, rX12_posted_20, rX12_posted_23, Md_K280 m, Md_R281 m, Md_K281 m, Md_R282 m, Md_K282 m, Md_R283 m, Md_K283 m, Md_R284 m, Md_K284 m, Md_R285 m, Md_K285 m, Md_R286 m, Md_K286 m, Md_R287 m, Md_K287 m, Md_R288 m, Md_K288 m, Md_R289 m, Md_K289 m, Md_R290 m, Md_K290 m, Md_R291 m, Md_K291 m, Md_R292 m, Md_K292 m, Md_R293 m, Md_K293 m, Md_R294 m, Md_K294 m, Md_R295 m, Md_K295 m, Md_R296 m, Md_K296 m, Md_R297 m, Md_K297 m, Md_R298 m, Md_K298 m, Md_R299 m, Md_K299 m, S_rAll (x.rp w), psh_some, Int.toNat_natCast, Int.natCast_nonneg, true_and, and_true, and_self, if_true, if_false, or_true, true_or, or_false, false_or, ne_eq, not_true_eq_false, not_false_eq_true, Nat.reduceLeDiff, Nat.reduceEqDiff, Nat.reduceLT, Nat.reduceAdd, Nat.reduceMul, Nat.reduceSub, Int.reduceLT, Int.reduceLE, Int.reduceEq, Int.reduceToNat, Int.reduceAdd, Int.reduceSub, Int.reduceMul, Int.reduceNeg, Int.cast_ofNat_Int, false_and, and_false]
    refine S_laysStands (x.rp w) w.2.1 (set64 w.1 (all_l2 _)) ?_
    intro h1' f1 x1
    have q1' : RQ h1' (sA σ) (fA σ) (2 ^ GA σ - 1) (LA σ) := x1.rq w.1 w.2.1 (all_l2 _)
    have m1 := q1'.1
    have fu := f1.mono (P' := uP) (fun a k q => rsP_u q)
    have xr := x.u fu
    have sM' := (xr.2.2.2.2.2.2.2.1 j j4).2
    rw [el] at sM'
    have sB' := xr.2.2.2.2.2.2.2.2
    have l0 : (LA σ).getD 0 0 = stt (stA (sA σ)) := (Lst_0 (sA σ) (stA (sA σ)) _).1
    simp only [psh_none, rX12_posted_26, rX12_posted_27, Md_K280 m1, Md_R281 m1, Md_K281 m1, Md_R282 m1, Md_K282 m1, Md_R283 m1, Md_K283 m1, Md_R284 m1, Md_K284 m1, Md_R285 m1, Md_K285 m1, Md_R286 m1, Md_K286 m1, Md_R287 m1, Md_K287 m1, Md_R288 m1, Md_K288 m1, Md_R289 m1, Md_K289 m1, Md_R290 m1, Md_K290 m1, Md_R291 m1, Md_K291 m1, Md_R292 m1, Md_K292 m1, Md_R293 m1, Md_K293 m1, Md_R294 m1, Md_K294 m1, Md_R295 m1, Md_K295 m1, Md_R296 m1, Md_K296 m1, Md_R297 m1, Md_K297 m1, Md_R298 m1, Md_K298 m1, Md_R299 m1, Md_K299 m1, Int.toNat_natCast, Int.natCast_nonneg, true_and, and_true, and_self, if_true, if_false, or_true, true_or, or_false, false_or, ne_eq, not_true_eq_false, not_false_eq_true, Nat.reduceLeDiff, Nat.reduceEqDiff, Nat.reduceLT, Nat.reduceAdd, Nat.reduceMul, Nat.reduceSub, Int.reduceLT, Int.reduceLE, Int.reduceEq, Int.reduceToNat, Int.reduceAdd, Int.reduceSub, Int.reduceMul, Int.reduceNeg, Int.cast_ofNat_Int, false_and, and_false]
    refine S_beginsMany (d := d + 1) ⟨m1, q1'.2.1, w.1⟩ w.2.1 q1'.2.2.2.1 l0 ?_
    intro h2' f2 mv2 mz2
    simp only [psh_none, rX12_posted_30, rX12_posted_31]
    have e9 : tzZ σ j = szZ (trZ σ j) l := by unfold tzZ; rw [el]; rfl
    rw [e9] at k
    have main : ∀ b i (e : Hp) (y4 : Option PV), i + b = l → Fp mP h1' e → MV e 307 (LA σ) (rwD σ (szZ (trZ σ j) l) i) → MZ e 308 (LA σ) → WP (d + 4) mX12_posted 32 [some (.inr (.inr 294)), some (.inl (j : Int)), some (.inl 0), some (.inl (i : Int)), y4, none] [] e Q := by
      intro b
      induction b with
      | zero =>
        intro i e y4 hi fe mv mz
        have ei : i = l := by omega
        subst ei
        have qe := q1'.fr fe (fun a k q => mP_no q)
        have me := qe.1
        have sM2 : hI e 312 j = (i : Int) := by rw [fe.I (by unfold mP; omega)]; exact sM'
        have k0 := k e (fu.trans (fe.mono (fun a k q => mP_u q)))
        have ok := qe.2.2.2.1
        have ord := qe.2.2.2.2.1
        rw [rX12_posted_32]
        simp only [rX12_posted_33, rX12_posted_34, rX12_posted_37, rX12_posted_38, rX12_posted_39, rX12_posted_100, rX12_posted_101, rX12_posted_102, rX12_posted_103, Md_K280 me, Md_R281 me, Md_K281 me, Md_R282 me, Md_K282 me, Md_R283 me, Md_K283 me, Md_R284 me, Md_K284 me, Md_R285 me, Md_K285 me, Md_R286 me, Md_K286 me, Md_R287 me, Md_K287 me, Md_R288 me, Md_K288 me, Md_R289 me, Md_K289 me, Md_R290 me, Md_K290 me, Md_R291 me, Md_K291 me, Md_R292 me, Md_K292 me, Md_R293 me, Md_K293 me, Md_R294 me, Md_K294 me, Md_R295 me, Md_K295 me, Md_R296 me, Md_K296 me, Md_R297 me, Md_K297 me, Md_R298 me, Md_K298 me, Md_R299 me, Md_K299 me, j4', sM2, Int.lt_irrefl, Int.toNat_natCast, Int.natCast_nonneg, true_and, and_true, and_self, if_true, if_false, or_true, true_or, or_false, false_or, ne_eq, not_true_eq_false, not_false_eq_true, Nat.reduceLeDiff, Nat.reduceEqDiff, Nat.reduceLT, Nat.reduceAdd, Nat.reduceMul, Nat.reduceSub, Int.reduceLT, Int.reduceLE, Int.reduceEq, Int.reduceToNat, Int.reduceAdd, Int.reduceSub, Int.reduceMul, Int.reduceNeg, Int.cast_ofNat_Int, false_and, and_false]
        generalize rwD σ (szZ (trZ σ j) i) i = D at mv k0
        have sum : ∀ n p, p + n = (LA σ).length → WP (d + 4) mX12_posted 105 [some (.inr (.inr 294)), some (.inl (j : Int)), some (.inl 0), some (.inr (.inl (w64 (smL (LA σ) D p : Int)))), none, some (.inl (p : Int))] [] e Q := by
          intro n
          induction n with
          | zero =>
            intro p hp
            have e1 : p = (LA σ).length := by omega
            subst e1
            rw [rX12_posted_105]
            simp only [rX12_posted_107, rX12_posted_108, rX12_posted_111, rX12_posted_135, rX12_posted_136, Md_K280 me, Md_R281 me, Md_K281 me, Md_R282 me, Md_K282 me, Md_R283 me, Md_K283 me, Md_R284 me, Md_K284 me, Md_R285 me, Md_K285 me, Md_R286 me, Md_K286 me, Md_R287 me, Md_K287 me, Md_R288 me, Md_K288 me, Md_R289 me, Md_K289 me, Md_R290 me, Md_K290 me, Md_R291 me, Md_K291 me, Md_R292 me, Md_K292 me, Md_R293 me, Md_K293 me, Md_R294 me, Md_K294 me, Md_R295 me, Md_K295 me, Md_R296 me, Md_K296 me, Md_R297 me, Md_K297 me, Md_R298 me, Md_K298 me, Md_R299 me, Md_K299 me, qe.2.2.1, Int.lt_irrefl, Int.toNat_natCast, Int.natCast_nonneg, true_and, and_true, and_self, if_true, if_false, or_true, true_or, or_false, false_or, ne_eq, not_true_eq_false, not_false_eq_true, Nat.reduceLeDiff, Nat.reduceEqDiff, Nat.reduceLT, Nat.reduceAdd, Nat.reduceMul, Nat.reduceSub, Int.reduceLT, Int.reduceLE, Int.reduceEq, Int.reduceToNat, Int.reduceAdd, Int.reduceSub, Int.reduceMul, Int.reduceNeg, Int.cast_ofNat_Int, false_and, and_false]
            exact k0
          | succ n ih =>
            intro p hp
            have pl : p < (LA σ).length := by omega
            obtain ⟨c1, c2, c3, c4⟩ := i_64 ok pl
            have s6 : ((LA σ).getD p 0 : Int) < 6400 := Int.ofNat_lt.2 (getD_lt ok pl)
            have go := ih (p + 1) (by omega)
            have e1 : w64 (w64 (smL (LA σ) D p : Int) + w64 (D ((LA σ).getD p 0) : Int)) = w64 (smL (LA σ) D (p + 1) : Int) := by
              rw [w64_add2, ← Int.natCast_add]; rfl
            rw [rX12_posted_105]
            simp only [rX12_posted_107, rX12_posted_108, rX12_posted_111, rX12_posted_114, rX12_posted_115, rX12_posted_116, rX12_posted_119, rX12_posted_120, rX12_posted_123, rX12_posted_125, rX12_posted_126, rX12_posted_127, rX12_posted_128, rX12_posted_129, rX12_posted_132, Md_K280 me, Md_R281 me, Md_K281 me, Md_R282 me, Md_K282 me, Md_R283 me, Md_K283 me, Md_R284 me, Md_K284 me, Md_R285 me, Md_K285 me, Md_R286 me, Md_K286 me, Md_R287 me, Md_K287 me, Md_R288 me, Md_K288 me, Md_R289 me, Md_K289 me, Md_R290 me, Md_K290 me, Md_R291 me, Md_K291 me, Md_R292 me, Md_K292 me, Md_R293 me, Md_K293 me, Md_R294 me, Md_K294 me, Md_R295 me, Md_K295 me, Md_R296 me, Md_K296 me, Md_R297 me, Md_K297 me, Md_R298 me, Md_K298 me, Md_R299 me, Md_K299 me, qe.2.2.1, c1, c2, c3, ord p pl, s6, mv p pl, e1, Int.toNat_natCast, Int.natCast_nonneg, true_and, and_true, and_self, if_true, if_false, or_true, true_or, or_false, false_or, ne_eq, not_true_eq_false, not_false_eq_true, Nat.reduceLeDiff, Nat.reduceEqDiff, Nat.reduceLT, Nat.reduceAdd, Nat.reduceMul, Nat.reduceSub, Int.reduceLT, Int.reduceLE, Int.reduceEq, Int.reduceToNat, Int.reduceAdd, Int.reduceSub, Int.reduceMul, Int.reduceNeg, Int.cast_ofNat_Int, false_and, and_false]
            exact go
        have go := sum (LA σ).length 0 (Nat.zero_add _)
        have e0 : w64 ((smL (LA σ) D 0 : Nat) : Int) = 0 := w64_0
        rw [e0] at go
        exact go
      | succ b ih =>
        intro i e y4 hi fe mv mz
        obtain ⟨il, i12, i12', ill, i1, hn⟩ := i_l hi l12
        have qe := q1'.fr fe (fun a k q => mP_no q)
        have me := qe.1
        have sM2 : hI e 312 j = (l : Int) := by rw [fe.I (by unfold mP; omega)]; exact sM'
        rw [rX12_posted_32]
        simp only [rX12_posted_33, rX12_posted_34, rX12_posted_37, rX12_posted_38, rX12_posted_39, rX12_posted_42, rX12_posted_43, rX12_posted_44, Md_K280 me, Md_R281 me, Md_K281 me, Md_R282 me, Md_K282 me, Md_R283 me, Md_K283 me, Md_R284 me, Md_K284 me, Md_R285 me, Md_K285 me, Md_R286 me, Md_K286 me, Md_R287 me, Md_K287 me, Md_R288 me, Md_K288 me, Md_R289 me, Md_K289 me, Md_R290 me, Md_K290 me, Md_R291 me, Md_K291 me, Md_R292 me, Md_K292 me, Md_R293 me, Md_K293 me, Md_R294 me, Md_K294 me, Md_R295 me, Md_K295 me, Md_R296 me, Md_K296 me, Md_R297 me, Md_K297 me, Md_R298 me, Md_K298 me, Md_R299 me, Md_K299 me, j4', sM2, il, Int.toNat_natCast, Int.natCast_nonneg, true_and, and_true, and_self, if_true, if_false, or_true, true_or, or_false, false_or, ne_eq, not_true_eq_false, not_false_eq_true, Nat.reduceLeDiff, Nat.reduceEqDiff, Nat.reduceLT, Nat.reduceAdd, Nat.reduceMul, Nat.reduceSub, Int.reduceLT, Int.reduceLE, Int.reduceEq, Int.reduceToNat, Int.reduceAdd, Int.reduceSub, Int.reduceMul, Int.reduceNeg, Int.cast_ofNat_Int, false_and, and_false]
        refine S_goesMany (W := fun _ => 1) qe (GA_e w) (Or.inl ⟨rfl, fun g _ => rfl⟩) mv mz (rwD_b w qe i12') ?_
        intro e2 f2 mv2 mz2
        have fe2 := fe.trans f2
        have qe2 := q1'.fr fe2 (fun a k q => mP_no q)
        simp only [psh_none, rX12_posted_47, rX12_posted_48]
        have ez : hJ e2 313 (40 * j + i) = szZ (trZ σ j) l i := by
          rw [fe2.J (by unfold mP; omega), sB' (40 * j + i) (ji_n j4 i12).1]
          unfold szZ
          rw [if_pos ill]; rfl
        refine po_filter (d := d + 3) qe2 j4 i12 ez mv2 ?_
        intro e3 f3 mv3
        rw [flD_s] at mv3
        simp only [rX12_posted_94, rX12_posted_97, i1]
        refine ih (i + 1) e3 _ hn (fe2.trans (mP_3 f3)) mv3 (fun p hp => ?_)
        rw [f3.J (show ¬ (308 = 307) by decide)]
        exact mz2 p hp
    exact main l 0 h2' _ (Nat.zero_add _) f2 mv2 mz2
  · rw [if_neg h0] at k ⊢
    simp only [rX12_posted_15, rX12_posted_16, rX12_posted_17]
    exact k h (Fp.refl _ h)
