/-! the reference's whoPosted, behind its marks -/
theorem wpG_no {f : Nat → Nat → Nat} {ok : Nat → Nat → Bool} {G l i s dv : Nat} (h : anyB (lead f ok G l dv s) G = false) : wpG f ok G l i s dv = -1 := by
  have e := ffR_no.2 h
  cases i with
  | zero => exact e
  | succ i => unfold wpG; rw [if_pos e]
theorem sq_no {a k : Nat} (h : a = 311 ∨ a = 312 ∨ a = 313 ∨ a = 307 ∨ a = 308 ∨ a = 295) : ¬ sqP a k := by unfold sqP rsP lP snP; omega
theorem sq_u {a k : Nat} (q : sqP a k) : uP a k := by unfold sqP snP at q; rcases q with q | q; exact rsP_u q; unfold uP; omega
theorem wp_b {b n i l : Nat} (h : b + n = i) (hi : i < l) (hl : l ≤ 12) : b < l ∧ (n = 0 → (b : Int) = (i : Int)) ∧ (0 < n → ¬ ((b : Int) = (i : Int))) ∧ w32 ((b : Int) + 1) = ((b + 1 : Nat) : Int) := ⟨by omega, by omega, by omega, w32_s (by omega)⟩
theorem bs_n {b n i l : Nat} (h : b + (n + 1) = i) (hi : i < l) : b + 1 + n = i ∧ b + 1 < l := by omega
theorem gm_n {g m G : Nat} (h : g + (m + 1) = G) : g < G ∧ g + 1 + m = G := by omega
set_option maxHeartbeats 1000000 in
theorem R_whoPosted {d : Nat} {σ : AS} {t i : Int} : RSpec (d + 5) mX12_whoPosted [some (.inr (.inr 294)), some (.inl t), some (.inl i), none, none, none, none] σ (.inl (whV σ t i)) σ := by
  refine RSpec5.of (RSpec5.u ?_) (fun h Q hk => by simp only [rX12_whoPosted_0, rX12_whoPosted_1, rX12_whoPosted_2, hk, Int.toNat_natCast, Int.natCast_nonneg, true_and, and_true, and_self, if_true, if_false, or_true, true_or, or_false, false_or, ne_eq, not_true_eq_false, not_false_eq_true, Nat.reduceLeDiff, Nat.reduceEqDiff, Nat.reduceLT, Nat.reduceAdd, Nat.reduceMul, Nat.reduceSub, Int.reduceLT, Int.reduceLE, Int.reduceEq, Int.reduceToNat, Int.reduceAdd, Int.reduceSub, Int.reduceMul, Int.reduceNeg, Int.cast_ofNat_Int, false_and, and_false])
  intro h Q x w k
  have m := x.1
  unfold whV at k
  simp only [rX12_whoPosted_5, rX12_whoPosted_6, rX12_whoPosted_7, Md_K280 m, Md_R281 m, Md_K281 m, Md_R282 m, Md_K282 m, Md_R283 m, Md_K283 m, Md_R284 m, Md_K284 m, Md_R285 m, Md_K285 m, Md_R286 m, Md_K286 m, Md_R287 m, Md_K287 m, Md_R288 m, Md_K288 m, Md_R289 m, Md_K289 m, Md_R290 m, Md_K290 m, Md_R291 m, Md_K291 m, Md_R292 m, Md_K292 m, Md_R293 m, Md_K293 m, Md_R294 m, Md_K294 m, Md_R295 m, Md_K295 m, Md_R296 m, Md_K296 m, Md_R297 m, Md_K297 m, Md_R298 m, Md_K298 m, Md_R299 m, Md_K299 m, Int.toNat_natCast, Int.natCast_nonneg, true_and, and_true, and_self, if_true, if_false, or_true, true_or, or_false, false_or, ne_eq, not_true_eq_false, not_false_eq_true, Nat.reduceLeDiff, Nat.reduceEqDiff, Nat.reduceLT, Nat.reduceAdd, Nat.reduceMul, Nat.reduceSub, Int.reduceLT, Int.reduceLE, Int.reduceEq, Int.reduceToNat, Int.reduceAdd, Int.reduceSub, Int.reduceMul, Int.reduceNeg, Int.cast_ofNat_Int, false_and, and_false]
  refine S_noPosted (d := d + 2) x ?_
  simp only [psh_some, rX12_whoPosted_10, rX12_whoPosted_11, rX12_whoPosted_12]
  by_cases h0 : poV σ t = 0
  · rw [if_pos h0] at k ⊢
    obtain ⟨j, l, rfl, j4, ns, el, l1, l12, zz⟩ := poV_0 h0
    have j4' := (j_n j4).1
    simp only [Int.toNat_natCast, el] at k
    simp only [h0]
    rw [rX12_whoPosted_17, rX12_whoPosted_18]
    by_cases hi : i < 0
    · rw [if_pos hi] at k ⊢
      simp only [rX12_whoPosted_21, rX12_whoPosted_23]
      exact k h (Fp.refl _ h)
    · rw [if_neg hi] at k ⊢
      obtain ⟨I, rfl⟩ := Int.eq_ofNat_of_zero_le (Int.not_lt.1 hi)
      have e9 : tzZ σ j = szZ (trZ σ j) l := by unfold tzZ; rw [el]; rfl
      rw [e9] at k
      simp only [rX12_whoPosted_24, rX12_whoPosted_25, rX12_whoPosted_26, Md_K280 m, Md_R281 m, Md_K281 m, Md_R282 m, Md_K282 m, Md_R283 m, Md_K283 m, Md_R284 m, Md_K284 m, Md_R285 m, Md_K285 m, Md_R286 m, Md_K286 m, Md_R287 m, Md_K287 m, Md_R288 m, Md_K288 m, Md_R289 m, Md_K289 m, Md_R290 m, Md_K290 m, Md_R291 m, Md_K291 m, Md_R292 m, Md_K292 m, Md_R293 m, Md_K293 m, Md_R294 m, Md_K294 m, Md_R295 m, Md_K295 m, Md_R296 m, Md_K296 m, Md_R297 m, Md_K297 m, Md_R298 m, Md_K298 m, Md_R299 m, Md_K299 m, Int.toNat_natCast, Int.natCast_nonneg, true_and, and_true, and_self, if_true, if_false, or_true, true_or, or_false, false_or, ne_eq, not_true_eq_false, not_false_eq_true, Nat.reduceLeDiff, Nat.reduceEqDiff, Nat.reduceLT, Nat.reduceAdd, Nat.reduceMul, Nat.reduceSub, Int.reduceLT, Int.reduceLE, Int.reduceEq, Int.reduceToNat, Int.reduceAdd, Int.reduceSub, Int.reduceMul, Int.reduceNeg, Int.cast_ofNat_Int, false_and, and_false]
      refine S_laysSeen x w j4 el l1 l12 ?_
      intro h1' f1 q1 an1
      have m1 := q1.1
      have ok := q1.2.2.2.1
      have k0 := k h1' (f1.mono (fun a k q => sq_u q))
      have l0 : (LA σ).getD 0 0 = stt (stA (sA σ)) := (Lst_0 (sA σ) (stA (sA σ)) _).1
      have sM' : hI h1' 312 j = (l : Int) := by rw [f1.I (sq_no (Or.inr (Or.inl rfl))), (x.2.2.2.2.2.2.2.1 j j4).2, el]
      have ez : ∀ i, i < l → hJ h1' 313 (40 * j + i) = szZ (trZ σ j) l i := fun i hi => by
        rw [f1.J (sq_no (Or.inr (Or.inr (Or.inl rfl)))), x.2.2.2.2.2.2.2.2 (40 * j + i) (tr_i j4 (Nat.lt_of_lt_of_le hi l12))]
        unfold szZ
        rw [if_pos hi]; rfl
      have G6 := G_6 w
      have sl : (stt (stA (sA σ)) : Int) < 83200 := Int.lt_trans (Int.ofNat_lt.2 (stt_lt w.2.1)) (by decide)
      have a0 := an1 0 ok.2.2 0 (Nat.le_refl _) (Nat.zero_le _)
      rw [Nat.mul_zero, Nat.zero_add, Nat.sub_zero, l0] at a0
      have as0 := asR_s (f := fA σ) (ok := okT2 (szZ (trZ σ j) l)) (G := GA σ) (i := 0) (l := l) l1 (stt (stA (sA σ)))
      rw [Nat.sub_zero] at as0
      rw [as0] at a0
      rw [l0] at k0
      generalize szZ (trZ σ j) l = z at an1 a0 k0 as0 ez
      simp only [psh_none, rX12_whoPosted_29, rX12_whoPosted_30, rX12_whoPosted_33, rX12_whoPosted_35, rX12_whoPosted_36, rX12_whoPosted_39, rX12_whoPosted_41, rX12_whoPosted_42, Md_K280 m1, Md_R281 m1, Md_K281 m1, Md_R282 m1, Md_K282 m1, Md_R283 m1, Md_K283 m1, Md_R284 m1, Md_K284 m1, Md_R285 m1, Md_K285 m1, Md_R286 m1, Md_K286 m1, Md_R287 m1, Md_K287 m1, Md_R288 m1, Md_K288 m1, Md_R289 m1, Md_K289 m1, Md_R290 m1, Md_K290 m1, Md_R291 m1, Md_K291 m1, Md_R292 m1, Md_K292 m1, Md_R293 m1, Md_K293 m1, Md_R294 m1, Md_K294 m1, Md_R295 m1, Md_K295 m1, Md_R296 m1, Md_K296 m1, Md_R297 m1, Md_K297 m1, Md_R298 m1, Md_K298 m1, Md_R299 m1, Md_K299 m1, S_standNow ⟨m1, q1.2.1, w.1⟩ w.2.1, psh_some, sl, a0, Int.toNat_natCast, Int.natCast_nonneg, true_and, and_true, and_self, if_true, if_false, or_true, true_or, or_false, false_or, ne_eq, not_true_eq_false, not_false_eq_true, Nat.reduceLeDiff, Nat.reduceEqDiff, Nat.reduceLT, Nat.reduceAdd, Nat.reduceMul, Nat.reduceSub, Int.reduceLT, Int.reduceLE, Int.reduceEq, Int.reduceToNat, Int.reduceAdd, Int.reduceSub, Int.reduceMul, Int.reduceNeg, Int.cast_ofNat_Int, false_and, and_false]
      by_cases hA : anyB (lead (fA σ) (okT2 z) (GA σ) l 0 (stt (stA (sA σ)))) (GA σ) = true
      · simp only [if_pos hA]
        rw [if_neg (by decide)]
        simp only [rX12_whoPosted_45, rX12_whoPosted_46, rX12_whoPosted_47, rX12_whoPosted_50, rX12_whoPosted_51, rX12_whoPosted_52, Md_K280 m1, Md_R281 m1, Md_K281 m1, Md_R282 m1, Md_K282 m1, Md_R283 m1, Md_K283 m1, Md_R284 m1, Md_K284 m1, Md_R285 m1, Md_K285 m1, Md_R286 m1, Md_K286 m1, Md_R287 m1, Md_K287 m1, Md_R288 m1, Md_K288 m1, Md_R289 m1, Md_K289 m1, Md_R290 m1, Md_K290 m1, Md_R291 m1, Md_K291 m1, Md_R292 m1, Md_K292 m1, Md_R293 m1, Md_K293 m1, Md_R294 m1, Md_K294 m1, Md_R295 m1, Md_K295 m1, Md_R296 m1, Md_K296 m1, Md_R297 m1, Md_K297 m1, Md_R298 m1, Md_K298 m1, Md_R299 m1, Md_K299 m1, j4', sM', Int.toNat_natCast, Int.natCast_nonneg, true_and, and_true, and_self, if_true, if_false, or_true, true_or, or_false, false_or, ne_eq, not_true_eq_false, not_false_eq_true, Nat.reduceLeDiff, Nat.reduceEqDiff, Nat.reduceLT, Nat.reduceAdd, Nat.reduceMul, Nat.reduceSub, Int.reduceLT, Int.reduceLE, Int.reduceEq, Int.reduceToNat, Int.reduceAdd, Int.reduceSub, Int.reduceMul, Int.reduceNeg, Int.cast_ofNat_Int, false_and, and_false]
        by_cases hl : (I : Int) < (l : Int)
        · rw [if_neg (Int.not_le.2 hl)] at k0
          rw [if_pos hl]
          have Il : I < l := Int.ofNat_lt.1 hl
          simp only [Int.toNat_natCast] at k0
          simp only [rX12_whoPosted_57, rX12_whoPosted_58]
          have hm : ∀ b q, q < (LA σ).length → (fun _ => 0) q ≤ b + 1 := fun b q _ => Nat.zero_le _
          have inner : ∀ (b p : Nat), b < l → p < (LA σ).length → ∀ m g q : Nat, g + m = GA σ → ffR (lead (fA σ) (okT2 z) (GA σ) l b ((LA σ).getD p 0)) m g = (q : Int) → WP (d + 5) mX12_whoPosted 63 [some (.inr (.inr 294)), some (.inl (j : Int)), some (.inl (I : Int)), some (.inl 0), some (.inl ((LA σ).getD p 0 : Int)), some (.inl (b : Int)), some (.inl (g : Int))] [] h1' Q = WP (d + 5) mX12_whoPosted 83 [some (.inr (.inr 294)), some (.inl (j : Int)), some (.inl (I : Int)), some (.inl 0), some (.inl ((LA σ).getD p 0 : Int)), some (.inl (b : Int)), some (.inl (q : Int))] [] h1' Q := by
            intro b p hb hp m
            induction m with
            | zero => intro g q _ hq; exact absurd hq.symm neg1
            | succ m ih =>
              intro g q hg hq
              obtain ⟨gG, hg2⟩ := gm_n hg
              obtain ⟨gG', g6, g1⟩ := g_6 gG G6
              rw [rX12_whoPosted_63]
              simp only [rX12_whoPosted_64, rX12_whoPosted_65, rX12_whoPosted_67, rX12_whoPosted_69, rX12_whoPosted_71, rX12_whoPosted_74, Md_K280 m1, Md_R281 m1, Md_K281 m1, Md_R282 m1, Md_K282 m1, Md_R283 m1, Md_K283 m1, Md_R284 m1, Md_K284 m1, Md_R285 m1, Md_K285 m1, Md_R286 m1, Md_K286 m1, Md_R287 m1, Md_K287 m1, Md_R288 m1, Md_K288 m1, Md_R289 m1, Md_K289 m1, Md_R290 m1, Md_K290 m1, Md_R291 m1, Md_K291 m1, Md_R292 m1, Md_K292 m1, Md_R293 m1, Md_K293 m1, Md_R294 m1, Md_K294 m1, Md_R295 m1, Md_K295 m1, Md_R296 m1, Md_K296 m1, Md_R297 m1, Md_K297 m1, Md_R298 m1, Md_K298 m1, Md_R299 m1, Md_K299 m1, S_goesSeen q1 (GA_e w) j4 ez l12 hb an1 (hm b) hp gG, psh_some, Int.toNat_natCast, Int.natCast_nonneg, true_and, and_true, and_self, if_true, if_false, or_true, true_or, or_false, false_or, ne_eq, not_true_eq_false, not_false_eq_true, Nat.reduceLeDiff, Nat.reduceEqDiff, Nat.reduceLT, Nat.reduceAdd, Nat.reduceMul, Nat.reduceSub, Int.reduceLT, Int.reduceLE, Int.reduceEq, Int.reduceToNat, Int.reduceAdd, Int.reduceSub, Int.reduceMul, Int.reduceNeg, Int.cast_ofNat_Int, false_and, and_false]
              unfold ffR at hq
              by_cases hc : lead (fA σ) (okT2 z) (GA σ) l b ((LA σ).getD p 0) g = true
              · rw [if_pos hc] at hq
                simp only [if_pos hc]
                rw [if_neg (by decide), hq]
              · rw [if_neg hc] at hq
                simp only [if_neg hc]
                rw [if_pos (by trivial)]
                simp only [rX12_whoPosted_77, rX12_whoPosted_80, g1]
                exact ih (g + 1) q hg2 hq
          have main : ∀ n b p (y6 : Option PV), b + n = I → p < (LA σ).length → anyB (lead (fA σ) (okT2 z) (GA σ) l b ((LA σ).getD p 0)) (GA σ) = true → WP (d + 5) mX12_whoPosted 60 [some (.inr (.inr 294)), some (.inl (j : Int)), some (.inl (I : Int)), some (.inl 0), some (.inl ((LA σ).getD p 0 : Int)), some (.inl (b : Int)), y6] [] h1' Q = Q (some (.inl (wpG (fA σ) (okT2 z) (GA σ) l n ((LA σ).getD p 0) b))) h1' := by
            intro n
            induction n with
            | zero =>
              intro b p y6 hb hp ha
              obtain ⟨bl, b0, _, b1⟩ := wp_b hb Il l12
              have hc : ¬ ffR (lead (fA σ) (okT2 z) (GA σ) l b ((LA σ).getD p 0)) (GA σ) 0 = -1 := fun c => absurd (ffR_no.1 c) (by rw [ha]; decide)
              obtain ⟨q, eq, _, qG, _⟩ := (ffR_in (p := lead (fA σ) (okT2 z) (GA σ) l b ((LA σ).getD p 0)) (GA σ) 0).resolve_left (fun c => hc c.1)
              rw [rX12_whoPosted_60, rX12_whoPosted_61]
              refine (inner b p bl hp (GA σ) 0 q (Nat.zero_add _) eq).trans ?_
              simp only [rX12_whoPosted_83, rX12_whoPosted_85, rX12_whoPosted_86, rX12_whoPosted_89, rX12_whoPosted_91, b0 rfl, if_true]
              show _ = Q (some (.inl (ffR (lead (fA σ) (okT2 z) (GA σ) l b ((LA σ).getD p 0)) (GA σ) 0))) h1'
              rw [eq]
            | succ n ih =>
              intro b p y6 hb hp ha
              obtain ⟨bl, _, b0, b1⟩ := wp_b hb Il l12
              have hc : ¬ ffR (lead (fA σ) (okT2 z) (GA σ) l b ((LA σ).getD p 0)) (GA σ) 0 = -1 := fun c => absurd (ffR_no.1 c) (by rw [ha]; decide)
              obtain ⟨q, eq, _, qG, ql⟩ := (ffR_in (p := lead (fA σ) (okT2 z) (GA σ) l b ((LA σ).getD p 0)) (GA σ) 0).resolve_left (fun c => hc c.1)
              rw [Nat.zero_add] at qG
              obtain ⟨qG', q6, _⟩ := g_6 qG G6
              obtain ⟨i1, i2, i3, i4, _⟩ := ix6 q6 (getD_lt ok hp)
              obtain ⟨th, tm⟩ := q1.2.2.2.2.2.1 p q hp (by rw [GA_e w]; exact qG') (all_bt qG)
              obtain ⟨r, hr, er⟩ := mem_getD tm
              have bl2 : b + 1 < l := (bs_n hb Il).2
              have a2 : anyB (lead (fA σ) (okT2 z) (GA σ) l (b + 1) ((LA σ).getD r 0)) (GA σ) = true := by
                rw [← asR_s bl2, er]
                unfold lead at ql
                rw [Bool.and_eq_true, Nat.sub_sub] at ql
                exact ql.2
              rw [rX12_whoPosted_60, rX12_whoPosted_61]
              refine (inner b p bl hp (GA σ) 0 q (Nat.zero_add _) eq).trans ?_
              unfold wpG
              rw [if_neg hc, eq, Int.toNat_natCast, ← er]
              simp only [rX12_whoPosted_83, rX12_whoPosted_85, rX12_whoPosted_86, b0 (Nat.succ_pos n), if_false]
              rw [← er] at th
              simp only [rX12_whoPosted_92, rX12_whoPosted_93, rX12_whoPosted_96, rX12_whoPosted_98, rX12_whoPosted_100, rX12_whoPosted_101, rX12_whoPosted_103, rX12_whoPosted_104, rX12_whoPosted_105, rX12_whoPosted_107, rX12_whoPosted_110, Md_K280 m1, Md_R281 m1, Md_K281 m1, Md_R282 m1, Md_K282 m1, Md_R283 m1, Md_K283 m1, Md_R284 m1, Md_K284 m1, Md_R285 m1, Md_K285 m1, Md_R286 m1, Md_K286 m1, Md_R287 m1, Md_K287 m1, Md_R288 m1, Md_K288 m1, Md_R289 m1, Md_K289 m1, Md_R290 m1, Md_K290 m1, Md_R291 m1, Md_K291 m1, Md_R292 m1, Md_K292 m1, Md_R293 m1, Md_K293 m1, Md_R294 m1, Md_K294 m1, Md_R295 m1, Md_K295 m1, Md_R296 m1, Md_K296 m1, Md_R297 m1, Md_K297 m1, Md_R298 m1, Md_K298 m1, Md_R299 m1, Md_K299 m1, i1, i2, i3, th, b1, Int.toNat_natCast, Int.natCast_nonneg, true_and, and_true, and_self, if_true, if_false, or_true, true_or, or_false, false_or, ne_eq, not_true_eq_false, not_false_eq_true, Nat.reduceLeDiff, Nat.reduceEqDiff, Nat.reduceLT, Nat.reduceAdd, Nat.reduceMul, Nat.reduceSub, Int.reduceLT, Int.reduceLE, Int.reduceEq, Int.reduceToNat, Int.reduceAdd, Int.reduceSub, Int.reduceMul, Int.reduceNeg, Int.cast_ofNat_Int, false_and, and_false]
              exact ih (b + 1) r _ (bs_n hb Il).1 hr a2
          have go := main I 0 0 none (Nat.zero_add _) ok.2.2 (by rw [l0]; exact hA)
          rw [l0] at go
          exact go.mpr k0
        · rw [if_pos (Int.not_lt.1 hl)] at k0
          rw [if_neg hl]
          simp only [rX12_whoPosted_55, rX12_whoPosted_56]
          exact k0
      · have hA' := Bool.eq_false_iff.2 hA
        rw [wpG_no hA', ite_self] at k0
        simp only [if_neg hA]
        rw [if_pos (by trivial)]
        simp only [rX12_whoPosted_55, rX12_whoPosted_56]
        exact k0
  · rw [if_neg h0] at k ⊢
    simp only [rX12_whoPosted_15, rX12_whoPosted_16]
    exact k h (Fp.refl _ h)
