/-! lists of the reference -/
theorem sA_ls (σ : AS) (t n : Nat) (w : Nat → Nat) : sA (lsS σ t n w) = sA σ := by
  unfold sA lsS wT
  exact rfl
theorem RRep.lsp {g : Hp} {σ : AS} {j i : Nat} {ww : Nat → Nat} (y : RRep g (lsS σ j i ww)) (i4 : i < 40) : RRep (wJ g 313 (40 * j + i) (ww i : Int)) (lsS σ j (i + 1) ww) := by
  have ft : Fp tP g (wJ g 313 (40 * j + i) (ww i : Int)) := (Fp.refl tP g).wJ (Or.inr (Or.inr (Or.inr rfl))) _
  have e := lsS_s σ j i ww i4
  unfold wrS at e
  rw [← e]
  refine y.t ft (fun a ha => y.2.2.2.2.2.2.2.1 a ha) (fun a ha => ?_)
  rw [hJ_wJ]
  unfold upI
  by_cases haq : a = 40 * j + i
  · rw [if_pos ⟨rfl, haq⟩, if_pos haq]
  · rw [if_neg (fun q => haq q.2), if_neg haq]; exact y.2.2.2.2.2.2.2.2 a ha
theorem ls_step {d : Nat} {σ : AS} (w : WF σ) {j n c i l : Nat} {mm : Int} {ww : Nat → Nat} (hw : Way (sA σ) (stA (sA σ)) c n mm ww) (hc : c < 2 ^ (sA σ 2).toNat) (n6 : n < 6) (j4 : j < 4) (i4 : i < 40) (im : (i : Int) < mm) (il : (i : Int) < (l : Int)) {g : Hp} {Q : Option PV → Hp → Prop} (y : RRep g (lsS σ j i ww))
    (kk : ∀ g', Fp rfP g g' → RRep g' (lsS σ j (i + 1) ww) → WP (d + 6 + 1) mX12_lists 99 [some (.inr (.inr 294)), some (.inl (j : Int)), some (.inl (n : Int)), some (.inl (c : Int)), some (.inl 0), some (.inl mm), some (.inl (l : Int)), some (.inl ((i + 1 : Nat) : Int))] [] g' Q) :
    WP (d + 6 + 1) mX12_lists 99 [some (.inr (.inr 294)), some (.inl (j : Int)), some (.inl (n : Int)), some (.inl (c : Int)), some (.inl 0), some (.inl mm), some (.inl (l : Int)), some (.inl (i : Int))] [] g Q := by
  have l1 : w32 (40 * (j : Int)) = ((40 * j : Nat) : Int) := by rw [w32_i (by omega) (by omega)]; omega
  have l3 : w32 (((40 * j : Nat) : Int) + (i : Int)) = ((40 * j + i : Nat) : Int) := w32_ll (by omega)
  have l5 : ((40 * j + i : Nat) : Int) < 160 := by omega
  have i1 := w32_s (i := i) (by omega)
  have mg := y.1
  have yr := y.rp w.ls
  rw [sA_ls] at yr
  rw [rX12_lists_99]
  simp only [rX12_lists_101, rX12_lists_103, rX12_lists_106, rX12_lists_107, rX12_lists_110, rX12_lists_112, rX12_lists_113, rX12_lists_114, rX12_lists_116, rX12_lists_117, rX12_lists_118, rX12_lists_119, rX12_lists_120, rX12_lists_122, Md_K280 mg, Md_R281 mg, Md_K281 mg, Md_R282 mg, Md_K282 mg, Md_R283 mg, Md_K283 mg, Md_R284 mg, Md_K284 mg, Md_R285 mg, Md_K285 mg, Md_R286 mg, Md_K286 mg, Md_R287 mg, Md_K287 mg, Md_R288 mg, Md_K288 mg, Md_R289 mg, Md_K289 mg, Md_R290 mg, Md_K290 mg, Md_R291 mg, Md_K291 mg, Md_R292 mg, Md_K292 mg, Md_R293 mg, Md_K293 mg, Md_R294 mg, Md_K294 mg, Md_R295 mg, Md_K295 mg, Md_R296 mg, Md_K296 mg, Md_R297 mg, Md_K297 mg, Md_R298 mg, Md_K298 mg, Md_R299 mg, Md_K299 mg, Int.toNat_natCast, Int.natCast_nonneg, true_and, and_true, and_self, if_true, if_false, or_true, true_or, or_false, false_or, ne_eq, not_true_eq_false, not_false_eq_true, Nat.reduceLeDiff, Nat.reduceEqDiff, Nat.reduceLT, Nat.reduceAdd, Nat.reduceMul, Nat.reduceSub, Int.reduceLT, Int.reduceLE, Int.reduceEq, Int.reduceToNat, Int.reduceAdd, Int.reduceSub, Int.reduceMul, Int.reduceNeg, Int.cast_ofNat_Int, false_and, and_false, l1, l3, il]
  refine S_goerAt (d := d) yr w.2.1 hc (Or.inl n6) hw ?_
  intro g2 f2
  have fu2 : Fp uP g g2 := f2.mono (fun a k q => stP2_u q)
  have y2 := y.u fu2
  have mg2 := y2.1
  rw [if_pos im]
  simp only [psh_some, rX12_lists_125, rX12_lists_126, rX12_lists_127, rX12_lists_130, Md_K280 mg2, Md_R281 mg2, Md_K281 mg2, Md_R282 mg2, Md_K282 mg2, Md_R283 mg2, Md_K283 mg2, Md_R284 mg2, Md_K284 mg2, Md_R285 mg2, Md_K285 mg2, Md_R286 mg2, Md_K286 mg2, Md_R287 mg2, Md_K287 mg2, Md_R288 mg2, Md_K288 mg2, Md_R289 mg2, Md_K289 mg2, Md_R290 mg2, Md_K290 mg2, Md_R291 mg2, Md_K291 mg2, Md_R292 mg2, Md_K292 mg2, Md_R293 mg2, Md_K293 mg2, Md_R294 mg2, Md_K294 mg2, Md_R295 mg2, Md_K295 mg2, Md_R296 mg2, Md_K296 mg2, Md_R297 mg2, Md_K297 mg2, Md_R298 mg2, Md_K298 mg2, Md_R299 mg2, Md_K299 mg2, Int.toNat_natCast, Int.natCast_nonneg, true_and, and_true, and_self, if_true, if_false, or_true, true_or, or_false, false_or, ne_eq, not_true_eq_false, not_false_eq_true, Nat.reduceLeDiff, Nat.reduceEqDiff, Nat.reduceLT, Nat.reduceAdd, Nat.reduceMul, Nat.reduceSub, Int.reduceLT, Int.reduceLE, Int.reduceEq, Int.reduceToNat, Int.reduceAdd, Int.reduceSub, Int.reduceMul, Int.reduceNeg, Int.cast_ofNat_Int, false_and, and_false, l5, i1]
  have ft : Fp rfP g2 (wJ g2 313 (40 * j + i) (ww i : Int)) := (Fp.refl rfP g2).wJ (by unfold rfP; omega) _
  exact kk _ ((fu2.mono (fun _ _ => uP_r)).trans ft) (y2.lsp i4)
theorem R_lists {d : Nat} {σ : AS} {t th s mm : Int} {ww : Nat → Nat} (hw : Way (sA σ) (stA (sA σ)) s.toNat th.toNat mm ww) : RSpec (d + 7) mX12_lists [some (.inr (.inr 294)), some (.inl t), some (.inl th), some (.inl s), none, none, none, none] σ (.inl (lsV σ t th s mm)) (if 0 ≤ lsV σ t th s mm then lsS σ t.toNat (lsV σ t th s mm).toNat ww else σ) := by
  refine RSpec5.of ?_ (fun h Q hk => by simp only [rX12_lists_0, rX12_lists_1, rX12_lists_2, hk, Int.toNat_natCast, Int.natCast_nonneg, true_and, and_true, and_self, if_true, if_false, or_true, true_or, or_false, false_or, ne_eq, not_true_eq_false, not_false_eq_true, Nat.reduceLeDiff, Nat.reduceEqDiff, Nat.reduceLT, Nat.reduceAdd, Nat.reduceMul, Nat.reduceSub, Int.reduceLT, Int.reduceLE, Int.reduceEq, Int.reduceToNat, Int.reduceAdd, Int.reduceSub, Int.reduceMul, Int.reduceNeg, Int.cast_ofNat_Int, false_and, and_false])
  intro h Q x w k
  have m := x.1
  have no : lsV σ t th s mm < 0 → Q (some (.inl (lsV σ t th s mm))) h := by
    intro hn
    simp only [if_neg (Int.not_le.2 hn)] at k
    exact k h x (Fp.refl _ h)
  unfold lsV at no k
  simp only [rX12_lists_5, rX12_lists_6, rX12_lists_7, rX12_lists_8, rX12_lists_11, rX12_lists_14, Md_K280 m, Md_R281 m, Md_K281 m, Md_R282 m, Md_K282 m, Md_R283 m, Md_K283 m, Md_R284 m, Md_K284 m, Md_R285 m, Md_K285 m, Md_R286 m, Md_K286 m, Md_R287 m, Md_K287 m, Md_R288 m, Md_K288 m, Md_R289 m, Md_K289 m, Md_R290 m, Md_K290 m, Md_R291 m, Md_K291 m, Md_R292 m, Md_K292 m, Md_R293 m, Md_K293 m, Md_R294 m, Md_K294 m, Md_R295 m, Md_K295 m, Md_R296 m, Md_K296 m, Md_R297 m, Md_K297 m, Md_R298 m, Md_K298 m, Md_R299 m, Md_K299 m, Int.toNat_natCast, Int.natCast_nonneg, true_and, and_true, and_self, if_true, if_false, or_true, true_or, or_false, false_or, ne_eq, not_true_eq_false, not_false_eq_true, Nat.reduceLeDiff, Nat.reduceEqDiff, Nat.reduceLT, Nat.reduceAdd, Nat.reduceMul, Nat.reduceSub, Int.reduceLT, Int.reduceLE, Int.reduceEq, Int.reduceToNat, Int.reduceAdd, Int.reduceSub, Int.reduceMul, Int.reduceNeg, Int.cast_ofNat_Int, false_and, and_false, S_within, psh_some]
  by_cases h1 : 0 ≤ t ∧ t < 4
  · rw [if_pos (show 0 ≤ t ∧ t ≤ 3 by omega), if_neg (by decide)]
    simp only [rX12_lists_17, rX12_lists_18, rX12_lists_19, rX12_lists_20, rX12_lists_23, rX12_lists_26, rX12_lists_28, Md_K280 m, Md_R281 m, Md_K281 m, Md_R282 m, Md_K282 m, Md_R283 m, Md_K283 m, Md_R284 m, Md_K284 m, Md_R285 m, Md_K285 m, Md_R286 m, Md_K286 m, Md_R287 m, Md_K287 m, Md_R288 m, Md_K288 m, Md_R289 m, Md_K289 m, Md_R290 m, Md_K290 m, Md_R291 m, Md_K291 m, Md_R292 m, Md_K292 m, Md_R293 m, Md_K293 m, Md_R294 m, Md_K294 m, Md_R295 m, Md_K295 m, Md_R296 m, Md_K296 m, Md_R297 m, Md_K297 m, Md_R298 m, Md_K298 m, Md_R299 m, Md_K299 m, Int.toNat_natCast, Int.natCast_nonneg, true_and, and_true, and_self, if_true, if_false, or_true, true_or, or_false, false_or, ne_eq, not_true_eq_false, not_false_eq_true, Nat.reduceLeDiff, Nat.reduceEqDiff, Nat.reduceLT, Nat.reduceAdd, Nat.reduceMul, Nat.reduceSub, Int.reduceLT, Int.reduceLE, Int.reduceEq, Int.reduceToNat, Int.reduceAdd, Int.reduceSub, Int.reduceMul, Int.reduceNeg, Int.cast_ofNat_Int, false_and, and_false, S_rThing (x.rp w), psh_some]
    by_cases h2 : 0 ≤ th ∧ th < sA σ 1
    · rw [if_pos h2, if_neg (by decide)]
      rw [if_pos ⟨h1, h2⟩] at no
      simp only [if_pos (And.intro h1 h2)] at k
      simp only [rX12_lists_29, rX12_lists_30, rX12_lists_31, rX12_lists_34, rX12_lists_36, rX12_lists_38, rX12_lists_41, rX12_lists_43, Md_K280 m, Md_R281 m, Md_K281 m, Md_R282 m, Md_K282 m, Md_R283 m, Md_K283 m, Md_R284 m, Md_K284 m, Md_R285 m, Md_K285 m, Md_R286 m, Md_K286 m, Md_R287 m, Md_K287 m, Md_R288 m, Md_K288 m, Md_R289 m, Md_K289 m, Md_R290 m, Md_K290 m, Md_R291 m, Md_K291 m, Md_R292 m, Md_K292 m, Md_R293 m, Md_K293 m, Md_R294 m, Md_K294 m, Md_R295 m, Md_K295 m, Md_R296 m, Md_K296 m, Md_R297 m, Md_K297 m, Md_R298 m, Md_K298 m, Md_R299 m, Md_K299 m, Int.toNat_natCast, Int.natCast_nonneg, true_and, and_true, and_self, if_true, if_false, or_true, true_or, or_false, false_or, ne_eq, not_true_eq_false, not_false_eq_true, Nat.reduceLeDiff, Nat.reduceEqDiff, Nat.reduceLT, Nat.reduceAdd, Nat.reduceMul, Nat.reduceSub, Int.reduceLT, Int.reduceLE, Int.reduceEq, Int.reduceToNat, Int.reduceAdd, Int.reduceSub, Int.reduceMul, Int.reduceNeg, Int.cast_ofNat_Int, false_and, and_false, S_noTray x, psh_some]
      unfold noT
      simp only [if_pos h1]
      obtain ⟨j, rfl⟩ := Int.eq_ofNat_of_zero_le h1.1
      obtain ⟨n, rfl⟩ := Int.eq_ofNat_of_zero_le h2.1
      have n6 : n < 6 := by have := w.1.2.1; omega
      have j4 : j < 4 := by omega
      have hm := (w.2.2.2.2.2.2.2.2 j j4).2.2
      simp only [Int.toNat_natCast] at no k hw ⊢
      by_cases h3 : sSo σ j = -1
      · rw [if_pos h3] at no
        simp only [if_pos h3, Int.toNat_natCast, Int.natCast_nonneg, true_and, and_true, and_self, if_true, if_false, or_true, true_or, or_false, false_or, ne_eq, not_true_eq_false, not_false_eq_true, Nat.reduceLeDiff, Nat.reduceEqDiff, Nat.reduceLT, Nat.reduceAdd, Nat.reduceMul, Nat.reduceSub, Int.reduceLT, Int.reduceLE, Int.reduceEq, Int.reduceToNat, Int.reduceAdd, Int.reduceSub, Int.reduceMul, Int.reduceNeg, Int.cast_ofNat_Int, false_and, and_false]
        exact no (by decide)
      · rw [if_neg h3] at no
        simp only [if_neg h3] at k
        simp only [if_neg h3, Int.toNat_natCast, Int.natCast_nonneg, true_and, and_true, and_self, if_true, if_false, or_true, true_or, or_false, false_or, ne_eq, not_true_eq_false, not_false_eq_true, Nat.reduceLeDiff, Nat.reduceEqDiff, Nat.reduceLT, Nat.reduceAdd, Nat.reduceMul, Nat.reduceSub, Int.reduceLT, Int.reduceLE, Int.reduceEq, Int.reduceToNat, Int.reduceAdd, Int.reduceSub, Int.reduceMul, Int.reduceNeg, Int.cast_ofNat_Int, false_and, and_false]
        simp only [rX12_lists_44, rX12_lists_45, rX12_lists_46, rX12_lists_49, rX12_lists_52, rX12_lists_54, Md_K280 m, Md_R281 m, Md_K281 m, Md_R282 m, Md_K282 m, Md_R283 m, Md_K283 m, Md_R284 m, Md_K284 m, Md_R285 m, Md_K285 m, Md_R286 m, Md_K286 m, Md_R287 m, Md_K287 m, Md_R288 m, Md_K288 m, Md_R289 m, Md_K289 m, Md_R290 m, Md_K290 m, Md_R291 m, Md_K291 m, Md_R292 m, Md_K292 m, Md_R293 m, Md_K293 m, Md_R294 m, Md_K294 m, Md_R295 m, Md_K295 m, Md_R296 m, Md_K296 m, Md_R297 m, Md_K297 m, Md_R298 m, Md_K298 m, Md_R299 m, Md_K299 m, Int.toNat_natCast, Int.natCast_nonneg, true_and, and_true, and_self, if_true, if_false, or_true, true_or, or_false, false_or, ne_eq, not_true_eq_false, not_false_eq_true, Nat.reduceLeDiff, Nat.reduceEqDiff, Nat.reduceLT, Nat.reduceAdd, Nat.reduceMul, Nat.reduceSub, Int.reduceLT, Int.reduceLE, Int.reduceEq, Int.reduceToNat, Int.reduceAdd, Int.reduceSub, Int.reduceMul, Int.reduceNeg, Int.cast_ofNat_Int, false_and, and_false, S_rSet (x.rp w), psh_some]
        by_cases h4 : 0 ≤ s ∧ s < ((2 ^ (sA σ 2).toNat : Nat) : Int)
        · rw [if_pos h4, if_neg (by decide)]
          simp only [if_pos h4] at k
          clear no
          obtain ⟨c, rfl, hc⟩ := rSet_n h4
          simp only [Int.toNat_natCast] at hw
          simp only [rX12_lists_55, rX12_lists_56, rX12_lists_57, rX12_lists_58, Md_K280 m, Md_R281 m, Md_K281 m, Md_R282 m, Md_K282 m, Md_R283 m, Md_K283 m, Md_R284 m, Md_K284 m, Md_R285 m, Md_K285 m, Md_R286 m, Md_K286 m, Md_R287 m, Md_K287 m, Md_R288 m, Md_K288 m, Md_R289 m, Md_K289 m, Md_R290 m, Md_K290 m, Md_R291 m, Md_K291 m, Md_R292 m, Md_K292 m, Md_R293 m, Md_K293 m, Md_R294 m, Md_K294 m, Md_R295 m, Md_K295 m, Md_R296 m, Md_K296 m, Md_R297 m, Md_K297 m, Md_R298 m, Md_K298 m, Md_R299 m, Md_K299 m, Int.toNat_natCast, Int.natCast_nonneg, true_and, and_true, and_self, if_true, if_false, or_true, true_or, or_false, false_or, ne_eq, not_true_eq_false, not_false_eq_true, Nat.reduceLeDiff, Nat.reduceEqDiff, Nat.reduceLT, Nat.reduceAdd, Nat.reduceMul, Nat.reduceSub, Int.reduceLT, Int.reduceLE, Int.reduceEq, Int.reduceToNat, Int.reduceAdd, Int.reduceSub, Int.reduceMul, Int.reduceNeg, Int.cast_ofNat_Int, false_and, and_false]
          refine S_comes (d := d + 1) (x.rp w) w.2.1 hc (Or.inl n6) hw ?_
          intro h' f' _
          have fu : Fp uP h h' := f'.mono (fun a k q => stP2_u q)
          have x' := x.u fu
          have fr : Fp rfP h h' := fu.mono (fun _ _ => uP_r)
          have m' := x'.1
          simp only [psh_some, rX12_lists_61, rX12_lists_63, rX12_lists_65, rX12_lists_66, rX12_lists_69, rX12_lists_71, Int.toNat_natCast, Int.natCast_nonneg, true_and, and_true, and_self, if_true, if_false, or_true, true_or, or_false, false_or, ne_eq, not_true_eq_false, not_false_eq_true, Nat.reduceLeDiff, Nat.reduceEqDiff, Nat.reduceLT, Nat.reduceAdd, Nat.reduceMul, Nat.reduceSub, Int.reduceLT, Int.reduceLE, Int.reduceEq, Int.reduceToNat, Int.reduceAdd, Int.reduceSub, Int.reduceMul, Int.reduceNeg, Int.cast_ofNat_Int, false_and, and_false]
          by_cases h5 : mm = -1
          · simp only [if_pos h5] at k
            rw [if_pos h5]
            exact k h' x' fr
          · simp only [if_neg h5] at k
            rw [if_neg h5]
            have e2 := (x'.2.2.2.2.2.2.2.1 j j4).2
            have m1 : 0 ≤ mm := by have := hw.ge; omega
            have lp : ∀ l : Nat, (if sM σ j < mm then sM σ j else mm) = (l : Int) → l ≤ 40 → (l : Int) ≤ mm → WP (d + 6 + 1) mX12_lists 99 [some (.inr (.inr 294)), some (.inl (j : Int)), some (.inl (n : Int)), some (.inl (c : Int)), some (.inl 0), some (.inl mm), some (.inl (l : Int)), some (.inl ((0 : Nat) : Int))] [] h' Q := by
              intro l el l4 lm
              simp only [el] at k
              simp only [if_pos (Int.natCast_nonneg l), Int.toNat_natCast] at k
              refine wp_for (fun i g => WP (d + 6 + 1) mX12_lists 99 [some (.inr (.inr 294)), some (.inl (j : Int)), some (.inl (n : Int)), some (.inl (c : Int)), some (.inl 0), some (.inl mm), some (.inl (l : Int)), some (.inl (i : Int))] [] g Q) (fun i g => Fp rfP h g ∧ RRep g (lsS σ j i ww)) l ?_ ?_ 0 h' (by omega) ⟨fr, by rw [lsS_0]; exact x'⟩
              · rintro i g hi ⟨f, y⟩ kk
                exact ls_step w hw hc n6 j4 (by omega) (by omega) (by omega) y (fun g' fg yg => kk g' ⟨f.trans fg, yg⟩)
              · rintro g ⟨f, y⟩
                rw [rX12_lists_99]
                simp only [rX12_lists_101, rX12_lists_103, rX12_lists_133, rX12_lists_135, Int.lt_irrefl, Int.toNat_natCast, Int.natCast_nonneg, true_and, and_true, and_self, if_true, if_false, or_true, true_or, or_false, false_or, ne_eq, not_true_eq_false, not_false_eq_true, Nat.reduceLeDiff, Nat.reduceEqDiff, Nat.reduceLT, Nat.reduceAdd, Nat.reduceMul, Nat.reduceSub, Int.reduceLT, Int.reduceLE, Int.reduceEq, Int.reduceToNat, Int.reduceAdd, Int.reduceSub, Int.reduceMul, Int.reduceNeg, Int.cast_ofNat_Int, false_and, and_false]
                exact k g y f
            have j5 : (j : Int) < 4 := by omega
            simp only [rX12_lists_72, rX12_lists_74, rX12_lists_75, rX12_lists_78, rX12_lists_79, rX12_lists_80, rX12_lists_83, rX12_lists_85, rX12_lists_88, rX12_lists_89, rX12_lists_92, rX12_lists_93, rX12_lists_94, rX12_lists_96, rX12_lists_97, Md_K280 m', Md_R281 m', Md_K281 m', Md_R282 m', Md_K282 m', Md_R283 m', Md_K283 m', Md_R284 m', Md_K284 m', Md_R285 m', Md_K285 m', Md_R286 m', Md_K286 m', Md_R287 m', Md_K287 m', Md_R288 m', Md_K288 m', Md_R289 m', Md_K289 m', Md_R290 m', Md_K290 m', Md_R291 m', Md_K291 m', Md_R292 m', Md_K292 m', Md_R293 m', Md_K293 m', Md_R294 m', Md_K294 m', Md_R295 m', Md_K295 m', Md_R296 m', Md_K296 m', Md_R297 m', Md_K297 m', Md_R298 m', Md_K298 m', Md_R299 m', Md_K299 m', Int.toNat_natCast, Int.natCast_nonneg, true_and, and_true, and_self, if_true, if_false, or_true, true_or, or_false, false_or, ne_eq, not_true_eq_false, not_false_eq_true, Nat.reduceLeDiff, Nat.reduceEqDiff, Nat.reduceLT, Nat.reduceAdd, Nat.reduceMul, Nat.reduceSub, Int.reduceLT, Int.reduceLE, Int.reduceEq, Int.reduceToNat, Int.reduceAdd, Int.reduceSub, Int.reduceMul, Int.reduceNeg, Int.cast_ofNat_Int, false_and, and_false, j5, e2]
            by_cases h6 : mm < sM σ j
            · rw [if_pos h6]
              have := lp mm.toNat (by rw [if_neg (by omega)]; omega) (by omega) (by omega)
              rw [show ((mm.toNat : Nat) : Int) = mm by omega] at this
              exact this
            · rw [if_neg h6]
              have := lp (sM σ j).toNat (by by_cases q : sM σ j < mm; rw [if_pos q]; omega; rw [if_neg q]; omega) (by omega) (by omega)
              rw [show (((sM σ j).toNat : Nat) : Int) = sM σ j by omega] at this
              exact this
        · rw [if_neg h4, if_pos (by trivial)]
          rw [if_neg h4] at no
          exact no (by decide)
    · rw [if_neg h2, if_pos (by trivial)]
      rw [if_neg (fun q => h2 q.2)] at no
      exact no (by decide)
  · rw [if_neg (show ¬ (0 ≤ t ∧ t ≤ 3) by omega), if_pos (by trivial)]
    rw [if_neg (fun q => h1 q.1)] at no
    simp only [rX12_lists_26, rX12_lists_28, Int.toNat_natCast, Int.natCast_nonneg, true_and, and_true, and_self, if_true, if_false, or_true, true_or, or_false, false_or, ne_eq, not_true_eq_false, not_false_eq_true, Nat.reduceLeDiff, Nat.reduceEqDiff, Nat.reduceLT, Nat.reduceAdd, Nat.reduceMul, Nat.reduceSub, Int.reduceLT, Int.reduceLE, Int.reduceEq, Int.reduceToNat, Int.reduceAdd, Int.reduceSub, Int.reduceMul, Int.reduceNeg, Int.cast_ofNat_Int, false_and, and_false]
    exact no (by decide)
theorem B_lists {d : Nat} {σ : AS} (w : WF σ) {t th s : Int} (hs : i32 s) : ∃ v σ', WF σ' ∧ CSpec (d + 7) mX11_lists [some (.inr (.inr 200)), some (.inl t), some (.inl th), some (.inl s), none, none, none, none] σ (.inl v) σ' ∧ RSpec (d + 7) mX12_lists [some (.inr (.inr 294)), some (.inl t), some (.inl th), some (.inl s), none, none, none, none] σ (.inl v) σ' := by
  obtain ⟨mm, ww, hw⟩ := Way_ex w.1 w.2.1 s.toNat th.toNat
  refine ⟨_, _, ?_, C_lists hs hw, R_lists hw⟩
  by_cases q : 0 ≤ lsV σ t th s mm
  · rw [if_pos q]; exact w.ls
  · rw [if_neg q]; exact w
