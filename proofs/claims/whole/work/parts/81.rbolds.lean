/-! the reference's bolds, nexts -/
def lbP (q a k : Nat) : Prop := iaP a k ∨ a = 310 ∨ (a = 295 ∧ k = 41 + q)
theorem ia_296 {i : Nat} : ¬ iaP 310 i := by unfold iaP lP; omega
theorem tr_i {j i : Nat} (hj : j < 4) (hi : i < 12) : 40 * j + i < 160 := by omega
theorem lb_no {q a k : Nat} (h : a = 312 ∨ a = 313 ∨ a = 296 ∨ (a = 295 ∧ k ≠ 41 + q)) : ¬ lbP q a k := by unfold lbP iaP lP; omega
theorem boB_at {h : Hp} {A : Nat → Int} {q : Nat} {b : Int} (hq : q < 6) (e : ∀ k, k < 3267 → k ≠ 41 + q → hI h 295 k = A k) : AtA (wI h 295 (41 + q) b) (putS A (boB (stA A) q b)) := by
  intro k hk
  rw [hI_wI]
  by_cases hkq : k = 41 + q
  · rw [if_pos ⟨rfl, hkq⟩, hkq, show 41 + q = 33 + (8 + q) by omega, putS_at _ _ (by omega)]
    unfold boB
    rw [if_pos rfl]
  · rw [if_neg (fun z => hkq z.2), e k hk hkq]
    unfold putS
    by_cases h1 : 33 ≤ k ∧ k < 47
    · rw [if_pos h1]
      unfold boB stA
      rw [if_neg (by omega), show 33 + (k - 33) = k by omega]
    · rw [if_neg h1]
theorem x41 {q : Nat} (h : q < 6) : w32 (41 + (q : Int)) = ((41 + q : Nat) : Int) ∧ ((41 + q : Nat) : Int) < 3267 ∧ 41 + q < 3267 := ⟨w32_la 41 (41 + q) (by omega) (by omega), by omega, by omega⟩
theorem c_100 {i : Nat} (h : i < 100) : ¬ ((99 : Int) < (i : Int)) ∧ (i : Int) < 100 ∧ w32 ((i : Int) + 1) = ((i + 1 : Nat) : Int) := ⟨by omega, by omega, w32_s (by omega)⟩
theorem hI_far (h : Hp) {a b k j : Nat} (v : Int) (hab : a ≠ b) : hI (wI h b j v) a k = hI h a k := by rw [hI_wI, if_neg (fun z => hab z.1)]
theorem lb_u {q a k : Nat} (z : lbP q a k) : uP a k ∨ a = 295 ∨ a = 296 := by unfold lbP iaP lP at z; unfold uP; omega
set_option maxHeartbeats 1000000 in
theorem S_laysBolds {d : Nat} {Q : Option PV → Hp → Prop} {h : Hp} {σ : AS} (x : RRep h σ) (w : WF σ) {j q l : Nat} (j4 : j < 4) (qG : (q : Int) < sA σ 2) (el : sM σ j = (l : Int)) (l12 : l ≤ 12)
    (k : ∀ h', RRep h' σ → Fp (lbP q) h h' → (∀ i, i < 100 → hI h' 310 i = if npB (bdF σ j q) (bpF σ j q) 10 i = true then 1 else 0) → Q (some (.inl (fitS (bdF σ j q) 10 : Int))) h') :
    WP (d + 4) mX12_laysBolds 0 [some (.inr (.inr 294)), some (.inl (j : Int)), some (.inl (q : Int)), none, none, none] [] h Q := by
  have m := x.1
  have a := x.2.1
  have q6 : q < 6 := q_6 qG w.1.2.2.2.1
  obtain ⟨l1, l2, l41⟩ := x41 q6
  have bf : ∀ b, bdF σ j q b = alS (trZ σ j) (sA σ) (boB (stA (sA σ)) q (b : Int)) q l := fun b => by unfold bdF; rw [el]; rfl
  have pf : ∀ b, bpF σ j q b = bP (sA σ) (alB (sA σ) (boB (stA (sA σ)) q (b : Int)) q l) q := fun b => by unfold bpF; rw [el]; rfl
  have sM' := x.2.2.2.2.2.2.2.1 j j4
  rw [el] at sM'
  have sB' := x.2.2.2.2.2.2.2.2
  simp only [rX12_laysBolds_0, rX12_laysBolds_1, rX12_laysBolds_4, rX12_laysBolds_6, rX12_laysBolds_7, rX12_laysBolds_8, rX12_laysBolds_9, rX12_laysBolds_10, rX12_laysBolds_11, rX12_laysBolds_13, rX12_laysBolds_14, Md_K280 m, Md_R281 m, Md_K281 m, Md_R282 m, Md_K282 m, Md_R283 m, Md_K283 m, Md_R284 m, Md_K284 m, Md_R285 m, Md_K285 m, Md_R286 m, Md_K286 m, Md_R287 m, Md_K287 m, Md_R288 m, Md_K288 m, Md_R289 m, Md_K289 m, Md_R290 m, Md_K290 m, Md_R291 m, Md_K291 m, Md_R292 m, Md_K292 m, Md_R293 m, Md_K293 m, Md_R294 m, Md_K294 m, Md_R295 m, Md_K295 m, Md_R296 m, Md_K296 m, Md_R297 m, Md_K297 m, Md_R298 m, Md_K298 m, Md_R299 m, Md_K299 m, l1, l2, a (41 + q) l41, Int.toNat_natCast, Int.natCast_nonneg, true_and, and_true, and_self, if_true, if_false, or_true, true_or, or_false, false_or, ne_eq, not_true_eq_false, not_false_eq_true, Nat.reduceLeDiff, Nat.reduceEqDiff, Nat.reduceLT, Nat.reduceAdd, Nat.reduceMul, Nat.reduceSub, Int.reduceLT, Int.reduceLE, Int.reduceEq, Int.reduceToNat, Int.reduceAdd, Int.reduceSub, Int.reduceMul, Int.reduceNeg, Int.cast_ofNat_Int, false_and, and_false]
  refine wp_for (fun i e => WP (d + 4) mX12_laysBolds 16 [some (.inr (.inr 294)), some (.inl (j : Int)), some (.inl (q : Int)), some (.inl (sA σ (41 + q))), some (.inl 0), some (.inl (i : Int))] [] e Q) (fun i e => Fp (fun a _ => a = 310) h e ∧ ∀ p, p < i → hI e 310 p = 0) 100 ?_ ?_ 0 h (Nat.zero_le _) ⟨Fp.refl _ h, fun p hp => absurd hp (Nat.not_lt_zero _)⟩
  · rintro i e hi ⟨fe, z⟩ kk
    have me := m.fr fe
    obtain ⟨c9, c1, i1⟩ := c_100 hi
    rw [rX12_laysBolds_16]
    simp only [rX12_laysBolds_18, rX12_laysBolds_20, rX12_laysBolds_23, rX12_laysBolds_24, rX12_laysBolds_27, rX12_laysBolds_29, rX12_laysBolds_30, rX12_laysBolds_31, rX12_laysBolds_34, Md_K280 me, Md_R281 me, Md_K281 me, Md_R282 me, Md_K282 me, Md_R283 me, Md_K283 me, Md_R284 me, Md_K284 me, Md_R285 me, Md_K285 me, Md_R286 me, Md_K286 me, Md_R287 me, Md_K287 me, Md_R288 me, Md_K288 me, Md_R289 me, Md_K289 me, Md_R290 me, Md_K290 me, Md_R291 me, Md_K291 me, Md_R292 me, Md_K292 me, Md_R293 me, Md_K293 me, Md_R294 me, Md_K294 me, Md_R295 me, Md_K295 me, Md_R296 me, Md_K296 me, Md_R297 me, Md_K297 me, Md_R298 me, Md_K298 me, Md_R299 me, Md_K299 me, c9, c1, i1, Int.toNat_natCast, Int.natCast_nonneg, true_and, and_true, and_self, if_true, if_false, or_true, true_or, or_false, false_or, ne_eq, not_true_eq_false, not_false_eq_true, Nat.reduceLeDiff, Nat.reduceEqDiff, Nat.reduceLT, Nat.reduceAdd, Nat.reduceMul, Nat.reduceSub, Int.reduceLT, Int.reduceLE, Int.reduceEq, Int.reduceToNat, Int.reduceAdd, Int.reduceSub, Int.reduceMul, Int.reduceNeg, Int.cast_ofNat_Int, false_and, and_false]
    refine kk _ ⟨fe.wI (by exact rfl) _, fun p hp => ?_⟩
    rw [hI_wI]
    by_cases hpi : p = i
    · rw [if_pos ⟨rfl, hpi⟩]
    · rw [if_neg (fun z => hpi z.2)]; exact z p (lt_one hp hpi)
  · rintro e0 ⟨fe0, z0⟩
    rw [rX12_laysBolds_16]
    simp only [rX12_laysBolds_18, rX12_laysBolds_20, rX12_laysBolds_37, rX12_laysBolds_38, Int.toNat_natCast, Int.natCast_nonneg, true_and, and_true, and_self, if_true, if_false, or_true, true_or, or_false, false_or, ne_eq, not_true_eq_false, not_false_eq_true, Nat.reduceLeDiff, Nat.reduceEqDiff, Nat.reduceLT, Nat.reduceAdd, Nat.reduceMul, Nat.reduceSub, Int.reduceLT, Int.reduceLE, Int.reduceEq, Int.reduceToNat, Int.reduceAdd, Int.reduceSub, Int.reduceMul, Int.reduceNeg, Int.cast_ofNat_Int, false_and, and_false]
    refine wp_for (fun b e => WP (d + 4) mX12_laysBolds 40 [some (.inr (.inr 294)), some (.inl (j : Int)), some (.inl (q : Int)), some (.inl (sA σ (41 + q))), some (.inl (fitS (bdF σ j q) b : Int)), some (.inl (b : Int))] [] e Q) (fun b e => Fp (lbP q) h e ∧ (∀ k, k < 3267 → k ≠ 41 + q → hI e 295 k = sA σ k) ∧ ∀ i, i < 100 → hI e 310 i = if npB (bdF σ j q) (bpF σ j q) b i = true then 1 else 0) 10 ?_ ?_ 0 e0 (Nat.zero_le _) ⟨fe0.mono (fun a k q => Or.inr (Or.inl q)), fun k hk _ => by rw [fe0.I (show ¬ (295 = 310) by decide)]; exact a k hk, fun i hi => by rw [z0 i hi]; rfl⟩
    · rintro b e hb ⟨fe, ae, ne⟩ kk
      have me := m.fr fe
      obtain ⟨b9, bb9, i1, b31, b20⟩ := b_10 hb
      have at1 := boB_at (b := (b : Int)) q6 ae
      have f1 : Fp (lbP q) h (wI e 295 (41 + q) (b : Int)) := fe.wI (Or.inr (Or.inr ⟨rfl, rfl⟩)) _
      have n1 : ∀ i, hI (wI e 295 (41 + q) (b : Int)) 310 i = hI e 310 i := fun i => hI_far e _ (by decide)
      rw [rX12_laysBolds_40]
      simp only [rX12_laysBolds_42, rX12_laysBolds_44, rX12_laysBolds_47, rX12_laysBolds_48, rX12_laysBolds_51, rX12_laysBolds_53, rX12_laysBolds_54, rX12_laysBolds_55, rX12_laysBolds_57, rX12_laysBolds_58, rX12_laysBolds_59, rX12_laysBolds_60, rX12_laysBolds_61, hN_wI, hN_wJ, hN_wR, hS_wI, hS_wJ, hS_wR, hK_wI, hK_wJ, hK_wR, hI_wI, hI_wJ, hI_wR, hJ_wI, hJ_wJ, hJ_wR, hR_wI, hR_wJ, hR_wR, hN_nw, hS_nw, hK_nw, hI_nw, hJ_nw, hR_nw, psh_some, psh_none, Md_K280 me, Md_R281 me, Md_K281 me, Md_R282 me, Md_K282 me, Md_R283 me, Md_K283 me, Md_R284 me, Md_K284 me, Md_R285 me, Md_K285 me, Md_R286 me, Md_K286 me, Md_R287 me, Md_K287 me, Md_R288 me, Md_K288 me, Md_R289 me, Md_K289 me, Md_R290 me, Md_K290 me, Md_R291 me, Md_K291 me, Md_R292 me, Md_K292 me, Md_R293 me, Md_K293 me, Md_R294 me, Md_K294 me, Md_R295 me, Md_K295 me, Md_R296 me, Md_K296 me, Md_R297 me, Md_K297 me, Md_R298 me, Md_K298 me, Md_R299 me, Md_K299 me, b9, l1, l2, Int.toNat_natCast, Int.natCast_nonneg, true_and, and_true, and_self, if_true, if_false, or_true, true_or, or_false, false_or, ne_eq, not_true_eq_false, not_false_eq_true, Nat.reduceLeDiff, Nat.reduceEqDiff, Nat.reduceLT, Nat.reduceAdd, Nat.reduceMul, Nat.reduceSub, Int.reduceLT, Int.reduceLE, Int.reduceEq, Int.reduceToNat, Int.reduceAdd, Int.reduceSub, Int.reduceMul, Int.reduceNeg, Int.cast_ofNat_Int, false_and, and_false]
      generalize wI e 295 (41 + q) (b : Int) = e1 at at1 f1 n1 ⊢
      have m1 := m.fr f1
      have rs : RS e1 (sA σ) (boB (stA (sA σ)) q (b : Int)) := ⟨m1, at1, w.1, boB_ok w.2.1 (Int.natCast_nonneg _) (Int.not_lt.1 b9)⟩
      refine S_isAlone rs q6 j4 (l_12 l12) (l := l) (z := trZ σ j) (by rw [f1.I (lb_no (Or.inl rfl))]; exact sM'.2) (fun i hi => by rw [f1.J (lb_no (Or.inr (Or.inl rfl)))]; exact sB' (40 * j + i) (tr_i j4 (Nat.lt_of_lt_of_le hi l12))) ?_
      intro e2 f2 p2
      rw [← bf b] at p2 ⊢
      rw [← pf b] at p2
      have f3 := f1.trans (f2.mono (P' := lbP q) (fun a k z => Or.inl z))
      have m2 := m.fr f3
      have ae2 : ∀ k, k < 3267 → k ≠ 41 + q → hI e2 295 k = sA σ k := fun k hk hne => by
        rw [f3.I (lb_no (Or.inr (Or.inr (Or.inr ⟨rfl, hne⟩))))]; exact a k hk
      have ne2 : ∀ i, i < 100 → hI e2 310 i = if npB (bdF σ j q) (bpF σ j q) b i = true then 1 else 0 := fun i hi => by
        rw [f2.I ia_296, n1]; exact ne i hi
      simp only [psh_some, rX12_laysBolds_64]
      by_cases hf : bdF σ j q b = true
      · rw [if_pos hf, if_neg (by decide)]
        have so2 := alB_ok w.1 (boB_ok (g := q) (n := (b : Int)) w.2.1 (Int.natCast_nonneg _) (Int.not_lt.1 b9)) q6 l
        have pin := (b_in (A := sA σ) w.1 so2 q6).2.2
        rw [← pf b] at pin
        obtain ⟨pn, hpn⟩ := Int.eq_ofNat_of_zero_le pin.1
        have p3 := p2 hf
        have p4 := (p_99 hpn pin.2).2
        rw [hpn] at p3
        have fl := fitS_lt (bdF σ j q) b b20
        simp only [rX12_laysBolds_70, rX12_laysBolds_72, rX12_laysBolds_73, rX12_laysBolds_75, rX12_laysBolds_76, rX12_laysBolds_77, rX12_laysBolds_79, rX12_laysBolds_80, rX12_laysBolds_83, rX12_laysBolds_84, rX12_laysBolds_87, rX12_laysBolds_88, rX12_laysBolds_89, rX12_laysBolds_92, Md_K280 m2, Md_R281 m2, Md_K281 m2, Md_R282 m2, Md_K282 m2, Md_R283 m2, Md_K283 m2, Md_R284 m2, Md_K284 m2, Md_R285 m2, Md_K285 m2, Md_R286 m2, Md_K286 m2, Md_R287 m2, Md_K287 m2, Md_R288 m2, Md_K288 m2, Md_R289 m2, Md_K289 m2, Md_R290 m2, Md_K290 m2, Md_R291 m2, Md_K291 m2, Md_R292 m2, Md_K292 m2, Md_R293 m2, Md_K293 m2, Md_R294 m2, Md_K294 m2, Md_R295 m2, Md_K295 m2, Md_R296 m2, Md_K296 m2, Md_R297 m2, Md_K297 m2, Md_R298 m2, Md_K298 m2, Md_R299 m2, Md_K299 m2, orb_n (a := fitS (bdF σ j q) b) (i := b) (t_20 fl) b31, p3, p4, i1, Int.toNat_natCast, Int.natCast_nonneg, true_and, and_true, and_self, if_true, if_false, or_true, true_or, or_false, false_or, ne_eq, not_true_eq_false, not_false_eq_true, Nat.reduceLeDiff, Nat.reduceEqDiff, Nat.reduceLT, Nat.reduceAdd, Nat.reduceMul, Nat.reduceSub, Int.reduceLT, Int.reduceLE, Int.reduceEq, Int.reduceToNat, Int.reduceAdd, Int.reduceSub, Int.reduceMul, Int.reduceNeg, Int.cast_ofNat_Int, false_and, and_false]
        have e3 : fitS (bdF σ j q) (b + 1) = fitS (bdF σ j q) b ||| 2 ^ b := if_pos hf
        have go := kk (wI e2 310 pn 1) ⟨f3.wI (Or.inr (Or.inl rfl)) _, fun k hk hne => by rw [hI_far _ _ (by decide)]; exact ae2 k hk hne, fun i hi => ?_⟩
        · rw [e3] at go
          exact go
        · rw [hI_wI]
          show _ = if (npB (bdF σ j q) (bpF σ j q) b i || (bdF σ j q b && decide ((i : Int) = bpF σ j q b))) = true then 1 else 0
          rw [hf, hpn, Bool.true_and, n_eq]
          by_cases hip : i = pn
          · rw [if_pos ⟨rfl, hip⟩, decide_eq_true hip, Bool.or_true, if_pos rfl]
          · rw [if_neg (fun z => hip z.2), decide_eq_false hip, Bool.or_false]; exact ne2 i hi
      · rw [if_neg hf, if_pos (by trivial)]
        simp only [rX12_laysBolds_67, rX12_laysBolds_89, rX12_laysBolds_92, i1]
        have e3 : fitS (bdF σ j q) (b + 1) = fitS (bdF σ j q) b := if_neg hf
        have go := kk e2 ⟨f3, ae2, fun i hi => ?_⟩
        · rw [e3] at go
          exact go
        · show _ = if (npB (bdF σ j q) (bpF σ j q) b i || (bdF σ j q b && decide ((i : Int) = bpF σ j q b))) = true then 1 else 0
          rw [Bool.eq_false_iff.2 hf, Bool.false_and, Bool.or_false]; exact ne2 i hi
    · rintro e ⟨fe, ae, ne⟩
      have me := m.fr fe
      rw [rX12_laysBolds_40]
      simp only [rX12_laysBolds_42, rX12_laysBolds_44, rX12_laysBolds_95, rX12_laysBolds_96, rX12_laysBolds_99, rX12_laysBolds_101, rX12_laysBolds_102, rX12_laysBolds_103, rX12_laysBolds_104, rX12_laysBolds_105, rX12_laysBolds_107, Md_K280 me, Md_R281 me, Md_K281 me, Md_R282 me, Md_K282 me, Md_R283 me, Md_K283 me, Md_R284 me, Md_K284 me, Md_R285 me, Md_K285 me, Md_R286 me, Md_K286 me, Md_R287 me, Md_K287 me, Md_R288 me, Md_K288 me, Md_R289 me, Md_K289 me, Md_R290 me, Md_K290 me, Md_R291 me, Md_K291 me, Md_R292 me, Md_K292 me, Md_R293 me, Md_K293 me, Md_R294 me, Md_K294 me, Md_R295 me, Md_K295 me, Md_R296 me, Md_K296 me, Md_R297 me, Md_K297 me, Md_R298 me, Md_K298 me, Md_R299 me, Md_K299 me, l1, l2, Int.toNat_natCast, Int.natCast_nonneg, true_and, and_true, and_self, if_true, if_false, or_true, true_or, or_false, false_or, ne_eq, not_true_eq_false, not_false_eq_true, Nat.reduceLeDiff, Nat.reduceEqDiff, Nat.reduceLT, Nat.reduceAdd, Nat.reduceMul, Nat.reduceSub, Int.reduceLT, Int.reduceLE, Int.reduceEq, Int.reduceToNat, Int.reduceAdd, Int.reduceSub, Int.reduceMul, Int.reduceNeg, Int.cast_ofNat_Int, false_and, and_false]
      have f4 : Fp (lbP q) h (wI e 295 (41 + q) (sA σ (41 + q))) := fe.wI (Or.inr (Or.inr ⟨rfl, rfl⟩)) _
      refine k _ ?_ f4 (fun i hi => by rw [hI_far _ _ (by decide)]; exact ne i hi)
      have := x.ah (A' := sA σ) (H' := sH σ) (f4.mono (P' := fun a k => uP a k ∨ a = 295 ∨ a = 296) (fun a k z => lb_u z)) (fun k hk => ?_) (fun i hi => by rw [f4.I (lb_no (Or.inr (Or.inr (Or.inl rfl))))]; exact x.2.2.1 i hi)
      · exact this
      · rw [hI_wI]
        by_cases hkq : k = 41 + q
        · rw [if_pos ⟨rfl, hkq⟩, hkq]
        · rw [if_neg (fun z => hkq z.2)]; exact ae k hk hkq
theorem lbP_r {q a k : Nat} (z : lbP q a k) : rfP a k := by unfold lbP iaP lP at z; unfold rfP; omega
theorem R_bolds {d : Nat} {σ : AS} {t g : Int} : RSpec (d + 5) mX12_bolds [some (.inr (.inr 294)), some (.inl t), some (.inl g), none] σ (.inl (bdV σ t g)) σ := by
  refine RSpec5.of ?_ (fun h Q hk => by simp only [rX12_bolds_0, rX12_bolds_1, rX12_bolds_2, hk, Int.toNat_natCast, Int.natCast_nonneg, true_and, and_true, and_self, if_true, if_false, or_true, true_or, or_false, false_or, ne_eq, not_true_eq_false, not_false_eq_true, Nat.reduceLeDiff, Nat.reduceEqDiff, Nat.reduceLT, Nat.reduceAdd, Nat.reduceMul, Nat.reduceSub, Int.reduceLT, Int.reduceLE, Int.reduceEq, Int.reduceToNat, Int.reduceAdd, Int.reduceSub, Int.reduceMul, Int.reduceNeg, Int.cast_ofNat_Int, false_and, and_false])
  intro h Q x w k
  have m := x.1
  unfold bdV at k
  simp only [rX12_bolds_5, rX12_bolds_6, rX12_bolds_7, rX12_bolds_8, Md_K280 m, Md_R281 m, Md_K281 m, Md_R282 m, Md_K282 m, Md_R283 m, Md_K283 m, Md_R284 m, Md_K284 m, Md_R285 m, Md_K285 m, Md_R286 m, Md_K286 m, Md_R287 m, Md_K287 m, Md_R288 m, Md_K288 m, Md_R289 m, Md_K289 m, Md_R290 m, Md_K290 m, Md_R291 m, Md_K291 m, Md_R292 m, Md_K292 m, Md_R293 m, Md_K293 m, Md_R294 m, Md_K294 m, Md_R295 m, Md_K295 m, Md_R296 m, Md_K296 m, Md_R297 m, Md_K297 m, Md_R298 m, Md_K298 m, Md_R299 m, Md_K299 m, Int.toNat_natCast, Int.natCast_nonneg, true_and, and_true, and_self, if_true, if_false, or_true, true_or, or_false, false_or, ne_eq, not_true_eq_false, not_false_eq_true, Nat.reduceLeDiff, Nat.reduceEqDiff, Nat.reduceLT, Nat.reduceAdd, Nat.reduceMul, Nat.reduceSub, Int.reduceLT, Int.reduceLE, Int.reduceEq, Int.reduceToNat, Int.reduceAdd, Int.reduceSub, Int.reduceMul, Int.reduceNeg, Int.cast_ofNat_Int, false_and, and_false]
  refine S_noAlone (d := d + 1) x w ?_
  simp only [psh_some, rX12_bolds_11, rX12_bolds_12, rX12_bolds_13]
  by_cases h0 : alV σ t g = 0
  · rw [if_pos h0] at k ⊢
    obtain ⟨j, q, l, rfl, rfl, j4, qG, ns, el, l1, l12, zz⟩ := alV_0 h0
    simp only [Int.toNat_natCast] at k
    simp only [h0, rX12_bolds_20, rX12_bolds_21, rX12_bolds_22, rX12_bolds_23, Md_K280 m, Md_R281 m, Md_K281 m, Md_R282 m, Md_K282 m, Md_R283 m, Md_K283 m, Md_R284 m, Md_K284 m, Md_R285 m, Md_K285 m, Md_R286 m, Md_K286 m, Md_R287 m, Md_K287 m, Md_R288 m, Md_K288 m, Md_R289 m, Md_K289 m, Md_R290 m, Md_K290 m, Md_R291 m, Md_K291 m, Md_R292 m, Md_K292 m, Md_R293 m, Md_K293 m, Md_R294 m, Md_K294 m, Md_R295 m, Md_K295 m, Md_R296 m, Md_K296 m, Md_R297 m, Md_K297 m, Md_R298 m, Md_K298 m, Md_R299 m, Md_K299 m, Int.toNat_natCast, Int.natCast_nonneg, true_and, and_true, and_self, if_true, if_false, or_true, true_or, or_false, false_or, ne_eq, not_true_eq_false, not_false_eq_true, Nat.reduceLeDiff, Nat.reduceEqDiff, Nat.reduceLT, Nat.reduceAdd, Nat.reduceMul, Nat.reduceSub, Int.reduceLT, Int.reduceLE, Int.reduceEq, Int.reduceToNat, Int.reduceAdd, Int.reduceSub, Int.reduceMul, Int.reduceNeg, Int.cast_ofNat_Int, false_and, and_false]
    refine S_laysBolds x w j4 qG el l12 ?_
    intro h' x' f' _
    simp only [psh_some, rX12_bolds_26]
    exact k h' x' (f'.mono (fun a k z => lbP_r z))
  · rw [if_neg h0] at k ⊢
    simp only [rX12_bolds_16, rX12_bolds_17, rX12_bolds_26]
    exact k h x (Fp.refl _ h)
theorem R_nexts {d : Nat} {σ : AS} {t g : Int} : RSpec (d + 5) mX12_nexts [some (.inr (.inr 294)), some (.inl t), some (.inl g), none, none, none] σ (.inl (nxV σ t g)) σ := by
  refine RSpec5.of ?_ (fun h Q hk => by simp only [rX12_nexts_0, rX12_nexts_1, rX12_nexts_2, hk, Int.toNat_natCast, Int.natCast_nonneg, true_and, and_true, and_self, if_true, if_false, or_true, true_or, or_false, false_or, ne_eq, not_true_eq_false, not_false_eq_true, Nat.reduceLeDiff, Nat.reduceEqDiff, Nat.reduceLT, Nat.reduceAdd, Nat.reduceMul, Nat.reduceSub, Int.reduceLT, Int.reduceLE, Int.reduceEq, Int.reduceToNat, Int.reduceAdd, Int.reduceSub, Int.reduceMul, Int.reduceNeg, Int.cast_ofNat_Int, false_and, and_false])
  intro h Q x w k
  have m := x.1
  unfold nxV at k
  simp only [rX12_nexts_5, rX12_nexts_6, rX12_nexts_7, rX12_nexts_8, Md_K280 m, Md_R281 m, Md_K281 m, Md_R282 m, Md_K282 m, Md_R283 m, Md_K283 m, Md_R284 m, Md_K284 m, Md_R285 m, Md_K285 m, Md_R286 m, Md_K286 m, Md_R287 m, Md_K287 m, Md_R288 m, Md_K288 m, Md_R289 m, Md_K289 m, Md_R290 m, Md_K290 m, Md_R291 m, Md_K291 m, Md_R292 m, Md_K292 m, Md_R293 m, Md_K293 m, Md_R294 m, Md_K294 m, Md_R295 m, Md_K295 m, Md_R296 m, Md_K296 m, Md_R297 m, Md_K297 m, Md_R298 m, Md_K298 m, Md_R299 m, Md_K299 m, Int.toNat_natCast, Int.natCast_nonneg, true_and, and_true, and_self, if_true, if_false, or_true, true_or, or_false, false_or, ne_eq, not_true_eq_false, not_false_eq_true, Nat.reduceLeDiff, Nat.reduceEqDiff, Nat.reduceLT, Nat.reduceAdd, Nat.reduceMul, Nat.reduceSub, Int.reduceLT, Int.reduceLE, Int.reduceEq, Int.reduceToNat, Int.reduceAdd, Int.reduceSub, Int.reduceMul, Int.reduceNeg, Int.cast_ofNat_Int, false_and, and_false]
  refine S_noAlone (d := d + 1) x w ?_
  simp only [psh_some, rX12_nexts_11, rX12_nexts_12, rX12_nexts_13]
  by_cases h0 : alV σ t g = 0
  · rw [if_pos h0] at k ⊢
    obtain ⟨j, q, l, rfl, rfl, j4, qG, ns, el, l1, l12, zz⟩ := alV_0 h0
    simp only [Int.toNat_natCast] at k
    simp only [h0, rX12_nexts_18, rX12_nexts_19, rX12_nexts_20, rX12_nexts_21, Md_K280 m, Md_R281 m, Md_K281 m, Md_R282 m, Md_K282 m, Md_R283 m, Md_K283 m, Md_R284 m, Md_K284 m, Md_R285 m, Md_K285 m, Md_R286 m, Md_K286 m, Md_R287 m, Md_K287 m, Md_R288 m, Md_K288 m, Md_R289 m, Md_K289 m, Md_R290 m, Md_K290 m, Md_R291 m, Md_K291 m, Md_R292 m, Md_K292 m, Md_R293 m, Md_K293 m, Md_R294 m, Md_K294 m, Md_R295 m, Md_K295 m, Md_R296 m, Md_K296 m, Md_R297 m, Md_K297 m, Md_R298 m, Md_K298 m, Md_R299 m, Md_K299 m, Int.toNat_natCast, Int.natCast_nonneg, true_and, and_true, and_self, if_true, if_false, or_true, true_or, or_false, false_or, ne_eq, not_true_eq_false, not_false_eq_true, Nat.reduceLeDiff, Nat.reduceEqDiff, Nat.reduceLT, Nat.reduceAdd, Nat.reduceMul, Nat.reduceSub, Int.reduceLT, Int.reduceLE, Int.reduceEq, Int.reduceToNat, Int.reduceAdd, Int.reduceSub, Int.reduceMul, Int.reduceNeg, Int.cast_ofNat_Int, false_and, and_false]
    refine S_laysBolds x w j4 qG el l12 ?_
    intro h' x' f' np
    have m' := x'.1
    have k0 := k h' x' (f'.mono (fun a k z => lbP_r z))
    simp only [psh_some, rX12_nexts_24, rX12_nexts_25, rX12_nexts_26, rX12_nexts_28, rX12_nexts_29]
    generalize npB (bdF σ j q) (bpF σ j q) 10 = P at np k0
    have main : ∀ n i, i + n = 100 → WP (d + 5) mX12_nexts 31 [some (.inr (.inr 294)), some (.inl (j : Int)), some (.inl (q : Int)), some (.inl 0), some (.inl (cntB P i : Int)), some (.inl (i : Int))] [] h' Q := by
      intro n
      induction n with
      | zero =>
        intro i hi
        have e : i = 100 := by omega
        subst e
        rw [rX12_nexts_31]
        simp only [rX12_nexts_33, rX12_nexts_35, rX12_nexts_64, rX12_nexts_66, Int.toNat_natCast, Int.natCast_nonneg, true_and, and_true, and_self, if_true, if_false, or_true, true_or, or_false, false_or, ne_eq, not_true_eq_false, not_false_eq_true, Nat.reduceLeDiff, Nat.reduceEqDiff, Nat.reduceLT, Nat.reduceAdd, Nat.reduceMul, Nat.reduceSub, Int.reduceLT, Int.reduceLE, Int.reduceEq, Int.reduceToNat, Int.reduceAdd, Int.reduceSub, Int.reduceMul, Int.reduceNeg, Int.cast_ofNat_Int, false_and, and_false]
        exact k0
      | succ n ih =>
        intro i hi
        have c9 : ¬ ((99 : Int) < (i : Int)) := by omega
        have c1 : (i : Int) < 100 := by omega
        have l2 : w32 ((i : Int) + 1) = ((i + 1 : Nat) : Int) := w32_s (by omega)
        have cl := cntB_le P i
        have go := ih (i + 1) (by omega)
        have pi := np i (by omega)
        rw [rX12_nexts_31]
        simp only [rX12_nexts_33, rX12_nexts_35, rX12_nexts_38, rX12_nexts_40, rX12_nexts_41, rX12_nexts_44, rX12_nexts_46, rX12_nexts_47, Md_K280 m', Md_R281 m', Md_K281 m', Md_R282 m', Md_K282 m', Md_R283 m', Md_K283 m', Md_R284 m', Md_K284 m', Md_R285 m', Md_K285 m', Md_R286 m', Md_K286 m', Md_R287 m', Md_K287 m', Md_R288 m', Md_K288 m', Md_R289 m', Md_K289 m', Md_R290 m', Md_K290 m', Md_R291 m', Md_K291 m', Md_R292 m', Md_K292 m', Md_R293 m', Md_K293 m', Md_R294 m', Md_K294 m', Md_R295 m', Md_K295 m', Md_R296 m', Md_K296 m', Md_R297 m', Md_K297 m', Md_R298 m', Md_K298 m', Md_R299 m', Md_K299 m', c9, c1, pi, Int.toNat_natCast, Int.natCast_nonneg, true_and, and_true, and_self, if_true, if_false, or_true, true_or, or_false, false_or, ne_eq, not_true_eq_false, not_false_eq_true, Nat.reduceLeDiff, Nat.reduceEqDiff, Nat.reduceLT, Nat.reduceAdd, Nat.reduceMul, Nat.reduceSub, Int.reduceLT, Int.reduceLE, Int.reduceEq, Int.reduceToNat, Int.reduceAdd, Int.reduceSub, Int.reduceMul, Int.reduceNeg, Int.cast_ofNat_Int, false_and, and_false]
        by_cases hp : P i = true
        · have e3 : w32 ((cntB P i : Int) + 1) = (cntB P (i + 1) : Int) := by
            show _ = ((cntB P i + (if P i = true then 1 else 0) : Nat) : Int)
            rw [if_pos hp, w32_s (by omega)]
          simp only [if_pos hp]
          rw [if_neg (by decide)]
          simp only [rX12_nexts_50, rX12_nexts_51, rX12_nexts_54, rX12_nexts_55, rX12_nexts_56, rX12_nexts_58, rX12_nexts_61, l2, e3]
          exact go
        · have e3 : w32 ((cntB P i : Int) + 0) = (cntB P (i + 1) : Int) := by
            show _ = ((cntB P i + (if P i = true then 1 else 0) : Nat) : Int)
            rw [if_neg hp, w32_i (by omega) (by omega)]; omega
          simp only [if_neg hp]
          rw [if_pos (by trivial)]
          simp only [rX12_nexts_54, rX12_nexts_55, rX12_nexts_56, rX12_nexts_58, rX12_nexts_61, l2, e3]
          exact go
    exact main 100 0 (by omega)
  · rw [if_neg h0] at k ⊢
    simp only [rX12_nexts_16, rX12_nexts_17]
    exact k h x (Fp.refl _ h)
