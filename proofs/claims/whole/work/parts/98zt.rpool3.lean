/-! the reference's pool: the call -/
def RP (a k : Nat) : Prop := a = 294 ∨ a = 298 ∨ (a = 295 ∧ k < 1089)
theorem RX_RP (a k : Nat) (p : RX a k) : RP a k := by unfold RX at p; unfold RP; omega
theorem RP_rf (a k : Nat) (p : RP a k) : rfP a k := by unfold RP at p; unfold rfP; omega
theorem R_pool {d : Nat} {σ : AS} {n : Int} : RSpS (d + 152) mX12_pool [some (.inr (.inr 294)), some (.inl n), none] σ (.inl (poAns σ n)) (poSt σ n) := by
  intro h Q sg x w k
  obtain ⟨md, at', im, n5, tp, n13, n14, so, bl⟩ := id x
  have f0 : Fp RP h (wI h 294 0 0) := (Fp.refl RP h).wI (Or.inl rfl) _
  by_cases c : 0 ≤ n ∧ n ≤ (sN σ : Int)
  · have c1 := eq_true c
    have h9 : n.toNat ≤ 900 := by have := w.2.2.2.2.2.2.1; omega
    have en : n = ((n.toNat : Nat) : Int) := by omega
    have hn : n.toNat ≤ sN σ := by omega
    have w8 := w.2.2.2.2.2.2.2.1
    have nz : ∀ j : Nat, (0 : Nat) = 5 ↔ False := fun _ => by decide
    simp only [rX12_pool_0, rX12_pool_1, rX12_pool_2, rX12_pool_5, rX12_pool_6, rX12_pool_7, rX12_pool_8, rX12_pool_9, rX12_pool_12, rX12_pool_13, rX12_pool_16, rX12_pool_19, rX12_pool_21, rX12_pool_22, rX12_pool_23, rX12_pool_24, rX12_pool_27, rX12_pool_28, rX12_pool_29, rX12_pool_32, rX12_pool_33, rX12_pool_34, rX12_pool_37, rX12_pool_38, rX12_pool_39, rX12_pool_42, rX12_pool_43, rX12_pool_46, Md_K280 md, Md_R284 md, hK_wI, hI_wI, hR_wI, n5, S_within, c1, psh_some, rX12_plain_0, rX12_plain_1, Int.toNat_natCast, Int.natCast_nonneg, true_and, and_true, and_self, if_true, if_false, or_true, true_or, or_false, false_or, ne_eq, not_true_eq_false, not_false_eq_true, Nat.reduceLeDiff, Nat.reduceEqDiff, Nat.reduceLT, Nat.reduceAdd, Nat.reduceMul, Nat.reduceSub, Int.reduceLT, Int.reduceLE, Int.reduceEq, Int.reduceToNat, Int.reduceAdd, Int.reduceSub, Int.reduceMul, Int.reduceNeg, Int.cast_ofNat_Int, false_and, and_false]
    have f1 : Fp RP h (wI (wI (wI (wI (wI h 294 0 0) 294 8 n) 294 5 0) 294 7 0) 294 11 0) := (((f0.wI (Or.inl rfl) _).wI (Or.inl rfl) _).wI (Or.inl rfl) _).wI (Or.inl rfl) _
    have J1 : ∀ i, hI (wI (wI (wI (wI (wI h 294 0 0) 294 8 n) 294 5 0) 294 7 0) 294 11 0) 294 i = if i = 11 then 0 else if i = 7 then 0 else if i = 5 then 0 else if i = 8 then n else if i = 0 then 0 else hI h 294 i := fun i => by
      simp only [hI_wI, true_and]
    refine S_plain4 1089 0 _ rfl ((f1.K _).trans (Md_K284 md)) (fun q hq => absurd hq (Nat.not_lt_zero q)) (fun h2 f2 z2 => ?_)
    have m2 : MdOk h2 := (md.fr f1).fr f2
    have J2 : ∀ i, hI h2 294 i = _ := fun i => (f2.I (fun z => absurd z (by decide))).trans (J1 i)
    have g2 : RGd (sT σ, n.toNat) h2 := ⟨(sg.fp f1 (fun a k p => by unfold RP at p; omega)).fp f2 (fun a k p => by have p : a = 298 := p; omega), m2, by rw [J2 8]; exact en, h9, fun k hk => ⟨(f2.I (fun z => absurd z (by decide))).trans ((f1.I (by unfold RP; omega)).trans (tp k (Nat.lt_of_lt_of_le hk hn))), w8 k (Nat.lt_of_lt_of_le hk hn)⟩⟩
    have f12 : Fp RP h h2 := f1.trans (f2.mono (fun a k p => Or.inr (Or.inl p)))
    simp only [psh_none, rX12_pool_49, rX12_pool_50, Md_K280 m2, Int.toNat_natCast, Int.natCast_nonneg, true_and, and_true, and_self, if_true, if_false, or_true, true_or, or_false, false_or, ne_eq, not_true_eq_false, not_false_eq_true, Nat.reduceLeDiff, Nat.reduceEqDiff, Nat.reduceLT, Nat.reduceAdd, Nat.reduceMul, Nat.reduceSub, Int.reduceLT, Int.reduceLE, Int.reduceEq, Int.reduceToNat, Int.reduceAdd, Int.reduceSub, Int.reduceMul, Int.reduceNeg, Int.cast_ofNat_Int, false_and, and_false]
    refine R_next0 (d := d + 145) (X := (sT σ, n.toNat)) g2 (Nat.zero_le _) (q := 0) (J2 7) (fun h3 f3 t3 => ?_)
    have g3 := g2.rn f3
    have x3 : RLn (sT σ, n.toNat) h3 0 (.inl (0, fun _ => 0)) := ⟨g3, ⟨Nat.le_refl 0, Nat.zero_le _, (f3.I (by unfold RN; omega)).trans (J2 11), t3⟩, fun q A e k hk => by
      have eA : (fun _ => 0) = A := by cases e; rfl
      rw [← eA, f3.I (by unfold RN; omega)]
      exact z2 k hk⟩
    have f13 : Fp RP h h3 := f12.trans (f3.mono (fun a k p => Or.inl p.1))
    have keep : ∀ h', Fp RX h3 h' → Fp RP h h' := fun h' f => f13.trans (f.mono RX_RP)
    have n50 : ∀ h', Fp RX h3 h' → hI h' 294 5 = 0 ∧ hI h' 294 13 = hI h 294 13 ∧ hI h' 294 14 = hI h 294 14 := fun h' f => ⟨(f.I (by unfold RX; omega)).trans ((f3.I (by unfold RN; omega)).trans (J2 5)), (f.I (by unfold RX; omega)).trans ((f3.I (by unfold RN; omega)).trans (J2 13)), (f.I (by unfold RX; omega)).trans ((f3.I (by unfold RN; omega)).trans (J2 14))⟩
    have fin : ∀ h', RLn (sT σ, n.toNat) h' 0 (pPool (sT σ, n.toNat)) → Fp RX h3 h' → WP (d + 152) mX12_pool 111 [some (.inr (.inr 294)), some (.inl n), none] [] h' Q := fun h4 x4 f4 => by
      have m4 := x4.1.2.1
      have fk := keep h4 f4
      obtain ⟨k5, k13, k14⟩ := n50 h4 f4
      cases e : pPool (sT σ, n.toNat) with
      | inr e1 =>
        obtain ⟨p1, p2⟩ := poAns_b c e
        rw [p1, p2] at k
        rw [e] at x4
        obtain ⟨t1, t2, t3⟩ := x4.2.1
        have t2 : hI h4 294 11 = e1.1 := t2
        have t3 : hI h4 294 12 = (e1.2 : Int) := t3
        have t1 : (e1.1 = 0) = False := eq_false t1
        simp only [rX12_pool_111, rX12_pool_112, rX12_pool_113, rX12_pool_116, rX12_pool_119, rX12_pool_120, rX12_pool_121, rX12_pool_124, rX12_pool_127, rX12_pool_128, rX12_pool_131, rX12_pool_132, rX12_pool_135, rX12_pool_138, rX12_pool_139, rX12_pool_142, rX12_pool_145, rX12_pool_147, rX12_pool_148, rX12_pool_151, rX12_pool_152, Md_K280 m4, t2, t3, t1, hK_wI, hI_wI, hR_wI, Int.toNat_natCast, Int.natCast_nonneg, true_and, and_true, and_self, if_true, if_false, or_true, true_or, or_false, false_or, ne_eq, not_true_eq_false, not_false_eq_true, Nat.reduceLeDiff, Nat.reduceEqDiff, Nat.reduceLT, Nat.reduceAdd, Nat.reduceMul, Nat.reduceSub, Int.reduceLT, Int.reduceLE, Int.reduceEq, Int.reduceToNat, Int.reduceAdd, Int.reduceSub, Int.reduceMul, Int.reduceNeg, Int.cast_ofNat_Int, false_and, and_false]
        have f5 : Fp (fun a _ => a = 294) h4 (wI (wI h4 294 13 e1.1) 294 14 (e1.2 : Int)) := Fp.wI (P := fun a _ => a = 294) (Fp.wI (P := fun a _ => a = 294) (Fp.refl _ h4) rfl _) rfl _
        have nk : ∀ a i, a ≠ 294 → a ≠ 298 → a ≠ 295 → hI (wI (wI h4 294 13 e1.1) 294 14 (e1.2 : Int)) a i = hI h a i := fun a i q1 q2 q3 => (f5.I q1).trans (fk.I (by unfold RP; omega))
        refine k _ ⟨m4.fr f5, fun i hi => ?_, fun i hi => (nk 296 i (by decide) (by decide) (by decide)).trans (im i hi), ?_, fun i hi => absurd hi (Nat.not_lt_zero i), ?_, ?_, fun i hi => ⟨(nk 311 i (by decide) (by decide) (by decide)).trans (so i hi).1, (nk 312 i (by decide) (by decide) (by decide)).trans (so i hi).2⟩, fun i hi => (f5.J (by decide)).trans ((fk.J (by unfold RP; omega)).trans (bl i hi))⟩ ((fk.trans (f5.mono (fun a k p => Or.inl p))).mono RP_rf)
        · refine (f5.I (by decide)).trans ((f4.I (by unfold RX; omega)).trans ((f3.I (by unfold RN; omega)).trans ((f2.I (fun z => absurd z (by decide))).trans ?_)))
          simp only [hI_wI, Int.toNat_natCast, Int.natCast_nonneg, true_and, and_true, and_self, if_true, if_false, or_true, true_or, or_false, false_or, ne_eq, not_true_eq_false, not_false_eq_true, Nat.reduceLeDiff, Nat.reduceEqDiff, Nat.reduceLT, Nat.reduceAdd, Nat.reduceMul, Nat.reduceSub, Int.reduceLT, Int.reduceLE, Int.reduceEq, Int.reduceToNat, Int.reduceAdd, Int.reduceSub, Int.reduceMul, Int.reduceNeg, Int.cast_ofNat_Int, false_and, and_false]
          exact at' i hi
        · simp only [hI_wI, Int.toNat_natCast, Int.natCast_nonneg, true_and, and_true, and_self, if_true, if_false, or_true, true_or, or_false, false_or, ne_eq, not_true_eq_false, not_false_eq_true, Nat.reduceLeDiff, Nat.reduceEqDiff, Nat.reduceLT, Nat.reduceAdd, Nat.reduceMul, Nat.reduceSub, Int.reduceLT, Int.reduceLE, Int.reduceEq, Int.reduceToNat, Int.reduceAdd, Int.reduceSub, Int.reduceMul, Int.reduceNeg, Int.cast_ofNat_Int, false_and, and_false]; exact k5
        · simp only [hI_wI, Int.toNat_natCast, Int.natCast_nonneg, true_and, and_true, and_self, if_true, if_false, or_true, true_or, or_false, false_or, ne_eq, not_true_eq_false, not_false_eq_true, Nat.reduceLeDiff, Nat.reduceEqDiff, Nat.reduceLT, Nat.reduceAdd, Nat.reduceMul, Nat.reduceSub, Int.reduceLT, Int.reduceLE, Int.reduceEq, Int.reduceToNat, Int.reduceAdd, Int.reduceSub, Int.reduceMul, Int.reduceNeg, Int.cast_ofNat_Int, false_and, and_false]; rfl
        · simp only [hI_wI, Int.toNat_natCast, Int.natCast_nonneg, true_and, and_true, and_self, if_true, if_false, or_true, true_or, or_false, false_or, ne_eq, not_true_eq_false, not_false_eq_true, Nat.reduceLeDiff, Nat.reduceEqDiff, Nat.reduceLT, Nat.reduceAdd, Nat.reduceMul, Nat.reduceSub, Int.reduceLT, Int.reduceLE, Int.reduceEq, Int.reduceToNat, Int.reduceAdd, Int.reduceSub, Int.reduceMul, Int.reduceNeg, Int.cast_ofNat_Int, false_and, and_false]; rfl
      | inl y =>
        obtain ⟨q, A⟩ := y
        obtain ⟨p1, p2⟩ := poAns_o c e
        have p1 : poAns σ n = A 0 := p1
        rw [p1, p2] at k
        rw [e] at x4
        have t2 : hI h4 294 11 = 0 := x4.2.1.2.2.1
        have ea := x4.2.2 q A rfl
        simp only [rX12_pool_111, rX12_pool_112, rX12_pool_113, rX12_pool_116, rX12_pool_119, rX12_pool_120, rX12_pool_121, rX12_pool_124, rX12_pool_127, rX12_pool_128, rX12_pool_131, rX12_pool_132, rX12_pool_135, rX12_pool_138, rX12_pool_139, rX12_pool_142, rX12_pool_153, rX12_pool_154, Md_K280 m4, t2, hK_wI, hI_wI, hR_wI, Int.toNat_natCast, Int.natCast_nonneg, true_and, and_true, and_self, if_true, if_false, or_true, true_or, or_false, false_or, ne_eq, not_true_eq_false, not_false_eq_true, Nat.reduceLeDiff, Nat.reduceEqDiff, Nat.reduceLT, Nat.reduceAdd, Nat.reduceMul, Nat.reduceSub, Int.reduceLT, Int.reduceLE, Int.reduceEq, Int.reduceToNat, Int.reduceAdd, Int.reduceSub, Int.reduceMul, Int.reduceNeg, Int.cast_ofNat_Int, false_and, and_false]
        have f5 : Fp (fun a _ => a = 294) h4 (wI (wI h4 294 13 0) 294 14 (-1)) := Fp.wI (P := fun a _ => a = 294) (Fp.wI (P := fun a _ => a = 294) (Fp.refl _ h4) rfl _) rfl _
        refine N_copy 1089 0 _ rfl (m4.fr f5) (fun q hq => absurd hq (Nat.not_lt_zero q)) (fun h6 z f6 e6 => ?_)
        have m6 := (m4.fr f5).fr f6
        have e84 : ∀ i, hI h6 298 i = hI h4 298 i := fun i => (f6.I (fun z => absurd z.1 (by decide))).trans (f5.I (by decide))
        have e0 : hI h6 295 0 = A 0 := (e6 0 (by decide)).trans ((e84 0).trans (ea 0 (by decide)))
        have J6 : ∀ i, hI h6 294 i = hI (wI (wI h4 294 13 0) 294 14 (-1)) 294 i := fun i => f6.I (fun z => absurd z.1 (by decide))
        simp only [rX12_pool_180, rX12_pool_181, rX12_pool_184, rX12_pool_185, rX12_pool_186, Md_K280 m6, Md_R281 m6, Md_K281 m6, e0, Int.toNat_natCast, Int.natCast_nonneg, true_and, and_true, and_self, if_true, if_false, or_true, true_or, or_false, false_or, ne_eq, not_true_eq_false, not_false_eq_true, Nat.reduceLeDiff, Nat.reduceEqDiff, Nat.reduceLT, Nat.reduceAdd, Nat.reduceMul, Nat.reduceSub, Int.reduceLT, Int.reduceLE, Int.reduceEq, Int.reduceToNat, Int.reduceAdd, Int.reduceSub, Int.reduceMul, Int.reduceNeg, Int.cast_ofNat_Int, false_and, and_false]
        have nk : ∀ a i, a ≠ 294 → a ≠ 298 → a ≠ 295 → hI h6 a i = hI h a i := fun a i q1 q2 q3 => (f6.I (fun z => q3 z.1)).trans ((f5.I q1).trans (fk.I (by unfold RP; omega)))
        refine k _ ⟨m6, fun i hi => ?_, fun i hi => (nk 296 i (by decide) (by decide) (by decide)).trans (im i hi), ?_, fun i hi => absurd hi (Nat.not_lt_zero i), ?_, ?_, fun i hi => ⟨(nk 311 i (by decide) (by decide) (by decide)).trans (so i hi).1, (nk 312 i (by decide) (by decide) (by decide)).trans (so i hi).2⟩, fun i hi => (f6.J (fun z => absurd z.1 (by decide))).trans ((f5.J (by decide)).trans ((fk.J (by unfold RP; omega)).trans (bl i hi)))⟩ (((fk.trans (f5.mono (fun a k p => Or.inl p))).trans (f6.mono (fun a k p => Or.inr (Or.inr p)))).mono RP_rf)
        · show hI h6 295 i = if i < 1089 then A i else sA σ i
          by_cases c5 : i < 1089
          · rw [if_pos c5]; exact (e6 i c5).trans ((e84 i).trans (ea i c5))
          · rw [if_neg c5, f6.I (fun z => c5 z.2), f5.I (by decide), fk.I (by unfold RP; omega)]
            exact at' i hi
        · rw [J6 5]; simp only [hI_wI, Int.toNat_natCast, Int.natCast_nonneg, true_and, and_true, and_self, if_true, if_false, or_true, true_or, or_false, false_or, ne_eq, not_true_eq_false, not_false_eq_true, Nat.reduceLeDiff, Nat.reduceEqDiff, Nat.reduceLT, Nat.reduceAdd, Nat.reduceMul, Nat.reduceSub, Int.reduceLT, Int.reduceLE, Int.reduceEq, Int.reduceToNat, Int.reduceAdd, Int.reduceSub, Int.reduceMul, Int.reduceNeg, Int.cast_ofNat_Int, false_and, and_false]; exact k5
        · rw [J6 13]; simp only [hI_wI, Int.toNat_natCast, Int.natCast_nonneg, true_and, and_true, and_self, if_true, if_false, or_true, true_or, or_false, false_or, ne_eq, not_true_eq_false, not_false_eq_true, Nat.reduceLeDiff, Nat.reduceEqDiff, Nat.reduceLT, Nat.reduceAdd, Nat.reduceMul, Nat.reduceSub, Int.reduceLT, Int.reduceLE, Int.reduceEq, Int.reduceToNat, Int.reduceAdd, Int.reduceSub, Int.reduceMul, Int.reduceNeg, Int.cast_ofNat_Int, false_and, and_false]; rfl
        · rw [J6 14]; simp only [hI_wI, Int.toNat_natCast, Int.natCast_nonneg, true_and, and_true, and_self, if_true, if_false, or_true, true_or, or_false, false_or, ne_eq, not_true_eq_false, not_false_eq_true, Nat.reduceLeDiff, Nat.reduceEqDiff, Nat.reduceLT, Nat.reduceAdd, Nat.reduceMul, Nat.reduceSub, Int.reduceLT, Int.reduceLE, Int.reduceEq, Int.reduceToNat, Int.reduceAdd, Int.reduceSub, Int.reduceMul, Int.reduceNeg, Int.cast_ofNat_Int, false_and, and_false]; rfl
    have mid : ∀ h', RLn (sT σ, n.toNat) h' 0 (mvn (eats (sT σ, n.toNat) 0) (.inl (0, fun _ => 0))) → Fp RX h3 h' → WP (d + 152) mX12_pool 66 [some (.inr (.inr 294)), some (.inl n), none] [] h' Q := fun h4 x4 f4 => by
      have m4 := x4.1.2.1
      simp only [rX12_pool_66, rX12_pool_67, rX12_pool_70, rX12_pool_72, rX12_pool_73, rX12_pool_74, rX12_pool_76, Md_K280 m4, Md_R284 m4, Int.toNat_natCast, Int.natCast_nonneg, true_and, and_true, and_self, if_true, if_false, or_true, true_or, or_false, false_or, ne_eq, not_true_eq_false, not_false_eq_true, Nat.reduceLeDiff, Nat.reduceEqDiff, Nat.reduceLT, Nat.reduceAdd, Nat.reduceMul, Nat.reduceSub, Int.reduceLT, Int.reduceLE, Int.reduceEq, Int.reduceToNat, Int.reduceAdd, Int.reduceSub, Int.reduceMul, Int.reduceNeg, Int.cast_ofNat_Int, false_and, and_false]
      refine N_takes (d := d + 144) x4 (fun h5 v x5 e5 f5 => ?_)
      have m5 := x5.1.2.1
      have x6 := x5.up 33 (g := fun _ => nms (sT σ, n.toNat) (tsl (mvn (eats (sT σ, n.toNat) 0) (.inl (0, fun _ => 0))))) e5
      have m6 := x6.1.2.1
      simp only [psh_some, rX12_pool_79, rX12_pool_80, rX12_pool_81, Md_K284 m5, Md_K280 m6, Int.toNat_natCast, Int.natCast_nonneg, true_and, and_true, and_self, if_true, if_false, or_true, true_or, or_false, false_or, ne_eq, not_true_eq_false, not_false_eq_true, Nat.reduceLeDiff, Nat.reduceEqDiff, Nat.reduceLT, Nat.reduceAdd, Nat.reduceMul, Nat.reduceSub, Int.reduceLT, Int.reduceLE, Int.reduceEq, Int.reduceToNat, Int.reduceAdd, Int.reduceSub, Int.reduceMul, Int.reduceNeg, Int.cast_ofNat_Int, false_and, and_false]
      refine N_ends2 (d := d + 143) x6 (fun h7 x7 f7 => ?_)
      simp only [psh_none]
      refine N_lines (X := (sT σ, n.toNat)) h9 900 h7 0 _ (by show n.toNat ≤ 0 + 900; omega) (x7.weak (Nat.zero_le _)) pStart_inv (fun h8 x8 f8 => ?_)
      exact fin h8 x8 (f4.trans (f5.trans ((RLn.fx _ _).trans (f7.trans f8))))
    by_cases c2 : tkl (sT σ, n.toNat) (.inl (0, fun _ => 0)) = 0
    · simp only [psh_none, rX12_pool_53, rX12_pool_54, rX12_pool_55, Md_K280 g3.2.1, Int.toNat_natCast, Int.natCast_nonneg, true_and, and_true, and_self, if_true, if_false, or_true, true_or, or_false, false_or, ne_eq, not_true_eq_false, not_false_eq_true, Nat.reduceLeDiff, Nat.reduceEqDiff, Nat.reduceLT, Nat.reduceAdd, Nat.reduceMul, Nat.reduceSub, Int.reduceLT, Int.reduceLE, Int.reduceEq, Int.reduceToNat, Int.reduceAdd, Int.reduceSub, Int.reduceMul, Int.reduceNeg, Int.cast_ofNat_Int, false_and, and_false]
      refine N_eats1 (d := d + 144) x3 (by decide) (by decide) c2 (fun h4 x4 f4 => ?_)
      simp only [psh_some, rX12_pool_58, Int.toNat_natCast, Int.natCast_nonneg, true_and, and_true, and_self, if_true, if_false, or_true, true_or, or_false, false_or, ne_eq, not_true_eq_false, not_false_eq_true, Nat.reduceLeDiff, Nat.reduceEqDiff, Nat.reduceLT, Nat.reduceAdd, Nat.reduceMul, Nat.reduceSub, Int.reduceLT, Int.reduceLE, Int.reduceEq, Int.reduceToNat, Int.reduceAdd, Int.reduceSub, Int.reduceMul, Int.reduceNeg, Int.cast_ofNat_Int, false_and, and_false]
      exact mid h4 (by rw [mv_e1 c2]; exact x4.weak (Nat.zero_le _)) f4
    · have e0 := fun (Q : Option PV → Hp → Prop) => R_eats0 (d := d + 144) (Q := Q) x3.1 x3.2.1 (z := 0) (by decide) c2
      simp only [psh_none, rX12_pool_53, rX12_pool_54, rX12_pool_55, rX12_pool_58, rX12_pool_61, rX12_pool_62, rX12_pool_63, Md_K280 g3.2.1, e0, psh_some, Int.toNat_natCast, Int.natCast_nonneg, true_and, and_true, and_self, if_true, if_false, or_true, true_or, or_false, false_or, ne_eq, not_true_eq_false, not_false_eq_true, Nat.reduceLeDiff, Nat.reduceEqDiff, Nat.reduceLT, Nat.reduceAdd, Nat.reduceMul, Nat.reduceSub, Int.reduceLT, Int.reduceLE, Int.reduceEq, Int.reduceToNat, Int.reduceAdd, Int.reduceSub, Int.reduceMul, Int.reduceNeg, Int.cast_ofNat_Int, false_and, and_false]
      refine N_fails x3 (by decide) (fun h4 x4 f4 => ?_)
      simp only [psh_none]
      exact mid h4 (by rw [mv_e0 c2]; exact x4) f4
  · have c1 := eq_false c
    obtain ⟨p1, p2⟩ := poAns_n c
    rw [p1, p2] at k
    simp only [rX12_pool_0, rX12_pool_1, rX12_pool_2, rX12_pool_5, rX12_pool_6, rX12_pool_7, rX12_pool_8, rX12_pool_9, rX12_pool_12, rX12_pool_13, rX12_pool_16, rX12_pool_19, rX12_pool_21, Md_K280 md, hK_wI, hI_wI, hR_wI, n5, S_within, c1, psh_some, Int.toNat_natCast, Int.natCast_nonneg, true_and, and_true, and_self, if_true, if_false, or_true, true_or, or_false, false_or, ne_eq, not_true_eq_false, not_false_eq_true, Nat.reduceLeDiff, Nat.reduceEqDiff, Nat.reduceLT, Nat.reduceAdd, Nat.reduceMul, Nat.reduceSub, Int.reduceLT, Int.reduceLE, Int.reduceEq, Int.reduceToNat, Int.reduceAdd, Int.reduceSub, Int.reduceMul, Int.reduceNeg, Int.cast_ofNat_Int, false_and, and_false]
    have nk : ∀ a i, (a ≠ 294 ∨ i ≠ 0) → hI (wI h 294 0 0) a i = hI h a i := fun a i q => by
      rw [hI_wI, if_neg]
      rintro ⟨q1, q2⟩
      rcases q with q | q
      · exact q q1
      · exact q q2
    exact k _ ⟨md.fr f0, fun i hi => (nk 295 i (Or.inl (by decide))).trans (at' i hi), fun i hi => (nk 296 i (Or.inl (by decide))).trans (im i hi), (nk 294 5 (Or.inr (by decide))).trans n5, fun i hi => (nk 297 i (Or.inl (by decide))).trans (tp i hi), (nk 294 13 (Or.inr (by decide))).trans n13, (nk 294 14 (Or.inr (by decide))).trans n14, fun i hi => ⟨(nk 311 i (Or.inl (by decide))).trans (so i hi).1, (nk 312 i (Or.inl (by decide))).trans (so i hi).2⟩, fun i hi => (f0.J (by unfold RP; omega)).trans (bl i hi)⟩ (f0.mono RP_rf)
