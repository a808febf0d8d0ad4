/-! rows of deeds -/
def rowD (A f : Nat → Int) : Nat → Nat → (Nat → Int) → Nat × (Nat → Int) × Int
  | 0, i, B => (i, B, 0)
  | n + 1, i, B => if whyD A B (f i) = 0 then rowD A f n (i + 1) (doD A B (f i)) else (i, B, whyD A B (f i))
theorem rowD_ok {A f : Nat → Int} (po : poolOk A) : ∀ (n i : Nat) (B : Nat → Int), stOk B → stOk (rowD A f n i B).2.1 ∧ i ≤ (rowD A f n i B).1 ∧ (rowD A f n i B).1 ≤ i + n ∧ ((rowD A f n i B).1 = i → (rowD A f n i B).2.1 = B) ∧ ((rowD A f n i B).1 = i + n → (rowD A f n i B).2.2 = 0) ∧ ((rowD A f n i B).1 < i + n → (rowD A f n i B).2.2 = whyD A (rowD A f n i B).2.1 (f (rowD A f n i B).1) ∧ (rowD A f n i B).2.2 ≠ 0) := by
  intro n
  induction n with
  | zero => intro i B so; exact ⟨so, Nat.le_refl _, Nat.le_refl _, fun _ => rfl, fun _ => rfl, fun h => absurd h (by simp [rowD])⟩
  | succ n ih =>
    intro i B so
    unfold rowD
    by_cases hw : whyD A B (f i) = 0
    · rw [if_pos hw]
      obtain ⟨a1, a2, a3, a4, a5, a6⟩ := ih (i + 1) (doD A B (f i)) (doD_ok po so hw)
      refine ⟨a1, by omega, by omega, fun h => by omega, fun h => a5 (by omega), fun h => a6 (by omega)⟩
    · rw [if_neg hw]
      exact ⟨so, Nat.le_refl _, by show i ≤ i + (n + 1); omega, fun _ => rfl, fun h => by have : i = i + (n + 1) := h; omega, fun _ => ⟨rfl, hw⟩⟩
theorem S_actAll {d : Nat} {Q : Option PV → Hp → Prop} {h0 : Hp} {A : Nat → Int} {s tr N : Nat} {f : Nat → Int} (x0 : CpF h0 A) (hs : s = 214 ∨ s = 217) (ht : 263 ≤ tr ∧ tr ≤ 269) (k1 : hK h0 tr = (10, 0)) (r1 : hR h0 tr 0 = tr + 1) (k2 : hK h0 (tr + 1) = (22, 40)) (hN' : hI h0 tr 3 = (N : Int)) (hN4 : N ≤ 40) (hf : ∀ i, i < N → hJ h0 (tr + 1) i = f i) {r : Nat × (Nat → Int) × Int}
    (k : ∀ h', Fp (aPs s) h0 h' → StIs h' s r.2.1 → Q (some (.inl (r.1 : Int))) h') :
    ∀ (n i : Nat) (h : Hp) (B : Nat → Int), i + n = N → Fp (aPs s) h0 h → StIs h s B → stOk B → rowD A f n i B = r → WP (d + 6) mX11_actAll 2 [some (.inr (.inr 200)), some (.inr (.inr s)), some (.inr (.inr tr)), some (.inl (i : Int))] [] h Q := by
  have hsc : ∀ a k, aPs s a k → stc a := fun a k q => by unfold aPs at q; unfold stc; omega
  intro n
  induction n with
  | zero =>
    intro i h B hi fr st ok hr
    have e3 : hI h tr 3 = (N : Int) := by rw [fr.I (by unfold aPs; omega)]; exact hN'
    have e1 : hK h tr = (10, 0) := by rw [fr.K]; exact k1
    have hiN : (i : Int) = (N : Int) := by omega
    simp only [rX11_actAll_2, rX11_actAll_3, rX11_actAll_4, rX11_actAll_7, e1, e3, hiN, Int.lt_irrefl, Int.toNat_natCast, Int.natCast_nonneg, true_and, and_true, and_self, if_true, if_false, or_true, true_or, or_false, false_or, ne_eq, not_true_eq_false, not_false_eq_true, Nat.reduceLeDiff, Nat.reduceEqDiff, Nat.reduceLT, Nat.reduceAdd, Nat.reduceMul, Nat.reduceSub, Int.reduceLT, Int.reduceLE, Int.reduceEq, Int.reduceToNat, Int.reduceAdd, Int.reduceSub, Int.reduceMul, Int.reduceNeg, Int.cast_ofNat_Int, false_and, and_false]
    simp only [rX11_actAll_32, rX11_actAll_33, rX11_actAll_36, e1, e3, Int.toNat_natCast, Int.natCast_nonneg, true_and, and_true, and_self, if_true, if_false, or_true, true_or, or_false, false_or, ne_eq, not_true_eq_false, not_false_eq_true, Nat.reduceLeDiff, Nat.reduceEqDiff, Nat.reduceLT, Nat.reduceAdd, Nat.reduceMul, Nat.reduceSub, Int.reduceLT, Int.reduceLE, Int.reduceEq, Int.reduceToNat, Int.reduceAdd, Int.reduceSub, Int.reduceMul, Int.reduceNeg, Int.cast_ofNat_Int, false_and, and_false]
    have k0 := k h fr
    rw [← hr] at k0
    unfold rowD at k0
    rw [← hiN]
    exact k0 st
  | succ n ih =>
    intro i h B hi fr st ok hr
    have c := x0.fr fr hsc
    have e3 : hI h tr 3 = (N : Int) := by rw [fr.I (by unfold aPs; omega)]; exact hN'
    have e1 : hK h tr = (10, 0) := by rw [fr.K]; exact k1
    have e2 : hR h tr 0 = tr + 1 := by rw [fr.R]; exact r1
    have e4 : hK h (tr + 1) = (22, 40) := by rw [fr.K]; exact k2
    have e5 : hJ h (tr + 1) i = f i := by rw [fr.J (by unfold aPs; omega)]; exact hf i (by omega)
    have l1 : (i : Int) < (N : Int) := by omega
    have l2 : (i : Int) < 40 := by omega
    rw [rX11_actAll_2]
    simp only [rX11_actAll_3, rX11_actAll_4, rX11_actAll_7, rX11_actAll_10, rX11_actAll_11, rX11_actAll_12, rX11_actAll_13, rX11_actAll_16, rX11_actAll_17, rX11_actAll_18, e1, e2, e3, e4, e5, l1, l2, Cs_K200 c.1, Int.toNat_natCast, Int.natCast_nonneg, true_and, and_true, and_self, if_true, if_false, or_true, true_or, or_false, false_or, ne_eq, not_true_eq_false, not_false_eq_true, Nat.reduceLeDiff, Nat.reduceEqDiff, Nat.reduceLT, Nat.reduceAdd, Nat.reduceMul, Nat.reduceSub, Int.reduceLT, Int.reduceLE, Int.reduceEq, Int.reduceToNat, Int.reduceAdd, Int.reduceSub, Int.reduceMul, Int.reduceNeg, Int.cast_ofNat_Int, false_and, and_false]
    refine S_act c hs st ok ?_
    intro h1 f1 s1
    unfold rowD at hr
    simp only [psh_some, rX11_actAll_21]
    by_cases hw : whyD A B (f i) = 0
    · rw [if_pos hw] at hr s1 ⊢
      simp only [rX11_actAll_26, rX11_actAll_29, w32_s (i := i) (by omega)]
      exact ih (i + 1) h1 _ (by omega) (fr.trans f1) s1 (doD_ok x0.2.2.2 ok hw) hr
    · rw [if_neg hw] at hr s1 ⊢
      simp only [rX11_actAll_24, rX11_actAll_25]
      have k0 := k h1 (fr.trans f1)
      rw [← hr] at k0
      exact k0 s1
theorem whyD_rng {A B : Nat → Int} {v : Int} (rng : whyD A B v = 0) : 0 ≤ v ∧ v ≤ 3099 := by
  unfold whyD at rng
  by_cases h1 : 0 ≤ v ∧ v ≤ 9
  · omega
  rw [if_neg h1] at rng
  by_cases h2 : 1000 ≤ v ∧ v ≤ 1999
  · omega
  rw [if_neg h2] at rng
  by_cases h3 : 2000 ≤ v ∧ v ≤ 2009
  · omega
  rw [if_neg h3] at rng
  by_cases h4 : 3000 ≤ v ∧ v ≤ 3099
  · omega
  rw [if_neg h4] at rng
  exact absurd rng (by decide)
theorem S_toldRow {d : Nat} {Q : Option PV → Hp → Prop} {h0 : Hp} {A : Nat → Int} {t N : Nat} {f : Nat → Int} (ht : t < 4) (hN' : hI h0 312 t = (N : Int)) (hN4 : N ≤ 40) (hf : ∀ i, i < N → hJ h0 313 (40 * t + i) = f i) {r : Nat × (Nat → Int) × Int}
    (k : ∀ h', Fp (fun a k => zP a k ∨ (a = 294 ∧ k = 22)) h0 h' → RS h' A r.2.1 → hI h' 294 22 = r.2.2 → Q (some (.inl (r.1 : Int))) h') :
    ∀ (n i : Nat) (h : Hp) (B : Nat → Int), i + n = N → Fp (fun a k => zP a k ∨ (a = 294 ∧ k = 22)) h0 h → RS h A B → hI h 294 22 = 0 → rowD A f n i B = r → WP (d + 7) mX12_toldRow 7 [some (.inr (.inr 294)), some (.inl (t : Int)), some (.inl (i : Int))] [] h Q := by
  intro n
  induction n with
  | zero =>
    intro i h B hi fr rs hy hr
    have m := rs.1
    have e3 : hI h 312 t = (N : Int) := by rw [fr.I (by unfold zP lP; omega)]; exact hN'
    have hiN : (i : Int) = (N : Int) := by omega
    simp only [rX12_toldRow_7, rX12_toldRow_8, rX12_toldRow_9, rX12_toldRow_12, rX12_toldRow_13, rX12_toldRow_14, Md_K280 m, Md_R281 m, Md_K281 m, Md_R282 m, Md_K282 m, Md_R283 m, Md_K283 m, Md_R284 m, Md_K284 m, Md_R285 m, Md_K285 m, Md_R286 m, Md_K286 m, Md_R287 m, Md_K287 m, Md_R288 m, Md_K288 m, Md_R289 m, Md_K289 m, Md_R290 m, Md_K290 m, Md_R291 m, Md_K291 m, Md_R292 m, Md_K292 m, Md_R293 m, Md_K293 m, Md_R294 m, Md_K294 m, Md_R295 m, Md_K295 m, Md_R296 m, Md_K296 m, Md_R297 m, Md_K297 m, Md_R298 m, Md_K298 m, Md_R299 m, Md_K299 m, e3, hiN, Int.lt_irrefl, Int.toNat_natCast, Int.natCast_nonneg, true_and, and_true, and_self, if_true, if_false, or_true, true_or, or_false, false_or, ne_eq, not_true_eq_false, not_false_eq_true, Nat.reduceLeDiff, Nat.reduceEqDiff, Nat.reduceLT, Nat.reduceAdd, Nat.reduceMul, Nat.reduceSub, Int.reduceLT, Int.reduceLE, Int.reduceEq, Int.reduceToNat, Int.reduceAdd, Int.reduceSub, Int.reduceMul, Int.reduceNeg, Int.cast_ofNat_Int, false_and, and_false, show (t : Int) < 4 by omega]
    simp only [rX12_toldRow_67, rX12_toldRow_68, rX12_toldRow_71, rX12_toldRow_72, rX12_toldRow_73, Md_K280 m, Md_R281 m, Md_K281 m, Md_R282 m, Md_K282 m, Md_R283 m, Md_K283 m, Md_R284 m, Md_K284 m, Md_R285 m, Md_K285 m, Md_R286 m, Md_K286 m, Md_R287 m, Md_K287 m, Md_R288 m, Md_K288 m, Md_R289 m, Md_K289 m, Md_R290 m, Md_K290 m, Md_R291 m, Md_K291 m, Md_R292 m, Md_K292 m, Md_R293 m, Md_K293 m, Md_R294 m, Md_K294 m, Md_R295 m, Md_K295 m, Md_R296 m, Md_K296 m, Md_R297 m, Md_K297 m, Md_R298 m, Md_K298 m, Md_R299 m, Md_K299 m, e3, Int.toNat_natCast, Int.natCast_nonneg, true_and, and_true, and_self, if_true, if_false, or_true, true_or, or_false, false_or, ne_eq, not_true_eq_false, not_false_eq_true, Nat.reduceLeDiff, Nat.reduceEqDiff, Nat.reduceLT, Nat.reduceAdd, Nat.reduceMul, Nat.reduceSub, Int.reduceLT, Int.reduceLE, Int.reduceEq, Int.reduceToNat, Int.reduceAdd, Int.reduceSub, Int.reduceMul, Int.reduceNeg, Int.cast_ofNat_Int, false_and, and_false, show (t : Int) < 4 by omega]
    have k0 := k h fr
    rw [← hr] at k0
    unfold rowD at k0
    rw [← hiN]
    exact k0 rs hy
  | succ n ih =>
    intro i h B hi fr rs hy hr
    have m := rs.1
    have l1 : (i : Int) < (N : Int) := by omega
    have l2 : w32 (40 * (t : Int)) = ((40 * t : Nat) : Int) := by rw [w32_i (by omega) (by omega)]; omega
    have l3 : w32 (((40 * t : Nat) : Int) + (i : Int)) = ((40 * t + i : Nat) : Int) := w32_ll (by omega)
    have l4 : ((40 * t + i : Nat) : Int) < 160 := by omega
    have l5 : (t : Int) < 4 := by omega
    have l8 : w32 ((i : Int) + 1) = ((i + 1 : Nat) : Int) := w32_s (by omega)
    have l9 : (i + 1) + n = N := by omega
    have e3 : hI h 312 t = (N : Int) := by rw [fr.I (by unfold zP lP; omega)]; exact hN'
    have e5 : hJ h 313 (40 * t + i) = f i := by rw [fr.J (by unfold zP lP; omega)]; exact hf i (by omega)
    rw [rX12_toldRow_7]
    simp only [rX12_toldRow_8, rX12_toldRow_9, rX12_toldRow_12, rX12_toldRow_13, rX12_toldRow_14, rX12_toldRow_17, rX12_toldRow_18, rX12_toldRow_19, rX12_toldRow_20, rX12_toldRow_23, rX12_toldRow_25, rX12_toldRow_26, rX12_toldRow_27, rX12_toldRow_28, rX12_toldRow_29, rX12_toldRow_30, Md_K280 m, Md_R281 m, Md_K281 m, Md_R282 m, Md_K282 m, Md_R283 m, Md_K283 m, Md_R284 m, Md_K284 m, Md_R285 m, Md_K285 m, Md_R286 m, Md_K286 m, Md_R287 m, Md_K287 m, Md_R288 m, Md_K288 m, Md_R289 m, Md_K289 m, Md_R290 m, Md_K290 m, Md_R291 m, Md_K291 m, Md_R292 m, Md_K292 m, Md_R293 m, Md_K293 m, Md_R294 m, Md_K294 m, Md_R295 m, Md_K295 m, Md_R296 m, Md_K296 m, Md_R297 m, Md_K297 m, Md_R298 m, Md_K298 m, Md_R299 m, Md_K299 m, e3, e5, l1, l2, l3, l4, l5, Int.toNat_natCast, Int.natCast_nonneg, true_and, and_true, and_self, if_true, if_false, or_true, true_or, or_false, false_or, ne_eq, not_true_eq_false, not_false_eq_true, Nat.reduceLeDiff, Nat.reduceEqDiff, Nat.reduceLT, Nat.reduceAdd, Nat.reduceMul, Nat.reduceSub, Int.reduceLT, Int.reduceLE, Int.reduceEq, Int.reduceToNat, Int.reduceAdd, Int.reduceSub, Int.reduceMul, Int.reduceNeg, Int.cast_ofNat_Int, false_and, and_false]
    refine S_whyNot (d := d + 1) rs ?_
    intro h1 f1
    have rs1 := rs.fr f1
    have m1 := rs1.1
    unfold rowD at hr
    simp only [psh_some, rX12_toldRow_33, rX12_toldRow_36, rX12_toldRow_37, rX12_toldRow_40, hN_wI, hN_wJ, hN_wR, hS_wI, hS_wJ, hS_wR, hK_wI, hK_wJ, hK_wR, hI_wI, hI_wJ, hI_wR, hJ_wI, hJ_wJ, hJ_wR, hR_wI, hR_wJ, hR_wR, hN_nw, hS_nw, hK_nw, hI_nw, hJ_nw, hR_nw, psh_some, psh_none, Md_K280 m1, Md_R281 m1, Md_K281 m1, Md_R282 m1, Md_K282 m1, Md_R283 m1, Md_K283 m1, Md_R284 m1, Md_K284 m1, Md_R285 m1, Md_K285 m1, Md_R286 m1, Md_K286 m1, Md_R287 m1, Md_K287 m1, Md_R288 m1, Md_K288 m1, Md_R289 m1, Md_K289 m1, Md_R290 m1, Md_K290 m1, Md_R291 m1, Md_K291 m1, Md_R292 m1, Md_K292 m1, Md_R293 m1, Md_K293 m1, Md_R294 m1, Md_K294 m1, Md_R295 m1, Md_K295 m1, Md_R296 m1, Md_K296 m1, Md_R297 m1, Md_K297 m1, Md_R298 m1, Md_K298 m1, Md_R299 m1, Md_K299 m1, Int.toNat_natCast, Int.natCast_nonneg, true_and, and_true, and_self, if_true, if_false, or_true, true_or, or_false, false_or, ne_eq, not_true_eq_false, not_false_eq_true, Nat.reduceLeDiff, Nat.reduceEqDiff, Nat.reduceLT, Nat.reduceAdd, Nat.reduceMul, Nat.reduceSub, Int.reduceLT, Int.reduceLE, Int.reduceEq, Int.reduceToNat, Int.reduceAdd, Int.reduceSub, Int.reduceMul, Int.reduceNeg, Int.cast_ofNat_Int, false_and, and_false]
    have f2 : Fp (fun a k => zP a k ∨ (a = 294 ∧ k = 22)) h0 (wI h1 294 22 (whyD A B (f i))) := (fr.trans (f1.mono (fun a k q => Or.inl (lP_z q)))).wI (Or.inr ⟨rfl, rfl⟩) _
    have rs2 : RS (wI h1 294 22 (whyD A B (f i))) A B := ⟨m1.fr (Fp.wI (Fp.refl (fun _ _ => True) h1) (a := 294) (k := 22) trivial _), fun j hj => by rw [hI_wI, if_neg (by omega)]; exact rs1.2.1 j hj, rs1.2.2⟩
    by_cases hw : whyD A B (f i) = 0
    · rw [if_pos hw] at hr ⊢
      have m2 := rs2.1
      have e6 : hJ (wI h1 294 22 (whyD A B (f i))) 313 (40 * t + i) = f i := by
        rw [hJ_wI, f1.J (by unfold lP; simp)]; exact e5
      have hv := whyD_rng hw
      have l6 : w32 (f i) = f i := w32_i (Int.le_trans (by decide) hv.1) (Int.lt_of_le_of_lt hv.2 (by decide))
      simp only [rX12_toldRow_45, rX12_toldRow_46, rX12_toldRow_47, rX12_toldRow_50, rX12_toldRow_52, rX12_toldRow_53, rX12_toldRow_54, rX12_toldRow_55, rX12_toldRow_56, rX12_toldRow_57, rX12_toldRow_58, Md_K280 m2, Md_R281 m2, Md_K281 m2, Md_R282 m2, Md_K282 m2, Md_R283 m2, Md_K283 m2, Md_R284 m2, Md_K284 m2, Md_R285 m2, Md_K285 m2, Md_R286 m2, Md_K286 m2, Md_R287 m2, Md_K287 m2, Md_R288 m2, Md_K288 m2, Md_R289 m2, Md_K289 m2, Md_R290 m2, Md_K290 m2, Md_R291 m2, Md_K291 m2, Md_R292 m2, Md_K292 m2, Md_R293 m2, Md_K293 m2, Md_R294 m2, Md_K294 m2, Md_R295 m2, Md_K295 m2, Md_R296 m2, Md_K296 m2, Md_R297 m2, Md_K297 m2, Md_R298 m2, Md_K298 m2, Md_R299 m2, Md_K299 m2, Int.toNat_natCast, Int.natCast_nonneg, true_and, and_true, and_self, if_true, if_false, or_true, true_or, or_false, false_or, ne_eq, not_true_eq_false, not_false_eq_true, Nat.reduceLeDiff, Nat.reduceEqDiff, Nat.reduceLT, Nat.reduceAdd, Nat.reduceMul, Nat.reduceSub, Int.reduceLT, Int.reduceLE, Int.reduceEq, Int.reduceToNat, Int.reduceAdd, Int.reduceSub, Int.reduceMul, Int.reduceNeg, Int.cast_ofNat_Int, false_and, and_false, l2, l3, l4, e6, l6]
      refine S_does rs2 hw ?_
      intro h3 f3 rs3
      simp only [psh_none, rX12_toldRow_61, rX12_toldRow_64, l8]
      exact ih (i + 1) h3 _ l9 (f2.trans (f3.mono (fun a k q => Or.inl q))) rs3 (by rw [f3.I (by unfold zP lP; omega), hI_wI, if_pos ⟨rfl, rfl⟩]; exact hw) hr
    · rw [if_neg hw] at hr ⊢
      simp only [rX12_toldRow_43, rX12_toldRow_44]
      have k0 := k _ f2
      rw [← hr] at k0
      exact k0 rs2 (by rw [hI_wI, if_pos ⟨rfl, rfl⟩])
def rwS (σ : AS) (t : Nat) : Nat × (Nat → Int) × Int := rowD (sA σ) (fun k => sB σ (40 * t + k)) (sM σ t).toNat 0 (stA (sA σ))
def jdV (σ : AS) (t wh : Int) : Int := if 0 ≤ wh ∧ wh ≤ 3 then (if noT σ t = 0 then (if wh = 0 then (if (rwS σ t.toNat).2.2 = 0 then -1 else ((rwS σ t.toNat).1 : Int)) else if wh = 1 then (rwS σ t.toNat).2.2 else if wh = 2 then (rwS σ t.toNat).2.1 1 else (rwS σ t.toNat).2.1 0) else noT σ t) else -2
theorem noT_go {σ : AS} {t : Int} (h : noT σ t = 0) : (0 ≤ t ∧ t < 4) ∧ sSo σ t.toNat ≠ -1 := by
  unfold noT at h
  by_cases q : 0 ≤ t ∧ t < 4
  · rw [if_pos q] at h
    by_cases q2 : sSo σ t.toNat = -1
    · rw [if_pos q2] at h; exact absurd h (by decide)
    · exact ⟨q, q2⟩
  · rw [if_neg q] at h; exact absurd h (by decide)
theorem putS_self (A : Nat → Int) : putS A (stA A) = A := by
  funext k
  unfold putS stA
  split
  · rename_i h; rw [show 33 + (k - 33) = k by omega]
  · rfl
set_option maxHeartbeats 1000000 in
theorem R_judge {d : Nat} {σ : AS} {t wh : Int} : RSpec (d + 8) mX12_judge [some (.inr (.inr 294)), some (.inl t), some (.inl wh), none, none, none, none] σ (.inl (jdV σ t wh)) σ := by
  refine RSpec5.of ?_ (fun h Q hk => by simp only [rX12_judge_0, rX12_judge_1, rX12_judge_2, hk, Int.toNat_natCast, Int.natCast_nonneg, true_and, and_true, and_self, if_true, if_false, or_true, true_or, or_false, false_or, ne_eq, not_true_eq_false, not_false_eq_true, Nat.reduceLeDiff, Nat.reduceEqDiff, Nat.reduceLT, Nat.reduceAdd, Nat.reduceMul, Nat.reduceSub, Int.reduceLT, Int.reduceLE, Int.reduceEq, Int.reduceToNat, Int.reduceAdd, Int.reduceSub, Int.reduceMul, Int.reduceNeg, Int.cast_ofNat_Int, false_and, and_false])
  intro h Q x w k
  have m := x.1
  have rs := x.rs w
  unfold jdV at k
  simp only [rX12_judge_5, rX12_judge_6, rX12_judge_7, rX12_judge_8, rX12_judge_11, rX12_judge_14, rX12_judge_17, rX12_judge_19, S_within, psh_some]
  by_cases h1 : 0 ≤ wh ∧ wh ≤ 3
  · rw [if_pos h1, if_neg (by decide)]
    simp only [if_pos h1] at k
    simp only [rX12_judge_20, rX12_judge_21, rX12_judge_22, rX12_judge_25, rX12_judge_26, rX12_judge_27, rX12_judge_30, rX12_judge_31, Md_K280 m, Md_R281 m, Md_K281 m, Md_R282 m, Md_K282 m, Md_R283 m, Md_K283 m, Md_R284 m, Md_K284 m, Md_R285 m, Md_K285 m, Md_R286 m, Md_K286 m, Md_R287 m, Md_K287 m, Md_R288 m, Md_K288 m, Md_R289 m, Md_K289 m, Md_R290 m, Md_K290 m, Md_R291 m, Md_K291 m, Md_R292 m, Md_K292 m, Md_R293 m, Md_K293 m, Md_R294 m, Md_K294 m, Md_R295 m, Md_K295 m, Md_R296 m, Md_K296 m, Md_R297 m, Md_K297 m, Md_R298 m, Md_K298 m, Md_R299 m, Md_K299 m, Int.toNat_natCast, Int.natCast_nonneg, true_and, and_true, and_self, if_true, if_false, or_true, true_or, or_false, false_or, ne_eq, not_true_eq_false, not_false_eq_true, Nat.reduceLeDiff, Nat.reduceEqDiff, Nat.reduceLT, Nat.reduceAdd, Nat.reduceMul, Nat.reduceSub, Int.reduceLT, Int.reduceLE, Int.reduceEq, Int.reduceToNat, Int.reduceAdd, Int.reduceSub, Int.reduceMul, Int.reduceNeg, Int.cast_ofNat_Int, false_and, and_false, S_noTray x, psh_some]
    by_cases h2 : noT σ t = 0
    · simp only [if_pos h2] at k ⊢
      obtain ⟨q1, q2⟩ := noT_go h2
      obtain ⟨j, rfl⟩ := Int.eq_ofNat_of_zero_le q1.1
      simp only [Int.toNat_natCast] at k
      have j4 : j < 4 := by omega
      have hm := (w.2.2.2.2.2.2.2.2 j j4).2.2
      have e2 := (x.2.2.2.2.2.2.2.1 j j4).2
      simp only [rX12_judge_32, rX12_judge_33, Md_K280 m, Md_R281 m, Md_K281 m, Md_R282 m, Md_K282 m, Md_R283 m, Md_K283 m, Md_R284 m, Md_K284 m, Md_R285 m, Md_K285 m, Md_R286 m, Md_K286 m, Md_R287 m, Md_K287 m, Md_R288 m, Md_K288 m, Md_R289 m, Md_K289 m, Md_R290 m, Md_K290 m, Md_R291 m, Md_K291 m, Md_R292 m, Md_K292 m, Md_R293 m, Md_K293 m, Md_R294 m, Md_K294 m, Md_R295 m, Md_K295 m, Md_R296 m, Md_K296 m, Md_R297 m, Md_K297 m, Md_R298 m, Md_K298 m, Md_R299 m, Md_K299 m, Int.toNat_natCast, Int.natCast_nonneg, true_and, and_true, and_self, if_true, if_false, or_true, true_or, or_false, false_or, ne_eq, not_true_eq_false, not_false_eq_true, Nat.reduceLeDiff, Nat.reduceEqDiff, Nat.reduceLT, Nat.reduceAdd, Nat.reduceMul, Nat.reduceSub, Int.reduceLT, Int.reduceLE, Int.reduceEq, Int.reduceToNat, Int.reduceAdd, Int.reduceSub, Int.reduceMul, Int.reduceNeg, Int.cast_ofNat_Int, false_and, and_false]
      refine S_keeps rs ?_
      intro h1' f1 e1
      have rs1 := rs.ke f1
      have m1 := rs1.1
      simp only [psh_none, rX12_judge_36, rX12_judge_37, rX12_judge_38, rX12_toldRow_0, rX12_toldRow_1, rX12_toldRow_2, rX12_toldRow_5, rX12_toldRow_6, hN_wI, hN_wJ, hN_wR, hS_wI, hS_wJ, hS_wR, hK_wI, hK_wJ, hK_wR, hI_wI, hI_wJ, hI_wR, hJ_wI, hJ_wJ, hJ_wR, hR_wI, hR_wJ, hR_wR, hN_nw, hS_nw, hK_nw, hI_nw, hJ_nw, hR_nw, psh_some, psh_none, Md_K280 m1, Md_R281 m1, Md_K281 m1, Md_R282 m1, Md_K282 m1, Md_R283 m1, Md_K283 m1, Md_R284 m1, Md_K284 m1, Md_R285 m1, Md_K285 m1, Md_R286 m1, Md_K286 m1, Md_R287 m1, Md_K287 m1, Md_R288 m1, Md_K288 m1, Md_R289 m1, Md_K289 m1, Md_R290 m1, Md_K290 m1, Md_R291 m1, Md_K291 m1, Md_R292 m1, Md_K292 m1, Md_R293 m1, Md_K293 m1, Md_R294 m1, Md_K294 m1, Md_R295 m1, Md_K295 m1, Md_R296 m1, Md_K296 m1, Md_R297 m1, Md_K297 m1, Md_R298 m1, Md_K298 m1, Md_R299 m1, Md_K299 m1, Int.toNat_natCast, Int.natCast_nonneg, true_and, and_true, and_self, if_true, if_false, or_true, true_or, or_false, false_or, ne_eq, not_true_eq_false, not_false_eq_true, Nat.reduceLeDiff, Nat.reduceEqDiff, Nat.reduceLT, Nat.reduceAdd, Nat.reduceMul, Nat.reduceSub, Int.reduceLT, Int.reduceLE, Int.reduceEq, Int.reduceToNat, Int.reduceAdd, Int.reduceSub, Int.reduceMul, Int.reduceNeg, Int.cast_ofNat_Int, false_and, and_false]
      have f2 : Fp (fun a k => zP a k ∨ (a = 294 ∧ k = 22)) h1' (wI h1' 294 22 0) := (Fp.refl (fun a k => zP a k ∨ (a = 294 ∧ k = 22)) h1').wI (Or.inr ⟨rfl, rfl⟩) _
      have rs2 : RS (wI h1' 294 22 0) (sA σ) (stA (sA σ)) := ⟨m1.fr f2, fun q hq => by rw [hI_wI, if_neg (by omega)]; exact rs1.2.1 q hq, rs1.2.2⟩
      refine S_toldRow (h0 := h1') (N := (sM σ j).toNat) (f := fun k => sB σ (40 * j + k)) (r := rwS σ j) j4 (by rw [f1.I (by unfold keP; omega), e2]; omega) (by omega) (fun i hi => by rw [f1.J (by unfold keP; omega)]; exact x.2.2.2.2.2.2.2.2 _ (by omega)) ?_ _ 0 _ _ (Nat.zero_add _) f2 rs2 (by rw [hI_wI, if_pos ⟨rfl, rfl⟩]) rfl
      intro h3 f3 rs3 y3
      have m3 := rs3.1
      have b1 := rs3.b (k := 1) (by omega)
      have b0 := rs3.b (k := 0) (by omega)
      simp only [psh_some, rX12_judge_41, rX12_judge_43, rX12_judge_44, rX12_judge_47, rX12_judge_49, rX12_judge_50, rX12_judge_52, rX12_judge_53, rX12_judge_56, rX12_judge_58, rX12_judge_59, rX12_judge_61, rX12_judge_62, Md_K280 m3, Md_R281 m3, Md_K281 m3, Md_R282 m3, Md_K282 m3, Md_R283 m3, Md_K283 m3, Md_R284 m3, Md_K284 m3, Md_R285 m3, Md_K285 m3, Md_R286 m3, Md_K286 m3, Md_R287 m3, Md_K287 m3, Md_R288 m3, Md_K288 m3, Md_R289 m3, Md_K289 m3, Md_R290 m3, Md_K290 m3, Md_R291 m3, Md_K291 m3, Md_R292 m3, Md_K292 m3, Md_R293 m3, Md_K293 m3, Md_R294 m3, Md_K294 m3, Md_R295 m3, Md_K295 m3, Md_R296 m3, Md_K296 m3, Md_R297 m3, Md_K297 m3, Md_R298 m3, Md_K298 m3, Md_R299 m3, Md_K299 m3, Int.toNat_natCast, Int.natCast_nonneg, true_and, and_true, and_self, if_true, if_false, or_true, true_or, or_false, false_or, ne_eq, not_true_eq_false, not_false_eq_true, Nat.reduceLeDiff, Nat.reduceEqDiff, Nat.reduceLT, Nat.reduceAdd, Nat.reduceMul, Nat.reduceSub, Int.reduceLT, Int.reduceLE, Int.reduceEq, Int.reduceToNat, Int.reduceAdd, Int.reduceSub, Int.reduceMul, Int.reduceNeg, Int.cast_ofNat_Int, false_and, and_false, b1, b0]
      refine S_isAgain rs3 (W := stA (sA σ)) (fun q hq => by rw [f3.I (by unfold zP lP; omega)]; exact e1 q hq) ?_
      intro h4 f4 a4
      have m4 := m3.fr f4
      have y4 : hI h4 294 22 = (rwS σ j).2.2 := by rw [f4.I (by omega)]; exact y3
      have fq : Fp qP h h4 := ((f1.mono (fun a k q => keP_q q)).trans (f3.mono (fun a k q => by unfold zP lP at q; unfold qP uP; omega))).trans (f4.mono (fun a k q => by unfold qP; omega))
      have x4 : RRep h4 σ := by
        have := x.a fq a4
        rw [putS_self] at this
        exact this
      have k0 := k h4 x4 (fq.mono (fun a k q => qP_r q))
      simp only [psh_none, rX12_judge_65, rX12_judge_66]
      by_cases w0 : wh = 0
      · rw [if_pos w0] at k0 ⊢
        simp only [rX12_judge_69, rX12_judge_70, rX12_judge_73, rX12_judge_76, rX12_judge_77, rX12_judge_80, rX12_judge_82, rX12_judge_109, Md_K280 m4, Md_R281 m4, Md_K281 m4, Md_R282 m4, Md_K282 m4, Md_R283 m4, Md_K283 m4, Md_R284 m4, Md_K284 m4, Md_R285 m4, Md_K285 m4, Md_R286 m4, Md_K286 m4, Md_R287 m4, Md_K287 m4, Md_R288 m4, Md_K288 m4, Md_R289 m4, Md_K289 m4, Md_R290 m4, Md_K290 m4, Md_R291 m4, Md_K291 m4, Md_R292 m4, Md_K292 m4, Md_R293 m4, Md_K293 m4, Md_R294 m4, Md_K294 m4, Md_R295 m4, Md_K295 m4, Md_R296 m4, Md_K296 m4, Md_R297 m4, Md_K297 m4, Md_R298 m4, Md_K298 m4, Md_R299 m4, Md_K299 m4, Int.toNat_natCast, Int.natCast_nonneg, true_and, and_true, and_self, if_true, if_false, or_true, true_or, or_false, false_or, ne_eq, not_true_eq_false, not_false_eq_true, Nat.reduceLeDiff, Nat.reduceEqDiff, Nat.reduceLT, Nat.reduceAdd, Nat.reduceMul, Nat.reduceSub, Int.reduceLT, Int.reduceLE, Int.reduceEq, Int.reduceToNat, Int.reduceAdd, Int.reduceSub, Int.reduceMul, Int.reduceNeg, Int.cast_ofNat_Int, false_and, and_false, y4]
        by_cases w1 : (rwS σ j).2.2 = 0
        · rw [if_pos w1] at k0 ⊢; exact k0
        · rw [if_neg w1] at k0 ⊢; exact k0
      rw [if_neg w0] at k0 ⊢
      simp only [rX12_judge_85, rX12_judge_86, rX12_judge_87]
      by_cases w1 : wh = 1
      · rw [if_pos w1] at k0 ⊢
        simp only [rX12_judge_90, rX12_judge_91, rX12_judge_94, rX12_judge_109, Md_K280 m4, Md_R281 m4, Md_K281 m4, Md_R282 m4, Md_K282 m4, Md_R283 m4, Md_K283 m4, Md_R284 m4, Md_K284 m4, Md_R285 m4, Md_K285 m4, Md_R286 m4, Md_K286 m4, Md_R287 m4, Md_K287 m4, Md_R288 m4, Md_K288 m4, Md_R289 m4, Md_K289 m4, Md_R290 m4, Md_K290 m4, Md_R291 m4, Md_K291 m4, Md_R292 m4, Md_K292 m4, Md_R293 m4, Md_K293 m4, Md_R294 m4, Md_K294 m4, Md_R295 m4, Md_K295 m4, Md_R296 m4, Md_K296 m4, Md_R297 m4, Md_K297 m4, Md_R298 m4, Md_K298 m4, Md_R299 m4, Md_K299 m4, Int.toNat_natCast, Int.natCast_nonneg, true_and, and_true, and_self, if_true, if_false, or_true, true_or, or_false, false_or, ne_eq, not_true_eq_false, not_false_eq_true, Nat.reduceLeDiff, Nat.reduceEqDiff, Nat.reduceLT, Nat.reduceAdd, Nat.reduceMul, Nat.reduceSub, Int.reduceLT, Int.reduceLE, Int.reduceEq, Int.reduceToNat, Int.reduceAdd, Int.reduceSub, Int.reduceMul, Int.reduceNeg, Int.cast_ofNat_Int, false_and, and_false, y4]
        exact k0
      rw [if_neg w1] at k0 ⊢
      simp only [rX12_judge_97, rX12_judge_98, rX12_judge_99, rX12_judge_102, rX12_judge_104, rX12_judge_107, rX12_judge_109]
      by_cases w2 : wh = 2
      · rw [if_pos w2] at k0 ⊢; exact k0
      · rw [if_neg w2] at k0 ⊢; exact k0
    · simp only [if_neg h2] at k ⊢
      exact k h x (Fp.refl _ h)
  · simp only [if_neg h1] at k ⊢
    rw [if_pos (by trivial)]
    exact k h x (Fp.refl _ h)
set_option maxHeartbeats 1000000 in
theorem C_judge {d : Nat} {σ : AS} {t wh : Int} : CSpec (d + 7) mX11_judge [some (.inr (.inr 200)), some (.inl t), some (.inl wh), none, none] σ (.inl (jdV σ t wh)) σ := by
  intro h Q x w k
  have m := x.1.1
  have kn := fun z (hz : jdV σ t wh = z) => hz ▸ k h x (Cfr.refl h)
  simp only [rX11_judge_0, rX11_judge_1, rX11_judge_2, rX11_judge_5, rX11_judge_8, rX11_judge_9, rX11_judge_12, rX11_judge_13, rX11_judge_14, rX11_judge_17, rX11_judge_19, Cs_K200 m, Int.toNat_natCast, Int.natCast_nonneg, true_and, and_true, and_self, if_true, if_false, or_true, true_or, or_false, false_or, ne_eq, not_true_eq_false, not_false_eq_true, Nat.reduceLeDiff, Nat.reduceEqDiff, Nat.reduceLT, Nat.reduceAdd, Nat.reduceMul, Nat.reduceSub, Int.reduceLT, Int.reduceLE, Int.reduceEq, Int.reduceToNat, Int.reduceAdd, Int.reduceSub, Int.reduceMul, Int.reduceNeg, Int.cast_ofNat_Int, false_and, and_false, S_cTray m, psh_some]
  by_cases h1 : 0 ≤ t ∧ t < 4
  · rw [if_pos h1, if_neg (by decide)]
    by_cases h2 : 0 ≤ wh ∧ wh ≤ 3
    · rw [if_neg (by omega), if_neg (by omega)]
      obtain ⟨j, rfl⟩ := Int.eq_ofNat_of_zero_le h1.1
      have j4 : j < 4 := by omega
      have j4' : (j : Int) < 4 := by omega
      obtain ⟨r1, r2, r3, r4⟩ := Cs_tray m j4
      obtain ⟨y1, y2⟩ := x.1.2.2.2.2.2.1 j j4
      have hm := (w.2.2.2.2.2.2.2.2 j j4).2.2
      simp only [rX11_judge_20, rX11_judge_21, rX11_judge_24, rX11_judge_25, rX11_judge_26, rX11_judge_29, rX11_judge_32, rX11_judge_34, Cs_K200 m, Cs_R200_0 m, Cs_R200_1 m, Cs_R200_2 m, Cs_R200_3 m, Cs_R200_4 m, Cs_R200_5 m, Cs_R200_6 m, Cs_K201 m, Cs_R201_0 m, Cs_R201_1 m, Cs_K202 m, Cs_K203 m, Cs_K211 m, Cs_R211_0 m, Cs_R211_1 m, Cs_K212 m, Cs_K213 m, Cs_K214 m, Cs_R214_0 m, Cs_R214_1 m, Cs_K215 m, Cs_K216 m, Cs_K217 m, Cs_R217_0 m, Cs_R217_1 m, Cs_K218 m, Cs_K219 m, Cs_K220 m, Cs_R220_0 m, Cs_K221 m, Cs_K262 m, Cs_K271 m, Cs_R271_0 m, Cs_R271_1 m, Cs_K272 m, Cs_K276 m, Cs_R272_0 m, Cs_R276_0 m, Cs_K273 m, Cs_R273_0 m, Cs_R273_1 m, Cs_K274 m, Cs_K275 m, Cs_K277 m, Cs_R277_0 m, Cs_R277_1 m, Cs_K278 m, Cs_K279 m, Cs_R262_0 m, Cs_K263 m, Cs_R263_0 m, Cs_K264 m, Cs_R262_1 m, Cs_K265 m, Cs_R265_0 m, Cs_K266 m, Cs_R262_2 m, Cs_K267 m, Cs_R267_0 m, Cs_K268 m, Cs_R262_3 m, Cs_K269 m, Cs_R269_0 m, Cs_K270 m, Int.toNat_natCast, Int.natCast_nonneg, true_and, and_true, and_self, if_true, if_false, or_true, true_or, or_false, false_or, ne_eq, not_true_eq_false, not_false_eq_true, Nat.reduceLeDiff, Nat.reduceEqDiff, Nat.reduceLT, Nat.reduceAdd, Nat.reduceMul, Nat.reduceSub, Int.reduceLT, Int.reduceLE, Int.reduceEq, Int.reduceToNat, Int.reduceAdd, Int.reduceSub, Int.reduceMul, Int.reduceNeg, Int.cast_ofNat_Int, false_and, and_false, j4', r1, r2, y1]
      by_cases h3 : sSo σ j = -1
      · rw [if_pos h3, if_neg (by decide)]
        exact kn (-6) (by unfold jdV noT; rw [if_pos h2, if_pos h1, Int.toNat_natCast, if_pos h3, if_neg (by decide)])
      · rw [if_neg h3, if_pos (by trivial)]
        obtain ⟨z1, z2, z3⟩ := y2 h3
        have n0 : noT σ (j : Int) = 0 := by unfold noT; rw [if_pos h1, Int.toNat_natCast, if_neg h3]
        unfold jdV at k
        simp only [if_pos h2, if_pos n0, Int.toNat_natCast] at k
        simp only [rX11_judge_35, rX11_judge_36, rX11_judge_39, rX11_judge_40, rX11_judge_43, Cs_K200 m, Cs_R200_0 m, Cs_R200_1 m, Cs_R200_2 m, Cs_R200_3 m, Cs_R200_4 m, Cs_R200_5 m, Cs_R200_6 m, Cs_K201 m, Cs_R201_0 m, Cs_R201_1 m, Cs_K202 m, Cs_K203 m, Cs_K211 m, Cs_R211_0 m, Cs_R211_1 m, Cs_K212 m, Cs_K213 m, Cs_K214 m, Cs_R214_0 m, Cs_R214_1 m, Cs_K215 m, Cs_K216 m, Cs_K217 m, Cs_R217_0 m, Cs_R217_1 m, Cs_K218 m, Cs_K219 m, Cs_K220 m, Cs_R220_0 m, Cs_K221 m, Cs_K262 m, Cs_K271 m, Cs_R271_0 m, Cs_R271_1 m, Cs_K272 m, Cs_K276 m, Cs_R272_0 m, Cs_R276_0 m, Cs_K273 m, Cs_R273_0 m, Cs_R273_1 m, Cs_K274 m, Cs_K275 m, Cs_K277 m, Cs_R277_0 m, Cs_R277_1 m, Cs_K278 m, Cs_K279 m, Cs_R262_0 m, Cs_K263 m, Cs_R263_0 m, Cs_K264 m, Cs_R262_1 m, Cs_K265 m, Cs_R265_0 m, Cs_K266 m, Cs_R262_2 m, Cs_K267 m, Cs_R267_0 m, Cs_K268 m, Cs_R262_3 m, Cs_K269 m, Cs_R269_0 m, Cs_K270 m, Int.toNat_natCast, Int.natCast_nonneg, true_and, and_true, and_self, if_true, if_false, or_true, true_or, or_false, false_or, ne_eq, not_true_eq_false, not_false_eq_true, Nat.reduceLeDiff, Nat.reduceEqDiff, Nat.reduceLT, Nat.reduceAdd, Nat.reduceMul, Nat.reduceSub, Int.reduceLT, Int.reduceLE, Int.reduceEq, Int.reduceToNat, Int.reduceAdd, Int.reduceSub, Int.reduceMul, Int.reduceNeg, Int.cast_ofNat_Int, false_and, and_false]
        refine S_become (Cs_triS m) (Cs_nowS m) (by omega) x.1.2.2.2.1 ?_
        intro h1' f1 s1
        have c := x.cp w
        have c1 := c.fr f1 (fun a k q => by unfold stP at q; unfold stc; omega)
        have m1 := c1.1
        simp only [psh_none, rX11_judge_46, rX11_judge_47, rX11_judge_48, rX11_judge_51, rX11_judge_52, rX11_judge_55, rX11_judge_56, rX11_judge_57, rX11_actAll_0, rX11_actAll_1, Cs_K200 m1, Cs_R200_0 m1, Cs_R200_1 m1, Cs_R200_2 m1, Cs_R200_3 m1, Cs_R200_4 m1, Cs_R200_5 m1, Cs_R200_6 m1, Cs_K201 m1, Cs_R201_0 m1, Cs_R201_1 m1, Cs_K202 m1, Cs_K203 m1, Cs_K211 m1, Cs_R211_0 m1, Cs_R211_1 m1, Cs_K212 m1, Cs_K213 m1, Cs_K214 m1, Cs_R214_0 m1, Cs_R214_1 m1, Cs_K215 m1, Cs_K216 m1, Cs_K217 m1, Cs_R217_0 m1, Cs_R217_1 m1, Cs_K218 m1, Cs_K219 m1, Cs_K220 m1, Cs_R220_0 m1, Cs_K221 m1, Cs_K262 m1, Cs_K271 m1, Cs_R271_0 m1, Cs_R271_1 m1, Cs_K272 m1, Cs_K276 m1, Cs_R272_0 m1, Cs_R276_0 m1, Cs_K273 m1, Cs_R273_0 m1, Cs_R273_1 m1, Cs_K274 m1, Cs_K275 m1, Cs_K277 m1, Cs_R277_0 m1, Cs_R277_1 m1, Cs_K278 m1, Cs_K279 m1, Cs_R262_0 m1, Cs_K263 m1, Cs_R263_0 m1, Cs_K264 m1, Cs_R262_1 m1, Cs_K265 m1, Cs_R265_0 m1, Cs_K266 m1, Cs_R262_2 m1, Cs_K267 m1, Cs_R267_0 m1, Cs_K268 m1, Cs_R262_3 m1, Cs_K269 m1, Cs_R269_0 m1, Cs_K270 m1, Int.toNat_natCast, Int.natCast_nonneg, true_and, and_true, and_self, if_true, if_false, or_true, true_or, or_false, false_or, ne_eq, not_true_eq_false, not_false_eq_true, Nat.reduceLeDiff, Nat.reduceEqDiff, Nat.reduceLT, Nat.reduceAdd, Nat.reduceMul, Nat.reduceSub, Int.reduceLT, Int.reduceLE, Int.reduceEq, Int.reduceToNat, Int.reduceAdd, Int.reduceSub, Int.reduceMul, Int.reduceNeg, Int.cast_ofNat_Int, false_and, and_false, j4', (Cs_tray m1 j4).1]
        have hNj : hI h1' (263 + 2 * j) 3 = (((sM σ j).toNat : Nat) : Int) := by rw [f1.I (by unfold stP; omega), z2]; omega
        obtain ⟨R1, R2, R3, R4⟩ := Cs_tray m1 j4
        refine S_actAll (h0 := h1') (N := (sM σ j).toNat) (f := fun k => sB σ (40 * j + k)) (r := rwS σ j) c1 (Or.inr rfl) (by omega) R2 (by rw [R3]; omega) (by rw [show 263 + 2 * j + 1 = 264 + 2 * j by omega]; exact R4) hNj (by omega) (fun i hi => by rw [f1.J (by unfold stP; omega), show 263 + 2 * j + 1 = 264 + 2 * j by omega]; exact z3 i hi) ?_ _ 0 _ _ (Nat.zero_add _) (Fp.refl _ _) s1 w.2.1 rfl
        intro h2' f2 s2
        have c2 := c1.fr f2 (fun a k q => by unfold aPs at q; unfold stc; omega)
        have m2 := c2.1
        obtain ⟨Y1, Y2, Y3, Y4⟩ := Cs_tray m2 j4
        obtain ⟨o1, o2, o3, o4, o5, o6⟩ := rowD_ok w.1 (f := fun k => sB σ (40 * j + k)) (sM σ j).toNat 0 (stA (sA σ)) w.2.1
        rw [Nat.zero_add] at o3 o5 o6
        have fs : Fp (fun a _ => scr a) h h2' := (f1.mono (fun a k q => by unfold stP at q; unfold scr; omega)).trans (f2.mono (fun a k q => by unfold aPs at q; unfold scr; omega))
        have fc : ∀ h', Fp (fun a _ => scr a) h h' → (∀ a k, ¬ (211 ≤ a ∧ a ≤ 219) → hI h' a k = hI h a k ∧ hJ h' a k = hJ h a k) → Cfr h h' := fun h' f' g' => Cfr.of (P := fun a _ => 211 ≤ a ∧ a ≤ 219) ⟨f'.1, f'.2.1, f'.2.2.1, f'.2.2.2.1, fun a k q => g' a k q⟩ (fun a k q => by unfold cfP; omega)
        have g2 : ∀ a k, ¬ (211 ≤ a ∧ a ≤ 219) → hI h2' a k = hI h a k ∧ hJ h2' a k = hJ h a k := fun a k q => ⟨by rw [f2.I (by unfold aPs; omega), f1.I (by unfold stP; omega)], by rw [f2.J (by unfold aPs; omega), f1.J (by unfold stP; omega)]⟩
        have x2 : CRep h2' σ := x.dv fs (fun a k q => q)
        have k0 := k h2' x2 (fc h2' fs g2)
        have hN2 : hI h2' (263 + 2 * j) 3 = (((sM σ j).toNat : Nat) : Int) := by rw [(g2 _ _ (by omega)).1, z2]; omega
        simp only [psh_some, rX11_judge_60, rX11_judge_61, rX11_judge_62, rX11_judge_63, rX11_judge_66, rX11_judge_67, rX11_judge_68, rX11_judge_71, Cs_K200 m2, Cs_R200_0 m2, Cs_R200_1 m2, Cs_R200_2 m2, Cs_R200_3 m2, Cs_R200_4 m2, Cs_R200_5 m2, Cs_R200_6 m2, Cs_K201 m2, Cs_R201_0 m2, Cs_R201_1 m2, Cs_K202 m2, Cs_K203 m2, Cs_K211 m2, Cs_R211_0 m2, Cs_R211_1 m2, Cs_K212 m2, Cs_K213 m2, Cs_K214 m2, Cs_R214_0 m2, Cs_R214_1 m2, Cs_K215 m2, Cs_K216 m2, Cs_K217 m2, Cs_R217_0 m2, Cs_R217_1 m2, Cs_K218 m2, Cs_K219 m2, Cs_K220 m2, Cs_R220_0 m2, Cs_K221 m2, Cs_K262 m2, Cs_K271 m2, Cs_R271_0 m2, Cs_R271_1 m2, Cs_K272 m2, Cs_K276 m2, Cs_R272_0 m2, Cs_R276_0 m2, Cs_K273 m2, Cs_R273_0 m2, Cs_R273_1 m2, Cs_K274 m2, Cs_K275 m2, Cs_K277 m2, Cs_R277_0 m2, Cs_R277_1 m2, Cs_K278 m2, Cs_K279 m2, Cs_R262_0 m2, Cs_K263 m2, Cs_R263_0 m2, Cs_K264 m2, Cs_R262_1 m2, Cs_K265 m2, Cs_R265_0 m2, Cs_K266 m2, Cs_R262_2 m2, Cs_K267 m2, Cs_R267_0 m2, Cs_K268 m2, Cs_R262_3 m2, Cs_K269 m2, Cs_R269_0 m2, Cs_K270 m2, Int.toNat_natCast, Int.natCast_nonneg, true_and, and_true, and_self, if_true, if_false, or_true, true_or, or_false, false_or, ne_eq, not_true_eq_false, not_false_eq_true, Nat.reduceLeDiff, Nat.reduceEqDiff, Nat.reduceLT, Nat.reduceAdd, Nat.reduceMul, Nat.reduceSub, Int.reduceLT, Int.reduceLE, Int.reduceEq, Int.reduceToNat, Int.reduceAdd, Int.reduceSub, Int.reduceMul, Int.reduceNeg, Int.cast_ofNat_Int, false_and, and_false, j4', Y1, Y2, hN2]
        by_cases hd : (rwS σ j).1 < (sM σ j).toNat
        · obtain ⟨o7, o8⟩ := o6 hd
          have o7' : (rwS σ j).2.2 = whyD (sA σ) (rwS σ j).2.1 (sB σ (40 * j + (rwS σ j).1)) := o7
          have o8' : (rwS σ j).2.2 ≠ 0 := o8
          rw [if_pos (by omega)]
          simp only [rX11_judge_78, rX11_judge_79, rX11_judge_81, rX11_judge_82]
          by_cases w0 : wh = 0
          · rw [if_pos w0, if_neg o8'] at k0
            subst w0
            simp only [show tabT 82 74 0 2 [26, 37, 66] 0 = 108 from rfl, rX11_judge_108, rX11_judge_110, rX11_judge_113, rX11_judge_114, rX11_judge_117, rX11_judge_118, Int.toNat_natCast, Int.natCast_nonneg, true_and, and_true, and_self, if_true, if_false, or_true, true_or, or_false, false_or, ne_eq, not_true_eq_false, not_false_eq_true, Nat.reduceLeDiff, Nat.reduceEqDiff, Nat.reduceLT, Nat.reduceAdd, Nat.reduceMul, Nat.reduceSub, Int.reduceLT, Int.reduceLE, Int.reduceEq, Int.reduceToNat, Int.reduceAdd, Int.reduceSub, Int.reduceMul, Int.reduceNeg, Int.cast_ofNat_Int, false_and, and_false]
            exact k0
          rw [if_neg w0] at k0
          by_cases w1 : wh = 1
          · subst w1
            have l1 : ((rwS σ j).1 : Int) < 40 := by omega
            have e5 : hJ h2' (264 + 2 * j) (rwS σ j).1 = sB σ (40 * j + (rwS σ j).1) := by rw [(g2 _ _ (by omega)).2]; exact z3 _ hd
            simp only [show tabT 82 74 0 2 [26, 37, 66] 1 = 119 from rfl, rX11_judge_119, rX11_judge_121, rX11_judge_128, rX11_judge_129, rX11_judge_130, rX11_judge_133, rX11_judge_134, rX11_judge_137, rX11_judge_138, rX11_judge_139, rX11_judge_142, rX11_judge_143, rX11_judge_144, Cs_K200 m2, Cs_R200_0 m2, Cs_R200_1 m2, Cs_R200_2 m2, Cs_R200_3 m2, Cs_R200_4 m2, Cs_R200_5 m2, Cs_R200_6 m2, Cs_K201 m2, Cs_R201_0 m2, Cs_R201_1 m2, Cs_K202 m2, Cs_K203 m2, Cs_K211 m2, Cs_R211_0 m2, Cs_R211_1 m2, Cs_K212 m2, Cs_K213 m2, Cs_K214 m2, Cs_R214_0 m2, Cs_R214_1 m2, Cs_K215 m2, Cs_K216 m2, Cs_K217 m2, Cs_R217_0 m2, Cs_R217_1 m2, Cs_K218 m2, Cs_K219 m2, Cs_K220 m2, Cs_R220_0 m2, Cs_K221 m2, Cs_K262 m2, Cs_K271 m2, Cs_R271_0 m2, Cs_R271_1 m2, Cs_K272 m2, Cs_K276 m2, Cs_R272_0 m2, Cs_R276_0 m2, Cs_K273 m2, Cs_R273_0 m2, Cs_R273_1 m2, Cs_K274 m2, Cs_K275 m2, Cs_K277 m2, Cs_R277_0 m2, Cs_R277_1 m2, Cs_K278 m2, Cs_K279 m2, Cs_R262_0 m2, Cs_K263 m2, Cs_R263_0 m2, Cs_K264 m2, Cs_R262_1 m2, Cs_K265 m2, Cs_R265_0 m2, Cs_K266 m2, Cs_R262_2 m2, Cs_K267 m2, Cs_R267_0 m2, Cs_K268 m2, Cs_R262_3 m2, Cs_K269 m2, Cs_R269_0 m2, Cs_K270 m2, Int.toNat_natCast, Int.natCast_nonneg, true_and, and_true, and_self, if_true, if_false, or_true, true_or, or_false, false_or, ne_eq, not_true_eq_false, not_false_eq_true, Nat.reduceLeDiff, Nat.reduceEqDiff, Nat.reduceLT, Nat.reduceAdd, Nat.reduceMul, Nat.reduceSub, Int.reduceLT, Int.reduceLE, Int.reduceEq, Int.reduceToNat, Int.reduceAdd, Int.reduceSub, Int.reduceMul, Int.reduceNeg, Int.cast_ofNat_Int, false_and, and_false, j4', Y1, Y2, Y3, Y4, l1, e5]
            refine S_act (d := d + 1) c2 (Or.inr rfl) s2 o1 ?_
            intro h3 f3 _
            simp only [psh_some, rX11_judge_147]
            have fs3 : Fp (fun a _ => scr a) h h3 := fs.trans (f3.mono (fun a k q => by unfold aPs at q; unfold scr; omega))
            have k3 := k h3 (x.dv fs3 (fun a k q => q)) (fc h3 fs3 (fun a k q => ⟨by rw [f3.I (by unfold aPs; omega)]; exact (g2 a k q).1, by rw [f3.J (by unfold aPs; omega)]; exact (g2 a k q).2⟩))
            rw [if_neg (by decide), if_pos (by trivial), o7'] at k3
            exact k3
          rw [if_neg w1] at k0
          by_cases w2 : wh = 2
          · rw [if_pos w2] at k0
            subst w2
            simp only [show tabT 82 74 0 2 [26, 37, 66] 2 = 148 from rfl, rX11_judge_148, rX11_judge_149, rX11_judge_152, rX11_judge_155, Cs_K200 m2, Cs_R200_0 m2, Cs_R200_1 m2, Cs_R200_2 m2, Cs_R200_3 m2, Cs_R200_4 m2, Cs_R200_5 m2, Cs_R200_6 m2, Cs_K201 m2, Cs_R201_0 m2, Cs_R201_1 m2, Cs_K202 m2, Cs_K203 m2, Cs_K211 m2, Cs_R211_0 m2, Cs_R211_1 m2, Cs_K212 m2, Cs_K213 m2, Cs_K214 m2, Cs_R214_0 m2, Cs_R214_1 m2, Cs_K215 m2, Cs_K216 m2, Cs_K217 m2, Cs_R217_0 m2, Cs_R217_1 m2, Cs_K218 m2, Cs_K219 m2, Cs_K220 m2, Cs_R220_0 m2, Cs_K221 m2, Cs_K262 m2, Cs_K271 m2, Cs_R271_0 m2, Cs_R271_1 m2, Cs_K272 m2, Cs_K276 m2, Cs_R272_0 m2, Cs_R276_0 m2, Cs_K273 m2, Cs_R273_0 m2, Cs_R273_1 m2, Cs_K274 m2, Cs_K275 m2, Cs_K277 m2, Cs_R277_0 m2, Cs_R277_1 m2, Cs_K278 m2, Cs_K279 m2, Cs_R262_0 m2, Cs_K263 m2, Cs_R263_0 m2, Cs_K264 m2, Cs_R262_1 m2, Cs_K265 m2, Cs_R265_0 m2, Cs_K266 m2, Cs_R262_2 m2, Cs_K267 m2, Cs_R267_0 m2, Cs_K268 m2, Cs_R262_3 m2, Cs_K269 m2, Cs_R269_0 m2, Cs_K270 m2, Int.toNat_natCast, Int.natCast_nonneg, true_and, and_true, and_self, if_true, if_false, or_true, true_or, or_false, false_or, ne_eq, not_true_eq_false, not_false_eq_true, Nat.reduceLeDiff, Nat.reduceEqDiff, Nat.reduceLT, Nat.reduceAdd, Nat.reduceMul, Nat.reduceSub, Int.reduceLT, Int.reduceLE, Int.reduceEq, Int.reduceToNat, Int.reduceAdd, Int.reduceSub, Int.reduceMul, Int.reduceNeg, Int.cast_ofNat_Int, false_and, and_false, s2.2.1]
            exact k0
          rw [if_neg w2] at k0
          rw [tabT_out (by omega), show tgt 82 74 = 156 from rfl]
          simp only [rX11_judge_156, rX11_judge_157, rX11_judge_160, rX11_judge_163, Cs_K200 m2, Cs_R200_0 m2, Cs_R200_1 m2, Cs_R200_2 m2, Cs_R200_3 m2, Cs_R200_4 m2, Cs_R200_5 m2, Cs_R200_6 m2, Cs_K201 m2, Cs_R201_0 m2, Cs_R201_1 m2, Cs_K202 m2, Cs_K203 m2, Cs_K211 m2, Cs_R211_0 m2, Cs_R211_1 m2, Cs_K212 m2, Cs_K213 m2, Cs_K214 m2, Cs_R214_0 m2, Cs_R214_1 m2, Cs_K215 m2, Cs_K216 m2, Cs_K217 m2, Cs_R217_0 m2, Cs_R217_1 m2, Cs_K218 m2, Cs_K219 m2, Cs_K220 m2, Cs_R220_0 m2, Cs_K221 m2, Cs_K262 m2, Cs_K271 m2, Cs_R271_0 m2, Cs_R271_1 m2, Cs_K272 m2, Cs_K276 m2, Cs_R272_0 m2, Cs_R276_0 m2, Cs_K273 m2, Cs_R273_0 m2, Cs_R273_1 m2, Cs_K274 m2, Cs_K275 m2, Cs_K277 m2, Cs_R277_0 m2, Cs_R277_1 m2, Cs_K278 m2, Cs_K279 m2, Cs_R262_0 m2, Cs_K263 m2, Cs_R263_0 m2, Cs_K264 m2, Cs_R262_1 m2, Cs_K265 m2, Cs_R265_0 m2, Cs_K266 m2, Cs_R262_2 m2, Cs_K267 m2, Cs_R267_0 m2, Cs_K268 m2, Cs_R262_3 m2, Cs_K269 m2, Cs_R269_0 m2, Cs_K270 m2, Int.toNat_natCast, Int.natCast_nonneg, true_and, and_true, and_self, if_true, if_false, or_true, true_or, or_false, false_or, ne_eq, not_true_eq_false, not_false_eq_true, Nat.reduceLeDiff, Nat.reduceEqDiff, Nat.reduceLT, Nat.reduceAdd, Nat.reduceMul, Nat.reduceSub, Int.reduceLT, Int.reduceLE, Int.reduceEq, Int.reduceToNat, Int.reduceAdd, Int.reduceSub, Int.reduceMul, Int.reduceNeg, Int.cast_ofNat_Int, false_and, and_false, s2.1]
          exact k0
        · have o7 : (rwS σ j).2.2 = 0 := o5 (by have : (rwS σ j).1 ≤ (sM σ j).toNat := o3; show (rwS σ j).1 = _; omega)
          rw [if_neg (by omega)]
          simp only [rX11_judge_74, rX11_judge_75, rX11_judge_79, rX11_judge_81, rX11_judge_82]
          by_cases w0 : wh = 0
          · rw [if_pos w0, if_pos o7] at k0
            subst w0
            simp only [show tabT 82 74 0 2 [26, 37, 66] 0 = 108 from rfl, rX11_judge_108, rX11_judge_110, rX11_judge_113, rX11_judge_114, rX11_judge_117, rX11_judge_118, Int.toNat_natCast, Int.natCast_nonneg, true_and, and_true, and_self, if_true, if_false, or_true, true_or, or_false, false_or, ne_eq, not_true_eq_false, not_false_eq_true, Nat.reduceLeDiff, Nat.reduceEqDiff, Nat.reduceLT, Nat.reduceAdd, Nat.reduceMul, Nat.reduceSub, Int.reduceLT, Int.reduceLE, Int.reduceEq, Int.reduceToNat, Int.reduceAdd, Int.reduceSub, Int.reduceMul, Int.reduceNeg, Int.cast_ofNat_Int, false_and, and_false]
            exact k0
          rw [if_neg w0] at k0
          by_cases w1 : wh = 1
          · rw [if_pos w1, o7] at k0
            subst w1
            simp only [show tabT 82 74 0 2 [26, 37, 66] 1 = 119 from rfl, rX11_judge_119, rX11_judge_121, rX11_judge_124, rX11_judge_125, rX11_judge_147, Int.toNat_natCast, Int.natCast_nonneg, true_and, and_true, and_self, if_true, if_false, or_true, true_or, or_false, false_or, ne_eq, not_true_eq_false, not_false_eq_true, Nat.reduceLeDiff, Nat.reduceEqDiff, Nat.reduceLT, Nat.reduceAdd, Nat.reduceMul, Nat.reduceSub, Int.reduceLT, Int.reduceLE, Int.reduceEq, Int.reduceToNat, Int.reduceAdd, Int.reduceSub, Int.reduceMul, Int.reduceNeg, Int.cast_ofNat_Int, false_and, and_false]
            exact k0
          rw [if_neg w1] at k0
          by_cases w2 : wh = 2
          · rw [if_pos w2] at k0
            subst w2
            simp only [show tabT 82 74 0 2 [26, 37, 66] 2 = 148 from rfl, rX11_judge_148, rX11_judge_149, rX11_judge_152, rX11_judge_155, Cs_K200 m2, Cs_R200_0 m2, Cs_R200_1 m2, Cs_R200_2 m2, Cs_R200_3 m2, Cs_R200_4 m2, Cs_R200_5 m2, Cs_R200_6 m2, Cs_K201 m2, Cs_R201_0 m2, Cs_R201_1 m2, Cs_K202 m2, Cs_K203 m2, Cs_K211 m2, Cs_R211_0 m2, Cs_R211_1 m2, Cs_K212 m2, Cs_K213 m2, Cs_K214 m2, Cs_R214_0 m2, Cs_R214_1 m2, Cs_K215 m2, Cs_K216 m2, Cs_K217 m2, Cs_R217_0 m2, Cs_R217_1 m2, Cs_K218 m2, Cs_K219 m2, Cs_K220 m2, Cs_R220_0 m2, Cs_K221 m2, Cs_K262 m2, Cs_K271 m2, Cs_R271_0 m2, Cs_R271_1 m2, Cs_K272 m2, Cs_K276 m2, Cs_R272_0 m2, Cs_R276_0 m2, Cs_K273 m2, Cs_R273_0 m2, Cs_R273_1 m2, Cs_K274 m2, Cs_K275 m2, Cs_K277 m2, Cs_R277_0 m2, Cs_R277_1 m2, Cs_K278 m2, Cs_K279 m2, Cs_R262_0 m2, Cs_K263 m2, Cs_R263_0 m2, Cs_K264 m2, Cs_R262_1 m2, Cs_K265 m2, Cs_R265_0 m2, Cs_K266 m2, Cs_R262_2 m2, Cs_K267 m2, Cs_R267_0 m2, Cs_K268 m2, Cs_R262_3 m2, Cs_K269 m2, Cs_R269_0 m2, Cs_K270 m2, Int.toNat_natCast, Int.natCast_nonneg, true_and, and_true, and_self, if_true, if_false, or_true, true_or, or_false, false_or, ne_eq, not_true_eq_false, not_false_eq_true, Nat.reduceLeDiff, Nat.reduceEqDiff, Nat.reduceLT, Nat.reduceAdd, Nat.reduceMul, Nat.reduceSub, Int.reduceLT, Int.reduceLE, Int.reduceEq, Int.reduceToNat, Int.reduceAdd, Int.reduceSub, Int.reduceMul, Int.reduceNeg, Int.cast_ofNat_Int, false_and, and_false, s2.2.1]
            exact k0
          rw [if_neg w2] at k0
          rw [tabT_out (by omega), show tgt 82 74 = 156 from rfl]
          simp only [rX11_judge_156, rX11_judge_157, rX11_judge_160, rX11_judge_163, Cs_K200 m2, Cs_R200_0 m2, Cs_R200_1 m2, Cs_R200_2 m2, Cs_R200_3 m2, Cs_R200_4 m2, Cs_R200_5 m2, Cs_R200_6 m2, Cs_K201 m2, Cs_R201_0 m2, Cs_R201_1 m2, Cs_K202 m2, Cs_K203 m2, Cs_K211 m2, Cs_R211_0 m2, Cs_R211_1 m2, Cs_K212 m2, Cs_K213 m2, Cs_K214 m2, Cs_R214_0 m2, Cs_R214_1 m2, Cs_K215 m2, Cs_K216 m2, Cs_K217 m2, Cs_R217_0 m2, Cs_R217_1 m2, Cs_K218 m2, Cs_K219 m2, Cs_K220 m2, Cs_R220_0 m2, Cs_K221 m2, Cs_K262 m2, Cs_K271 m2, Cs_R271_0 m2, Cs_R271_1 m2, Cs_K272 m2, Cs_K276 m2, Cs_R272_0 m2, Cs_R276_0 m2, Cs_K273 m2, Cs_R273_0 m2, Cs_R273_1 m2, Cs_K274 m2, Cs_K275 m2, Cs_K277 m2, Cs_R277_0 m2, Cs_R277_1 m2, Cs_K278 m2, Cs_K279 m2, Cs_R262_0 m2, Cs_K263 m2, Cs_R263_0 m2, Cs_K264 m2, Cs_R262_1 m2, Cs_K265 m2, Cs_R265_0 m2, Cs_K266 m2, Cs_R262_2 m2, Cs_K267 m2, Cs_R267_0 m2, Cs_K268 m2, Cs_R262_3 m2, Cs_K269 m2, Cs_R269_0 m2, Cs_K270 m2, Int.toNat_natCast, Int.natCast_nonneg, true_and, and_true, and_self, if_true, if_false, or_true, true_or, or_false, false_or, ne_eq, not_true_eq_false, not_false_eq_true, Nat.reduceLeDiff, Nat.reduceEqDiff, Nat.reduceLT, Nat.reduceAdd, Nat.reduceMul, Nat.reduceSub, Int.reduceLT, Int.reduceLE, Int.reduceEq, Int.reduceToNat, Int.reduceAdd, Int.reduceSub, Int.reduceMul, Int.reduceNeg, Int.cast_ofNat_Int, false_and, and_false, s2.1]
          exact k0
    · have k0 := kn (-2) (by unfold jdV; rw [if_neg h2])
      by_cases h4 : wh < 0
      · rw [if_pos h4]; exact k0
      · rw [if_neg h4, if_pos (by omega)]; exact k0
  · rw [if_neg h1, if_pos (by trivial)]
    refine kn (-2) ?_
    unfold jdV noT
    simp only [if_neg h1]
    by_cases q : 0 ≤ wh ∧ wh ≤ 3
    · rw [if_pos q, if_neg (by decide)]
    · rw [if_neg q]
set_option maxHeartbeats 1000000 in
theorem R_perform {d : Nat} {σ : AS} {t : Int} : RSpec (d + 8) mX12_perform [some (.inr (.inr 294)), some (.inl t), none, none] σ (.inl (if noT σ t = 0 then ((rwS σ t.toNat).1 : Int) else noT σ t)) (if noT σ t = 0 ∧ 0 < (rwS σ t.toNat).1 then nS σ (rwS σ t.toNat).2.1 else σ) := by
  refine RSpec5.of ?_ (fun h Q hk => by simp only [rX12_perform_0, rX12_perform_1, rX12_perform_2, hk, Int.toNat_natCast, Int.natCast_nonneg, true_and, and_true, and_self, if_true, if_false, or_true, true_or, or_false, false_or, ne_eq, not_true_eq_false, not_false_eq_true, Nat.reduceLeDiff, Nat.reduceEqDiff, Nat.reduceLT, Nat.reduceAdd, Nat.reduceMul, Nat.reduceSub, Int.reduceLT, Int.reduceLE, Int.reduceEq, Int.reduceToNat, Int.reduceAdd, Int.reduceSub, Int.reduceMul, Int.reduceNeg, Int.cast_ofNat_Int, false_and, and_false])
  intro h Q x w k
  have m := x.1
  have rs := x.rs w
  simp only [rX12_perform_5, rX12_perform_6, rX12_perform_7, rX12_perform_10, rX12_perform_11, rX12_perform_12, rX12_perform_15, rX12_perform_16, Md_K280 m, Md_R281 m, Md_K281 m, Md_R282 m, Md_K282 m, Md_R283 m, Md_K283 m, Md_R284 m, Md_K284 m, Md_R285 m, Md_K285 m, Md_R286 m, Md_K286 m, Md_R287 m, Md_K287 m, Md_R288 m, Md_K288 m, Md_R289 m, Md_K289 m, Md_R290 m, Md_K290 m, Md_R291 m, Md_K291 m, Md_R292 m, Md_K292 m, Md_R293 m, Md_K293 m, Md_R294 m, Md_K294 m, Md_R295 m, Md_K295 m, Md_R296 m, Md_K296 m, Md_R297 m, Md_K297 m, Md_R298 m, Md_K298 m, Md_R299 m, Md_K299 m, Int.toNat_natCast, Int.natCast_nonneg, true_and, and_true, and_self, if_true, if_false, or_true, true_or, or_false, false_or, ne_eq, not_true_eq_false, not_false_eq_true, Nat.reduceLeDiff, Nat.reduceEqDiff, Nat.reduceLT, Nat.reduceAdd, Nat.reduceMul, Nat.reduceSub, Int.reduceLT, Int.reduceLE, Int.reduceEq, Int.reduceToNat, Int.reduceAdd, Int.reduceSub, Int.reduceMul, Int.reduceNeg, Int.cast_ofNat_Int, false_and, and_false, S_noTray x, psh_some]
  by_cases h2 : noT σ t = 0
  · simp only [if_pos h2, h2, true_and] at k ⊢
    obtain ⟨q1, q2⟩ := noT_go h2
    obtain ⟨j, rfl⟩ := Int.eq_ofNat_of_zero_le q1.1
    simp only [Int.toNat_natCast] at k
    have j4 : j < 4 := by omega
    have hm := (w.2.2.2.2.2.2.2.2 j j4).2.2
    have e2 := (x.2.2.2.2.2.2.2.1 j j4).2
    simp only [if_true, rX12_perform_17, rX12_perform_18, Md_K280 m, Md_R281 m, Md_K281 m, Md_R282 m, Md_K282 m, Md_R283 m, Md_K283 m, Md_R284 m, Md_K284 m, Md_R285 m, Md_K285 m, Md_R286 m, Md_K286 m, Md_R287 m, Md_K287 m, Md_R288 m, Md_K288 m, Md_R289 m, Md_K289 m, Md_R290 m, Md_K290 m, Md_R291 m, Md_K291 m, Md_R292 m, Md_K292 m, Md_R293 m, Md_K293 m, Md_R294 m, Md_K294 m, Md_R295 m, Md_K295 m, Md_R296 m, Md_K296 m, Md_R297 m, Md_K297 m, Md_R298 m, Md_K298 m, Md_R299 m, Md_K299 m, Int.toNat_natCast, Int.natCast_nonneg, true_and, and_true, and_self, if_true, if_false, or_true, true_or, or_false, false_or, ne_eq, not_true_eq_false, not_false_eq_true, Nat.reduceLeDiff, Nat.reduceEqDiff, Nat.reduceLT, Nat.reduceAdd, Nat.reduceMul, Nat.reduceSub, Int.reduceLT, Int.reduceLE, Int.reduceEq, Int.reduceToNat, Int.reduceAdd, Int.reduceSub, Int.reduceMul, Int.reduceNeg, Int.cast_ofNat_Int, false_and, and_false]
    refine S_keeps rs ?_
    intro h1' f1 e1
    have rs1 := rs.ke f1
    have m1 := rs1.1
    simp only [psh_none, rX12_perform_21, rX12_perform_22, rX12_perform_23, rX12_toldRow_0, rX12_toldRow_1, rX12_toldRow_2, rX12_toldRow_5, rX12_toldRow_6, hN_wI, hN_wJ, hN_wR, hS_wI, hS_wJ, hS_wR, hK_wI, hK_wJ, hK_wR, hI_wI, hI_wJ, hI_wR, hJ_wI, hJ_wJ, hJ_wR, hR_wI, hR_wJ, hR_wR, hN_nw, hS_nw, hK_nw, hI_nw, hJ_nw, hR_nw, psh_some, psh_none, Md_K280 m1, Md_R281 m1, Md_K281 m1, Md_R282 m1, Md_K282 m1, Md_R283 m1, Md_K283 m1, Md_R284 m1, Md_K284 m1, Md_R285 m1, Md_K285 m1, Md_R286 m1, Md_K286 m1, Md_R287 m1, Md_K287 m1, Md_R288 m1, Md_K288 m1, Md_R289 m1, Md_K289 m1, Md_R290 m1, Md_K290 m1, Md_R291 m1, Md_K291 m1, Md_R292 m1, Md_K292 m1, Md_R293 m1, Md_K293 m1, Md_R294 m1, Md_K294 m1, Md_R295 m1, Md_K295 m1, Md_R296 m1, Md_K296 m1, Md_R297 m1, Md_K297 m1, Md_R298 m1, Md_K298 m1, Md_R299 m1, Md_K299 m1, Int.toNat_natCast, Int.natCast_nonneg, true_and, and_true, and_self, if_true, if_false, or_true, true_or, or_false, false_or, ne_eq, not_true_eq_false, not_false_eq_true, Nat.reduceLeDiff, Nat.reduceEqDiff, Nat.reduceLT, Nat.reduceAdd, Nat.reduceMul, Nat.reduceSub, Int.reduceLT, Int.reduceLE, Int.reduceEq, Int.reduceToNat, Int.reduceAdd, Int.reduceSub, Int.reduceMul, Int.reduceNeg, Int.cast_ofNat_Int, false_and, and_false]
    have f2 : Fp (fun a k => zP a k ∨ (a = 294 ∧ k = 22)) h1' (wI h1' 294 22 0) := (Fp.refl (fun a k => zP a k ∨ (a = 294 ∧ k = 22)) h1').wI (Or.inr ⟨rfl, rfl⟩) _
    have rs2 : RS (wI h1' 294 22 0) (sA σ) (stA (sA σ)) := ⟨m1.fr f2, fun q hq => by rw [hI_wI, if_neg (by omega)]; exact rs1.2.1 q hq, rs1.2.2⟩
    refine S_toldRow (h0 := h1') (N := (sM σ j).toNat) (f := fun k => sB σ (40 * j + k)) (r := rwS σ j) j4 (by rw [f1.I (by unfold keP; omega), e2]; omega) (by omega) (fun i hi => by rw [f1.J (by unfold keP; omega)]; exact x.2.2.2.2.2.2.2.2 _ (by omega)) ?_ _ 0 _ _ (Nat.zero_add _) f2 rs2 (by rw [hI_wI, if_pos ⟨rfl, rfl⟩]) rfl
    intro h3 f3 rs3 y3
    have m3 := rs3.1
    have fq : Fp qP h h3 := (f1.mono (fun a k q => keP_q q)).trans (f3.mono (fun a k q => by unfold zP lP at q; unfold qP uP; omega))
    simp only [psh_some, rX12_perform_26, rX12_perform_27, rX12_perform_28]
    by_cases h0 : 0 < (rwS σ j).1
    · simp only [if_pos h0] at k
      rw [if_pos (by omega)]
      simp only [rX12_perform_31, rX12_perform_32, Md_K280 m3, Md_R281 m3, Md_K281 m3, Md_R282 m3, Md_K282 m3, Md_R283 m3, Md_K283 m3, Md_R284 m3, Md_K284 m3, Md_R285 m3, Md_K285 m3, Md_R286 m3, Md_K286 m3, Md_R287 m3, Md_K287 m3, Md_R288 m3, Md_K288 m3, Md_R289 m3, Md_K289 m3, Md_R290 m3, Md_K290 m3, Md_R291 m3, Md_K291 m3, Md_R292 m3, Md_K292 m3, Md_R293 m3, Md_K293 m3, Md_R294 m3, Md_K294 m3, Md_R295 m3, Md_K295 m3, Md_R296 m3, Md_K296 m3, Md_R297 m3, Md_K297 m3, Md_R298 m3, Md_K298 m3, Md_R299 m3, Md_K299 m3, Int.toNat_natCast, Int.natCast_nonneg, true_and, and_true, and_self, if_true, if_false, or_true, true_or, or_false, false_or, ne_eq, not_true_eq_false, not_false_eq_true, Nat.reduceLeDiff, Nat.reduceEqDiff, Nat.reduceLT, Nat.reduceAdd, Nat.reduceMul, Nat.reduceSub, Int.reduceLT, Int.reduceLE, Int.reduceEq, Int.reduceToNat, Int.reduceAdd, Int.reduceSub, Int.reduceMul, Int.reduceNeg, Int.cast_ofNat_Int, false_and, and_false]
      refine S_notesNow x w fq rs3 (fun q hq => by rw [f3.I (by unfold zP lP; omega)]; exact e1 q hq) ?_
      intro h4 x4 f4 g4
      simp only [psh_none, rX12_perform_35, rX12_perform_36]
      exact k h4 x4 f4
    · simp only [if_neg h0] at k
      rw [if_neg (by omega)]
      simp only [rX12_perform_35, rX12_perform_36]
      obtain ⟨o1, o2, o3, o4, o5, o6⟩ := rowD_ok w.1 (f := fun k => sB σ (40 * j + k)) (sM σ j).toNat 0 (stA (sA σ)) w.2.1
      have e4 : (rwS σ j).2.1 = stA (sA σ) := o4 (by show (rwS σ j).1 = 0; omega)
      have x3 : RRep h3 σ := by
        have := x.a fq rs3.2.1
        rw [e4, putS_self] at this
        exact this
      exact k h3 x3 (fq.mono (fun a k q => qP_r q))
  · simp only [if_neg h2, h2, false_and, if_false] at k ⊢
    exact k h x (Fp.refl _ h)
set_option maxHeartbeats 1000000 in
theorem C_perform {d : Nat} {σ : AS} {t : Int} : CSpec (d + 7) mX11_perform [some (.inr (.inr 200)), some (.inl t), none] σ (.inl (if noT σ t = 0 then ((rwS σ t.toNat).1 : Int) else noT σ t)) (if noT σ t = 0 ∧ 0 < (rwS σ t.toNat).1 then nS σ (rwS σ t.toNat).2.1 else σ) := by
  intro h Q x w k
  have m := x.1.1
  have no : noT σ t ≠ 0 → Q (some (.inl (noT σ t))) h := by
    intro hn
    rw [if_neg hn, if_neg (fun q => hn q.1)] at k
    exact k h x (Cfr.refl h)
  simp only [rX11_perform_0, rX11_perform_1, rX11_perform_2, rX11_perform_5, rX11_perform_8, rX11_perform_10, Cs_K200 m, Int.toNat_natCast, Int.natCast_nonneg, true_and, and_true, and_self, if_true, if_false, or_true, true_or, or_false, false_or, ne_eq, not_true_eq_false, not_false_eq_true, Nat.reduceLeDiff, Nat.reduceEqDiff, Nat.reduceLT, Nat.reduceAdd, Nat.reduceMul, Nat.reduceSub, Int.reduceLT, Int.reduceLE, Int.reduceEq, Int.reduceToNat, Int.reduceAdd, Int.reduceSub, Int.reduceMul, Int.reduceNeg, Int.cast_ofNat_Int, false_and, and_false, S_cTray m, psh_some]
  by_cases h1 : 0 ≤ t ∧ t < 4
  · rw [if_pos h1, if_neg (by decide)]
    obtain ⟨j, rfl⟩ := Int.eq_ofNat_of_zero_le h1.1
    have j4 : j < 4 := by omega
    have j4' : (j : Int) < 4 := by omega
    obtain ⟨r1, r2, r3, r4⟩ := Cs_tray m j4
    obtain ⟨y1, y2⟩ := x.1.2.2.2.2.2.1 j j4
    have hm := (w.2.2.2.2.2.2.2.2 j j4).2.2
    simp only [rX11_perform_11, rX11_perform_12, rX11_perform_15, rX11_perform_16, rX11_perform_17, rX11_perform_20, rX11_perform_23, rX11_perform_25, Cs_K200 m, Cs_R200_0 m, Cs_R200_1 m, Cs_R200_2 m, Cs_R200_3 m, Cs_R200_4 m, Cs_R200_5 m, Cs_R200_6 m, Cs_K201 m, Cs_R201_0 m, Cs_R201_1 m, Cs_K202 m, Cs_K203 m, Cs_K211 m, Cs_R211_0 m, Cs_R211_1 m, Cs_K212 m, Cs_K213 m, Cs_K214 m, Cs_R214_0 m, Cs_R214_1 m, Cs_K215 m, Cs_K216 m, Cs_K217 m, Cs_R217_0 m, Cs_R217_1 m, Cs_K218 m, Cs_K219 m, Cs_K220 m, Cs_R220_0 m, Cs_K221 m, Cs_K262 m, Cs_K271 m, Cs_R271_0 m, Cs_R271_1 m, Cs_K272 m, Cs_K276 m, Cs_R272_0 m, Cs_R276_0 m, Cs_K273 m, Cs_R273_0 m, Cs_R273_1 m, Cs_K274 m, Cs_K275 m, Cs_K277 m, Cs_R277_0 m, Cs_R277_1 m, Cs_K278 m, Cs_K279 m, Cs_R262_0 m, Cs_K263 m, Cs_R263_0 m, Cs_K264 m, Cs_R262_1 m, Cs_K265 m, Cs_R265_0 m, Cs_K266 m, Cs_R262_2 m, Cs_K267 m, Cs_R267_0 m, Cs_K268 m, Cs_R262_3 m, Cs_K269 m, Cs_R269_0 m, Cs_K270 m, Int.toNat_natCast, Int.natCast_nonneg, true_and, and_true, and_self, if_true, if_false, or_true, true_or, or_false, false_or, ne_eq, not_true_eq_false, not_false_eq_true, Nat.reduceLeDiff, Nat.reduceEqDiff, Nat.reduceLT, Nat.reduceAdd, Nat.reduceMul, Nat.reduceSub, Int.reduceLT, Int.reduceLE, Int.reduceEq, Int.reduceToNat, Int.reduceAdd, Int.reduceSub, Int.reduceMul, Int.reduceNeg, Int.cast_ofNat_Int, false_and, and_false, j4', r1, r2, y1]
    by_cases h3 : sSo σ j = -1
    · rw [if_pos h3, if_neg (by decide)]
      have e : noT σ (j : Int) = -6 := by unfold noT; rw [if_pos h1, Int.toNat_natCast, if_pos h3]
      rw [e] at no
      exact no (by decide)
    · rw [if_neg h3, if_pos (by trivial)]
      obtain ⟨z1, z2, z3⟩ := y2 h3
      have n0 : noT σ (j : Int) = 0 := by unfold noT; rw [if_pos h1, Int.toNat_natCast, if_neg h3]
      simp only [n0, if_true, true_and, Int.toNat_natCast] at k
      simp only [rX11_perform_26, rX11_perform_27, rX11_perform_30, rX11_perform_31, rX11_perform_34, Cs_K200 m, Cs_R200_0 m, Cs_R200_1 m, Cs_R200_2 m, Cs_R200_3 m, Cs_R200_4 m, Cs_R200_5 m, Cs_R200_6 m, Cs_K201 m, Cs_R201_0 m, Cs_R201_1 m, Cs_K202 m, Cs_K203 m, Cs_K211 m, Cs_R211_0 m, Cs_R211_1 m, Cs_K212 m, Cs_K213 m, Cs_K214 m, Cs_R214_0 m, Cs_R214_1 m, Cs_K215 m, Cs_K216 m, Cs_K217 m, Cs_R217_0 m, Cs_R217_1 m, Cs_K218 m, Cs_K219 m, Cs_K220 m, Cs_R220_0 m, Cs_K221 m, Cs_K262 m, Cs_K271 m, Cs_R271_0 m, Cs_R271_1 m, Cs_K272 m, Cs_K276 m, Cs_R272_0 m, Cs_R276_0 m, Cs_K273 m, Cs_R273_0 m, Cs_R273_1 m, Cs_K274 m, Cs_K275 m, Cs_K277 m, Cs_R277_0 m, Cs_R277_1 m, Cs_K278 m, Cs_K279 m, Cs_R262_0 m, Cs_K263 m, Cs_R263_0 m, Cs_K264 m, Cs_R262_1 m, Cs_K265 m, Cs_R265_0 m, Cs_K266 m, Cs_R262_2 m, Cs_K267 m, Cs_R267_0 m, Cs_K268 m, Cs_R262_3 m, Cs_K269 m, Cs_R269_0 m, Cs_K270 m, Int.toNat_natCast, Int.natCast_nonneg, true_and, and_true, and_self, if_true, if_false, or_true, true_or, or_false, false_or, ne_eq, not_true_eq_false, not_false_eq_true, Nat.reduceLeDiff, Nat.reduceEqDiff, Nat.reduceLT, Nat.reduceAdd, Nat.reduceMul, Nat.reduceSub, Int.reduceLT, Int.reduceLE, Int.reduceEq, Int.reduceToNat, Int.reduceAdd, Int.reduceSub, Int.reduceMul, Int.reduceNeg, Int.cast_ofNat_Int, false_and, and_false]
      refine S_markNow (d := d + 5) x w ?_
      intro h1' f1 mk1 c1 s1 x1
      have m1 := c1.1
      simp only [psh_none, rX11_perform_37, rX11_perform_38, rX11_perform_39, rX11_perform_42, rX11_perform_43, rX11_perform_46, rX11_perform_47, rX11_perform_48, rX11_actAll_0, rX11_actAll_1, Cs_K200 m1, Cs_R200_0 m1, Cs_R200_1 m1, Cs_R200_2 m1, Cs_R200_3 m1, Cs_R200_4 m1, Cs_R200_5 m1, Cs_R200_6 m1, Cs_K201 m1, Cs_R201_0 m1, Cs_R201_1 m1, Cs_K202 m1, Cs_K203 m1, Cs_K211 m1, Cs_R211_0 m1, Cs_R211_1 m1, Cs_K212 m1, Cs_K213 m1, Cs_K214 m1, Cs_R214_0 m1, Cs_R214_1 m1, Cs_K215 m1, Cs_K216 m1, Cs_K217 m1, Cs_R217_0 m1, Cs_R217_1 m1, Cs_K218 m1, Cs_K219 m1, Cs_K220 m1, Cs_R220_0 m1, Cs_K221 m1, Cs_K262 m1, Cs_K271 m1, Cs_R271_0 m1, Cs_R271_1 m1, Cs_K272 m1, Cs_K276 m1, Cs_R272_0 m1, Cs_R276_0 m1, Cs_K273 m1, Cs_R273_0 m1, Cs_R273_1 m1, Cs_K274 m1, Cs_K275 m1, Cs_K277 m1, Cs_R277_0 m1, Cs_R277_1 m1, Cs_K278 m1, Cs_K279 m1, Cs_R262_0 m1, Cs_K263 m1, Cs_R263_0 m1, Cs_K264 m1, Cs_R262_1 m1, Cs_K265 m1, Cs_R265_0 m1, Cs_K266 m1, Cs_R262_2 m1, Cs_K267 m1, Cs_R267_0 m1, Cs_K268 m1, Cs_R262_3 m1, Cs_K269 m1, Cs_R269_0 m1, Cs_K270 m1, Int.toNat_natCast, Int.natCast_nonneg, true_and, and_true, and_self, if_true, if_false, or_true, true_or, or_false, false_or, ne_eq, not_true_eq_false, not_false_eq_true, Nat.reduceLeDiff, Nat.reduceEqDiff, Nat.reduceLT, Nat.reduceAdd, Nat.reduceMul, Nat.reduceSub, Int.reduceLT, Int.reduceLE, Int.reduceEq, Int.reduceToNat, Int.reduceAdd, Int.reduceSub, Int.reduceMul, Int.reduceNeg, Int.cast_ofNat_Int, false_and, and_false, j4', (Cs_tray m1 j4).1]
      have hNj : hI h1' (263 + 2 * j) 3 = (((sM σ j).toNat : Nat) : Int) := by rw [f1.I (by unfold rgP; omega), z2]; omega
      obtain ⟨R1, R2, R3, R4⟩ := Cs_tray m1 j4
      refine S_actAll (h0 := h1') (N := (sM σ j).toNat) (f := fun k => sB σ (40 * j + k)) (r := rwS σ j) c1 (Or.inl rfl) (by omega) R2 (by rw [R3]; omega) (by rw [show 263 + 2 * j + 1 = 264 + 2 * j by omega]; exact R4) hNj (by omega) (fun i hi => by rw [f1.J (by unfold rgP; omega), show 263 + 2 * j + 1 = 264 + 2 * j by omega]; exact z3 i hi) ?_ _ 0 _ _ (Nat.zero_add _) (Fp.refl _ _) s1 w.2.1 rfl
      intro h2' f2 s2
      have fd := (f1.mono (P' := dP) (fun a k q => rgP_d q)).trans (f2.mono (fun a k q => aPs_d q))
      have m2 := m.fr fd
      have mk2 := mk1.fr f2 (fun a k q => by unfold aPs at q; omega)
      simp only [psh_some, rX11_perform_51, rX11_perform_52, rX11_perform_53]
      by_cases h0 : 0 < (rwS σ j).1
      · simp only [if_pos h0] at k
        rw [if_pos (by omega)]
        simp only [rX11_perform_56, rX11_perform_57, rX11_perform_60, Cs_K200 m2, Cs_R200_0 m2, Cs_R200_1 m2, Cs_R200_2 m2, Cs_R200_3 m2, Cs_R200_4 m2, Cs_R200_5 m2, Cs_R200_6 m2, Cs_K201 m2, Cs_R201_0 m2, Cs_R201_1 m2, Cs_K202 m2, Cs_K203 m2, Cs_K211 m2, Cs_R211_0 m2, Cs_R211_1 m2, Cs_K212 m2, Cs_K213 m2, Cs_K214 m2, Cs_R214_0 m2, Cs_R214_1 m2, Cs_K215 m2, Cs_K216 m2, Cs_K217 m2, Cs_R217_0 m2, Cs_R217_1 m2, Cs_K218 m2, Cs_K219 m2, Cs_K220 m2, Cs_R220_0 m2, Cs_K221 m2, Cs_K262 m2, Cs_K271 m2, Cs_R271_0 m2, Cs_R271_1 m2, Cs_K272 m2, Cs_K276 m2, Cs_R272_0 m2, Cs_R276_0 m2, Cs_K273 m2, Cs_R273_0 m2, Cs_R273_1 m2, Cs_K274 m2, Cs_K275 m2, Cs_K277 m2, Cs_R277_0 m2, Cs_R277_1 m2, Cs_K278 m2, Cs_K279 m2, Cs_R262_0 m2, Cs_K263 m2, Cs_R263_0 m2, Cs_K264 m2, Cs_R262_1 m2, Cs_K265 m2, Cs_R265_0 m2, Cs_K266 m2, Cs_R262_2 m2, Cs_K267 m2, Cs_R267_0 m2, Cs_K268 m2, Cs_R262_3 m2, Cs_K269 m2, Cs_R269_0 m2, Cs_K270 m2, Int.toNat_natCast, Int.natCast_nonneg, true_and, and_true, and_self, if_true, if_false, or_true, true_or, or_false, false_or, ne_eq, not_true_eq_false, not_false_eq_true, Nat.reduceLeDiff, Nat.reduceEqDiff, Nat.reduceLT, Nat.reduceAdd, Nat.reduceMul, Nat.reduceSub, Int.reduceLT, Int.reduceLE, Int.reduceEq, Int.reduceToNat, Int.reduceAdd, Int.reduceSub, Int.reduceMul, Int.reduceNeg, Int.cast_ofNat_Int, false_and, and_false]
        refine S_keepNow (d := d + 5) x w fd mk2 s2 ?_
        intro h3' x3 f3 g3
        simp only [psh_none, rX11_perform_63, rX11_perform_64]
        exact k h3' x3 f3
      · simp only [if_neg h0] at k
        rw [if_neg (by omega)]
        simp only [rX11_perform_63, rX11_perform_64]
        obtain ⟨o1, o2, o3, o4, o5, o6⟩ := rowD_ok w.1 (f := fun k => sB σ (40 * j + k)) (sM σ j).toNat 0 (stA (sA σ)) w.2.1
        have e4 : (rwS σ j).2.1 = stA (sA σ) := o4 (by show (rwS σ j).1 = 0; omega)
        rw [e4] at s2
        exact k h2' (C_no x w fd s2 mk2.past) (Cfr_d fd)
  · rw [if_neg h1, if_pos (by trivial)]
    have e : noT σ t = -2 := by unfold noT; rw [if_neg h1]
    rw [e] at no
    exact no (by decide)
/-! summers -/
theorem ush16 (a : Int) : 0 ≤ iushr a 16 ∧ iushr a 16 < 65536 := by
  unfold iushr
  have e : (Int32.ofInt 16).toUInt32 &&& Int32.toUInt32 31 = 16 := by decide
  rw [e]
  generalize (Int32.ofInt a).toUInt32 = u
  have h1 : (u >>> 16).toNat = u.toNat / 65536 := by
    rw [UInt32.toNat_shiftRight]
    simp [Nat.shiftRight_eq_div_pow]
  have h2 : u.toNat < 4294967296 := u.toNat_lt
  have h3 : (u >>> 16).toInt32.toInt = (((u >>> 16).toNat : Nat) : Int) := by
    show (u >>> 16).toBitVec.toInt = (((u >>> 16).toBitVec.toNat : Nat) : Int)
    rw [BitVec.toInt_eq_toNat_of_lt]
    have : (u >>> 16).toBitVec.toNat = (u >>> 16).toNat := rfl
    omega
  rw [h3, h1]
  omega
def drw (x : Int) : Int := w32 (w32 (1103515245 * x) + 12345)
def drm (x m : Int) : Int := iushr x 16 % m
/-- a deed that is drawn, and where the drawing stands then -/
def oneD (x : Int) : Int × Int := if drm (drw x) 6 < 4 then (drm (drw (drw x)) 6, drw (drw x)) else if drm (drw x) 6 = 4 then (2000 + drm (drw (drw x)) 6, drw (drw x)) else (3000 + 10 * drm (drw (drw x)) 6 + drm (drw (drw (drw x))) 10, drw (drw (drw x)))
def sumD (A : Nat → Int) : Nat → Int → (Nat → Int) → Nat → Nat × (Nat → Int)
  | 0, _, B, c => (c, B)
  | n + 1, x, B, c => if whyD A B (oneD x).1 = 0 then sumD A n (oneD x).2 (doD A B (oneD x).1) (c + 1) else sumD A n (oneD x).2 B c
theorem drm_in (x : Int) {m : Int} (hm : 0 < m) : 0 ≤ drm x m ∧ drm x m < m := by
  unfold drm
  exact ⟨Int.emod_nonneg _ (by omega), Int.emod_lt_of_pos _ hm⟩
theorem sumD_ok {A : Nat → Int} (po : poolOk A) : ∀ (n : Nat) (x : Int) (B : Nat → Int) (c : Nat), stOk B → stOk (sumD A n x B c).2 ∧ c ≤ (sumD A n x B c).1 ∧ (sumD A n x B c).1 ≤ c + n ∧ ((sumD A n x B c).1 = c → (sumD A n x B c).2 = B) := by
  intro n
  induction n with
  | zero => intro x B c so; exact ⟨so, Nat.le_refl _, Nat.le_refl _, fun _ => rfl⟩
  | succ n ih =>
    intro x B c so
    unfold sumD
    by_cases hw : whyD A B (oneD x).1 = 0
    · rw [if_pos hw]
      obtain ⟨a1, a2, a3, a4⟩ := ih (oneD x).2 (doD A B (oneD x).1) (c + 1) (doD_ok po so hw)
      exact ⟨a1, by omega, by omega, fun h => by omega⟩
    · rw [if_neg hw]
      obtain ⟨a1, a2, a3, a4⟩ := ih (oneD x).2 B c so
      exact ⟨a1, by omega, by omega, a4⟩
theorem oneD_in (x : Int) : 0 ≤ (oneD x).1 ∧ (oneD x).1 ≤ 3099 := by
  have a := drm_in (drw (drw x)) (m := 6) (by decide)
  have b := drm_in (drw (drw (drw x))) (m := 10) (by decide)
  unfold oneD
  split
  · exact ⟨a.1, by show drm (drw (drw x)) 6 ≤ 3099; omega⟩
  · split
    · exact ⟨by show 0 ≤ 2000 + drm (drw (drw x)) 6; omega, by show 2000 + drm (drw (drw x)) 6 ≤ 3099; omega⟩
    · exact ⟨by show 0 ≤ 3000 + 10 * drm (drw (drw x)) 6 + drm (drw (drw (drw x))) 10; omega, by show 3000 + 10 * drm (drw (drw x)) 6 + drm (drw (drw (drw x))) 10 ≤ 3099; omega⟩
theorem drw_tm (x : Int) {m : Int} : (iushr x 16).tmod m = drm x m := tmod_n (ush16 x).1
theorem S_rDraw {d : Nat} {Q : Option PV → Hp → Prop} {h : Hp} (m : MdOk h) {b : Int} (hb : b ≠ 0) : WP d mX12_draw 0 [some (.inr (.inr 294)), some (.inl b)] [] h Q = Q (some (.inl (drm (drw (hI h 294 23)) b))) (wI h 294 23 (drw (hI h 294 23))) := by
  simp only [rX12_draw_0, rX12_draw_1, rX12_draw_4, rX12_draw_5, rX12_draw_8, rX12_draw_9, rX12_draw_12, rX12_draw_13, rX12_draw_16, rX12_draw_17, rX12_draw_20, rX12_draw_22, rX12_draw_23, rX12_draw_24, rX12_draw_25, hN_wI, hN_wJ, hN_wR, hS_wI, hS_wJ, hS_wR, hK_wI, hK_wJ, hK_wR, hI_wI, hI_wJ, hI_wR, hJ_wI, hJ_wJ, hJ_wR, hR_wI, hR_wJ, hR_wR, hN_nw, hS_nw, hK_nw, hI_nw, hJ_nw, hR_nw, psh_some, psh_none, Md_K280 m, Md_R281 m, Md_K281 m, Md_R282 m, Md_K282 m, Md_R283 m, Md_K283 m, Md_R284 m, Md_K284 m, Md_R285 m, Md_K285 m, Md_R286 m, Md_K286 m, Md_R287 m, Md_K287 m, Md_R288 m, Md_K288 m, Md_R289 m, Md_K289 m, Md_R290 m, Md_K290 m, Md_R291 m, Md_K291 m, Md_R292 m, Md_K292 m, Md_R293 m, Md_K293 m, Md_R294 m, Md_K294 m, Md_R295 m, Md_K295 m, Md_R296 m, Md_K296 m, Md_R297 m, Md_K297 m, Md_R298 m, Md_K298 m, Md_R299 m, Md_K299 m, Int.toNat_natCast, Int.natCast_nonneg, true_and, and_true, and_self, if_true, if_false, or_true, true_or, or_false, false_or, ne_eq, not_true_eq_false, not_false_eq_true, Nat.reduceLeDiff, Nat.reduceEqDiff, Nat.reduceLT, Nat.reduceAdd, Nat.reduceMul, Nat.reduceSub, Int.reduceLT, Int.reduceLE, Int.reduceEq, Int.reduceToNat, Int.reduceAdd, Int.reduceSub, Int.reduceMul, Int.reduceNeg, Int.cast_ofNat_Int, false_and, and_false, drw_tm, hb]
  rfl
theorem wI_wI (h : Hp) (a k : Nat) (v w : Int) : wI (wI h a k v) a k w = wI h a k w := by
  unfold wI
  congr 4
  funext b j
  simp only [up2_at]
  split <;> rfl
theorem S_rDrawn {d : Nat} {Q : Option PV → Hp → Prop} {h : Hp} (m : MdOk h) : WP (d + 1) mX12_drawn 0 [some (.inr (.inr 294)), none, none] [] h Q = Q (some (.inl (oneD (hI h 294 23)).1)) (wI h 294 23 (oneD (hI h 294 23)).2) := by
  have m1 : ∀ v, MdOk (wI h 294 23 v) := fun v => m.fr ((Fp.refl (fun _ _ => True) h).wI trivial v)
  have a := drm_in (drw (drw (hI h 294 23))) (m := 6) (by decide)
  have b := drm_in (drw (drw (drw (hI h 294 23)))) (m := 10) (by decide)
  have c := drm_in (drw (hI h 294 23)) (m := 6) (by decide)
  unfold oneD
  simp only [rX12_drawn_0, rX12_drawn_1, rX12_drawn_3, rX12_drawn_6, rX12_drawn_7, rX12_drawn_8, rX12_drawn_10, rX12_drawn_13, rX12_drawn_14, rX12_drawn_15, rX12_drawn_16, Md_K280 m, Md_R281 m, Md_K281 m, Md_R282 m, Md_K282 m, Md_R283 m, Md_K283 m, Md_R284 m, Md_K284 m, Md_R285 m, Md_K285 m, Md_R286 m, Md_K286 m, Md_R287 m, Md_K287 m, Md_R288 m, Md_K288 m, Md_R289 m, Md_K289 m, Md_R290 m, Md_K290 m, Md_R291 m, Md_K291 m, Md_R292 m, Md_K292 m, Md_R293 m, Md_K293 m, Md_R294 m, Md_K294 m, Md_R295 m, Md_K295 m, Md_R296 m, Md_K296 m, Md_R297 m, Md_K297 m, Md_R298 m, Md_K298 m, Md_R299 m, Md_K299 m, Int.toNat_natCast, Int.natCast_nonneg, true_and, and_true, and_self, if_true, if_false, or_true, true_or, or_false, false_or, ne_eq, not_true_eq_false, not_false_eq_true, Nat.reduceLeDiff, Nat.reduceEqDiff, Nat.reduceLT, Nat.reduceAdd, Nat.reduceMul, Nat.reduceSub, Int.reduceLT, Int.reduceLE, Int.reduceEq, Int.reduceToNat, Int.reduceAdd, Int.reduceSub, Int.reduceMul, Int.reduceNeg, Int.cast_ofNat_Int, false_and, and_false, S_rDraw m (b := 6) (by decide), psh_some, hN_wI, hN_wJ, hN_wR, hS_wI, hS_wJ, hS_wR, hK_wI, hK_wJ, hK_wR, hI_wI, hI_wJ, hI_wR, hJ_wI, hJ_wJ, hJ_wR, hR_wI, hR_wJ, hR_wR, hN_nw, hS_nw, hK_nw, hI_nw, hJ_nw, hR_nw, psh_some, psh_none, S_rDraw (m1 _) (b := 6) (by decide), wI_wI]
  by_cases h1 : drm (drw (hI h 294 23)) 6 < 4
  · simp only [if_pos h1, rX12_drawn_19, rX12_drawn_20, rX12_drawn_51]
  · simp only [if_neg h1, rX12_drawn_23, rX12_drawn_24, rX12_drawn_25]
    by_cases h2 : drm (drw (hI h 294 23)) 6 = 4
    · simp only [if_pos h2, rX12_drawn_28, rX12_drawn_31, rX12_drawn_32, rX12_drawn_33, rX12_drawn_51, w32_i (z := 2000 + drm (drw (drw (hI h 294 23))) 6) (by omega) (by omega)]
    · simp only [if_neg h2, rX12_drawn_36, rX12_drawn_39, rX12_drawn_41, rX12_drawn_42, rX12_drawn_43]
      simp only [w32_i (z := 10 * drm (drw (drw (hI h 294 23))) 6) (by omega) (by omega), w32_i (z := 3000 + 10 * drm (drw (drw (hI h 294 23))) 6) (by omega) (by omega)]
      simp only [rX12_drawn_44, rX12_drawn_45, rX12_drawn_47, rX12_drawn_50, rX12_drawn_51, Md_K280 (m1 _), Int.toNat_natCast, Int.natCast_nonneg, true_and, and_true, and_self, if_true, if_false, or_true, true_or, or_false, false_or, ne_eq, not_true_eq_false, not_false_eq_true, Nat.reduceLeDiff, Nat.reduceEqDiff, Nat.reduceLT, Nat.reduceAdd, Nat.reduceMul, Nat.reduceSub, Int.reduceLT, Int.reduceLE, Int.reduceEq, Int.reduceToNat, Int.reduceAdd, Int.reduceSub, Int.reduceMul, Int.reduceNeg, Int.cast_ofNat_Int, false_and, and_false, S_rDraw (m1 _) (b := 10) (by decide), psh_some, hN_wI, hN_wJ, hN_wR, hS_wI, hS_wJ, hS_wR, hK_wI, hK_wJ, hK_wR, hI_wI, hI_wJ, hI_wR, hJ_wI, hJ_wJ, hJ_wR, hR_wI, hR_wJ, hR_wR, hN_nw, hS_nw, hK_nw, hI_nw, hJ_nw, hR_nw, psh_some, psh_none, wI_wI, w32_i (z := 3000 + 10 * drm (drw (drw (hI h 294 23))) 6 + drm (drw (drw (drw (hI h 294 23)))) 10) (by omega) (by omega)]
set_option maxHeartbeats 1000000 in
theorem rsum_loop {d : Nat} {Q : Option PV → Hp → Prop} {h0 : Hp} {A : Nat → Int} {sd : Int} {N : Nat} (hN4 : N ≤ 40) {r : Nat × (Nat → Int)}
    (k : ∀ h', Fp (fun a k => zP a k ∨ (a = 294 ∧ k = 23)) h0 h' → RS h' A r.2 → WP (d + 7) mX12_summer 74 [some (.inr (.inr 294)), some (.inl sd), some (.inl (N : Int)), some (.inl (r.1 : Int)), some (.inl (N : Int)), none] [] h' Q ∧ ∀ z, WP (d + 7) mX12_summer 74 [some (.inr (.inr 294)), some (.inl sd), some (.inl (N : Int)), some (.inl (r.1 : Int)), some (.inl (N : Int)), some (.inl z)] [] h' Q) :
    ∀ (n i c : Nat) (h : Hp) (B : Nat → Int) (x5 : Option PV), (x5 = none ∨ ∃ z, x5 = some (.inl z)) → i + n = N → c ≤ i → Fp (fun a k => zP a k ∨ (a = 294 ∧ k = 23)) h0 h → RS h A B → sumD A n (hI h 294 23) B c = r → WP (d + 7) mX12_summer 34 [some (.inr (.inr 294)), some (.inl sd), some (.inl (N : Int)), some (.inl (c : Int)), some (.inl (i : Int)), x5] [] h Q := by
  intro n
  induction n with
  | zero =>
    intro i c h B x5 hx hi hc fr rs hr
    have hiN : (i : Int) = (N : Int) := by omega
    simp only [rX12_summer_34, rX12_summer_36, rX12_summer_37, hiN, Int.lt_irrefl, Int.toNat_natCast, Int.natCast_nonneg, true_and, and_true, and_self, if_true, if_false, or_true, true_or, or_false, false_or, ne_eq, not_true_eq_false, not_false_eq_true, Nat.reduceLeDiff, Nat.reduceEqDiff, Nat.reduceLT, Nat.reduceAdd, Nat.reduceMul, Nat.reduceSub, Int.reduceLT, Int.reduceLE, Int.reduceEq, Int.reduceToNat, Int.reduceAdd, Int.reduceSub, Int.reduceMul, Int.reduceNeg, Int.cast_ofNat_Int, false_and, and_false]
    unfold sumD at hr
    have k0 := k h fr
    rw [← hr] at k0
    rcases hx with rfl | ⟨z, rfl⟩
    · exact (k0 rs).1
    · exact (k0 rs).2 z
  | succ n ih =>
    intro i c h B x5 hx hi hc fr rs hr
    have m := rs.1
    have l1 : (i : Int) < (N : Int) := by omega
    have l2 : w32 ((i : Int) + 1) = ((i + 1 : Nat) : Int) := w32_s (by omega)
    have l3 : w32 ((c : Int) + 1) = ((c + 1 : Nat) : Int) := w32_s (by omega)
    have l4 : (i + 1) + n = N := by omega
    rw [rX12_summer_34]
    simp only [rX12_summer_36, rX12_summer_37, rX12_summer_40, rX12_summer_41, Md_K280 m, Md_R281 m, Md_K281 m, Md_R282 m, Md_K282 m, Md_R283 m, Md_K283 m, Md_R284 m, Md_K284 m, Md_R285 m, Md_K285 m, Md_R286 m, Md_K286 m, Md_R287 m, Md_K287 m, Md_R288 m, Md_K288 m, Md_R289 m, Md_K289 m, Md_R290 m, Md_K290 m, Md_R291 m, Md_K291 m, Md_R292 m, Md_K292 m, Md_R293 m, Md_K293 m, Md_R294 m, Md_K294 m, Md_R295 m, Md_K295 m, Md_R296 m, Md_K296 m, Md_R297 m, Md_K297 m, Md_R298 m, Md_K298 m, Md_R299 m, Md_K299 m, Int.toNat_natCast, Int.natCast_nonneg, true_and, and_true, and_self, if_true, if_false, or_true, true_or, or_false, false_or, ne_eq, not_true_eq_false, not_false_eq_true, Nat.reduceLeDiff, Nat.reduceEqDiff, Nat.reduceLT, Nat.reduceAdd, Nat.reduceMul, Nat.reduceSub, Int.reduceLT, Int.reduceLE, Int.reduceEq, Int.reduceToNat, Int.reduceAdd, Int.reduceSub, Int.reduceMul, Int.reduceNeg, Int.cast_ofNat_Int, false_and, and_false, l1, S_rDrawn m, psh_some]
    unfold sumD at hr
    generalize hv : (oneD (hI h 294 23)).1 = v at hr ⊢
    generalize hy : (oneD (hI h 294 23)).2 = y at hr ⊢
    have f1 : Fp (fun a k => zP a k ∨ (a = 294 ∧ k = 23)) h0 (wI h 294 23 y) := fr.wI (Or.inr ⟨rfl, rfl⟩) _
    have rs1 : RS (wI h 294 23 y) A B := ⟨m.fr ((Fp.refl (fun _ _ => True) h).wI trivial _), fun j hj => by rw [hI_wI, if_neg (by omega)]; exact rs.2.1 j hj, rs.2.2⟩
    have m1 := rs1.1
    simp only [rX12_summer_44, rX12_summer_46, rX12_summer_47, rX12_summer_49, rX12_summer_50, Md_K280 m1, Md_R281 m1, Md_K281 m1, Md_R282 m1, Md_K282 m1, Md_R283 m1, Md_K283 m1, Md_R284 m1, Md_K284 m1, Md_R285 m1, Md_K285 m1, Md_R286 m1, Md_K286 m1, Md_R287 m1, Md_K287 m1, Md_R288 m1, Md_K288 m1, Md_R289 m1, Md_K289 m1, Md_R290 m1, Md_K290 m1, Md_R291 m1, Md_K291 m1, Md_R292 m1, Md_K292 m1, Md_R293 m1, Md_K293 m1, Md_R294 m1, Md_K294 m1, Md_R295 m1, Md_K295 m1, Md_R296 m1, Md_K296 m1, Md_R297 m1, Md_K297 m1, Md_R298 m1, Md_K298 m1, Md_R299 m1, Md_K299 m1, Int.toNat_natCast, Int.natCast_nonneg, true_and, and_true, and_self, if_true, if_false, or_true, true_or, or_false, false_or, ne_eq, not_true_eq_false, not_false_eq_true, Nat.reduceLeDiff, Nat.reduceEqDiff, Nat.reduceLT, Nat.reduceAdd, Nat.reduceMul, Nat.reduceSub, Int.reduceLT, Int.reduceLE, Int.reduceEq, Int.reduceToNat, Int.reduceAdd, Int.reduceSub, Int.reduceMul, Int.reduceNeg, Int.cast_ofNat_Int, false_and, and_false]
    refine S_whyNot (d := d + 1) rs1 ?_
    intro h2 f2
    have rs2 := rs1.fr f2
    have m2 := rs2.1
    have g2 : Fp (fun a k => zP a k ∨ (a = 294 ∧ k = 23)) h0 h2 := f1.trans (f2.mono (fun a k q => Or.inl (lP_z q)))
    have y2 : hI h2 294 23 = y := by rw [f2.I (by unfold lP; omega), hI_wI, if_pos ⟨rfl, rfl⟩]
    simp only [psh_some, rX12_summer_53]
    by_cases hw : whyD A B v = 0
    · rw [if_pos hw] at hr ⊢
      simp only [rX12_summer_59, rX12_summer_60, rX12_summer_62, Md_K280 m2, Md_R281 m2, Md_K281 m2, Md_R282 m2, Md_K282 m2, Md_R283 m2, Md_K283 m2, Md_R284 m2, Md_K284 m2, Md_R285 m2, Md_K285 m2, Md_R286 m2, Md_K286 m2, Md_R287 m2, Md_K287 m2, Md_R288 m2, Md_K288 m2, Md_R289 m2, Md_K289 m2, Md_R290 m2, Md_K290 m2, Md_R291 m2, Md_K291 m2, Md_R292 m2, Md_K292 m2, Md_R293 m2, Md_K293 m2, Md_R294 m2, Md_K294 m2, Md_R295 m2, Md_K295 m2, Md_R296 m2, Md_K296 m2, Md_R297 m2, Md_K297 m2, Md_R298 m2, Md_K298 m2, Md_R299 m2, Md_K299 m2, Int.toNat_natCast, Int.natCast_nonneg, true_and, and_true, and_self, if_true, if_false, or_true, true_or, or_false, false_or, ne_eq, not_true_eq_false, not_false_eq_true, Nat.reduceLeDiff, Nat.reduceEqDiff, Nat.reduceLT, Nat.reduceAdd, Nat.reduceMul, Nat.reduceSub, Int.reduceLT, Int.reduceLE, Int.reduceEq, Int.reduceToNat, Int.reduceAdd, Int.reduceSub, Int.reduceMul, Int.reduceNeg, Int.cast_ofNat_Int, false_and, and_false]
      refine S_does rs2 hw ?_
      intro h3 f3 rs3
      simp only [psh_none, rX12_summer_65, rX12_summer_68, rX12_summer_71, l2, l3]
      refine ih (i + 1) (c + 1) h3 _ _ (Or.inr ⟨_, rfl⟩) l4 (by omega) (g2.trans (f3.mono (fun a k q => Or.inl q))) rs3 ?_
      rw [f3.I (by unfold zP lP; omega), y2]; exact hr
    · rw [if_neg hw] at hr ⊢
      simp only [rX12_summer_56, rX12_summer_68, rX12_summer_71, l2]
      refine ih (i + 1) c h2 _ _ (Or.inr ⟨_, rfl⟩) l4 (by omega) g2 rs2 ?_
      rw [y2]; exact hr
def smS (σ : AS) (sd : Int) (n : Nat) : Nat × (Nat → Int) := sumD (sA σ) n sd (stA (sA σ)) 0
set_option maxHeartbeats 1000000 in
theorem R_summer {d : Nat} {σ : AS} {sd t : Int} : RSpec (d + 7) mX12_summer [some (.inr (.inr 294)), some (.inl sd), some (.inl t), none, none, none] σ (.inl (if 1 ≤ t ∧ t ≤ 40 then ((smS σ sd t.toNat).1 : Int) else -3)) (if (1 ≤ t ∧ t ≤ 40) ∧ 0 < (smS σ sd t.toNat).1 then nS σ (smS σ sd t.toNat).2 else σ) := by
  refine RSpec5.of ?_ (fun h Q hk => by simp only [rX12_summer_0, rX12_summer_1, rX12_summer_2, hk, Int.toNat_natCast, Int.natCast_nonneg, true_and, and_true, and_self, if_true, if_false, or_true, true_or, or_false, false_or, ne_eq, not_true_eq_false, not_false_eq_true, Nat.reduceLeDiff, Nat.reduceEqDiff, Nat.reduceLT, Nat.reduceAdd, Nat.reduceMul, Nat.reduceSub, Int.reduceLT, Int.reduceLE, Int.reduceEq, Int.reduceToNat, Int.reduceAdd, Int.reduceSub, Int.reduceMul, Int.reduceNeg, Int.cast_ofNat_Int, false_and, and_false])
  intro h Q x w k
  have m := x.1
  have rs := x.rs w
  simp only [rX12_summer_5, rX12_summer_6, rX12_summer_7, rX12_summer_8, rX12_summer_11, rX12_summer_14, rX12_summer_17, rX12_summer_19, S_within, psh_some]
  by_cases h1 : 1 ≤ t ∧ t ≤ 40
  · simp only [h1, true_and, and_true, if_true] at k
    rw [if_pos h1, if_neg (by decide)]
    obtain ⟨n, rfl⟩ := Int.eq_ofNat_of_zero_le (show 0 ≤ t by omega)
    simp only [Int.toNat_natCast] at k
    simp only [rX12_summer_20, rX12_summer_21, Md_K280 m, Md_R281 m, Md_K281 m, Md_R282 m, Md_K282 m, Md_R283 m, Md_K283 m, Md_R284 m, Md_K284 m, Md_R285 m, Md_K285 m, Md_R286 m, Md_K286 m, Md_R287 m, Md_K287 m, Md_R288 m, Md_K288 m, Md_R289 m, Md_K289 m, Md_R290 m, Md_K290 m, Md_R291 m, Md_K291 m, Md_R292 m, Md_K292 m, Md_R293 m, Md_K293 m, Md_R294 m, Md_K294 m, Md_R295 m, Md_K295 m, Md_R296 m, Md_K296 m, Md_R297 m, Md_K297 m, Md_R298 m, Md_K298 m, Md_R299 m, Md_K299 m, Int.toNat_natCast, Int.natCast_nonneg, true_and, and_true, and_self, if_true, if_false, or_true, true_or, or_false, false_or, ne_eq, not_true_eq_false, not_false_eq_true, Nat.reduceLeDiff, Nat.reduceEqDiff, Nat.reduceLT, Nat.reduceAdd, Nat.reduceMul, Nat.reduceSub, Int.reduceLT, Int.reduceLE, Int.reduceEq, Int.reduceToNat, Int.reduceAdd, Int.reduceSub, Int.reduceMul, Int.reduceNeg, Int.cast_ofNat_Int, false_and, and_false]
    refine S_keeps rs ?_
    intro h1' f1 e1
    have rs1 := rs.ke f1
    have m1 := rs1.1
    simp only [psh_none, rX12_summer_24, rX12_summer_25, rX12_summer_26, rX12_summer_29, rX12_summer_30, rX12_summer_31, rX12_summer_32, Md_K280 m1, Md_R281 m1, Md_K281 m1, Md_R282 m1, Md_K282 m1, Md_R283 m1, Md_K283 m1, Md_R284 m1, Md_K284 m1, Md_R285 m1, Md_K285 m1, Md_R286 m1, Md_K286 m1, Md_R287 m1, Md_K287 m1, Md_R288 m1, Md_K288 m1, Md_R289 m1, Md_K289 m1, Md_R290 m1, Md_K290 m1, Md_R291 m1, Md_K291 m1, Md_R292 m1, Md_K292 m1, Md_R293 m1, Md_K293 m1, Md_R294 m1, Md_K294 m1, Md_R295 m1, Md_K295 m1, Md_R296 m1, Md_K296 m1, Md_R297 m1, Md_K297 m1, Md_R298 m1, Md_K298 m1, Md_R299 m1, Md_K299 m1, Int.toNat_natCast, Int.natCast_nonneg, true_and, and_true, and_self, if_true, if_false, or_true, true_or, or_false, false_or, ne_eq, not_true_eq_false, not_false_eq_true, Nat.reduceLeDiff, Nat.reduceEqDiff, Nat.reduceLT, Nat.reduceAdd, Nat.reduceMul, Nat.reduceSub, Int.reduceLT, Int.reduceLE, Int.reduceEq, Int.reduceToNat, Int.reduceAdd, Int.reduceSub, Int.reduceMul, Int.reduceNeg, Int.cast_ofNat_Int, false_and, and_false]
    have rs2 : RS (wI h1' 294 23 sd) (sA σ) (stA (sA σ)) := ⟨m1.fr ((Fp.refl (fun _ _ => True) _).wI trivial _), fun j hj => by rw [hI_wI, if_neg (by omega)]; exact rs1.2.1 j hj, rs1.2.2⟩
    have fin : ∀ h' x5, Fp (fun a k => zP a k ∨ (a = 294 ∧ k = 23)) (wI h1' 294 23 sd) h' → RS h' (sA σ) (smS σ sd n).2 → WP (d + 7) mX12_summer 74 [some (.inr (.inr 294)), some (.inl sd), some (.inl (n : Int)), some (.inl ((smS σ sd n).1 : Int)), some (.inl (n : Int)), x5] [] h' Q := by
      intro h3 x5 f3 rs3
      have m3 := rs3.1
      have fq : Fp qP h h3 := ((f1.mono (fun a k q => keP_q q)).wI (a := 294) (k := 23) (by unfold qP uP; omega) sd).trans (f3.mono (fun a k q => by unfold zP lP at q; unfold qP uP; omega))
      simp only [rX12_summer_74, rX12_summer_75]
      by_cases h0 : 0 < (smS σ sd n).1
      · simp only [if_pos h0] at k
        rw [if_pos (by omega)]
        simp only [rX12_summer_78, rX12_summer_79, Md_K280 m3, Md_R281 m3, Md_K281 m3, Md_R282 m3, Md_K282 m3, Md_R283 m3, Md_K283 m3, Md_R284 m3, Md_K284 m3, Md_R285 m3, Md_K285 m3, Md_R286 m3, Md_K286 m3, Md_R287 m3, Md_K287 m3, Md_R288 m3, Md_K288 m3, Md_R289 m3, Md_K289 m3, Md_R290 m3, Md_K290 m3, Md_R291 m3, Md_K291 m3, Md_R292 m3, Md_K292 m3, Md_R293 m3, Md_K293 m3, Md_R294 m3, Md_K294 m3, Md_R295 m3, Md_K295 m3, Md_R296 m3, Md_K296 m3, Md_R297 m3, Md_K297 m3, Md_R298 m3, Md_K298 m3, Md_R299 m3, Md_K299 m3, Int.toNat_natCast, Int.natCast_nonneg, true_and, and_true, and_self, if_true, if_false, or_true, true_or, or_false, false_or, ne_eq, not_true_eq_false, not_false_eq_true, Nat.reduceLeDiff, Nat.reduceEqDiff, Nat.reduceLT, Nat.reduceAdd, Nat.reduceMul, Nat.reduceSub, Int.reduceLT, Int.reduceLE, Int.reduceEq, Int.reduceToNat, Int.reduceAdd, Int.reduceSub, Int.reduceMul, Int.reduceNeg, Int.cast_ofNat_Int, false_and, and_false]
        refine S_notesNow x w fq rs3 (fun q hq => by rw [f3.I (by unfold zP lP; omega), hI_wI, if_neg (by omega)]; exact e1 q hq) ?_
        intro h4 x4 f4 g4
        simp only [psh_none, rX12_summer_82, rX12_summer_83]
        exact k h4 x4 f4
      · simp only [if_neg h0] at k
        rw [if_neg (by omega)]
        simp only [rX12_summer_82, rX12_summer_83]
        have e4 : (smS σ sd n).2 = stA (sA σ) := (sumD_ok w.1 n sd (stA (sA σ)) 0 w.2.1).2.2.2 (by show (smS σ sd n).1 = 0; omega)
        have x3 : RRep h3 σ := by
          have := x.a fq rs3.2.1
          rw [e4, putS_self] at this
          exact this
        exact k h3 x3 (fq.mono (fun a k q => qP_r q))
    refine rsum_loop (h0 := wI h1' 294 23 sd) (r := smS σ sd n) (by omega) (fun h' f' rs' => ⟨fin h' _ f' rs', fun z => fin h' _ f' rs'⟩) n 0 0 _ _ _ (Or.inl rfl) (by omega) (by omega) (Fp.refl _ _) rs2 ?_
    rw [hI_wI, if_pos ⟨rfl, rfl⟩]; rfl
  · simp only [h1, false_and, if_false] at k
    rw [if_neg h1, if_pos (by trivial)]
    exact k h x (Fp.refl _ h)
set_option maxHeartbeats 1000000 in
theorem csum_loop {d : Nat} {Q : Option PV → Hp → Prop} {h0 : Hp} {A : Nat → Int} {sd : Int} {N : Nat} (hN4 : N ≤ 40) (x0 : CpF h0 A) {r : Nat × (Nat → Int)}
    (k : ∀ h' x3 x6 x7, Fp (aPs 214) h0 h' → StIs h' 214 r.2 → WP (d + 6) mX11_summer 135 [some (.inr (.inr 200)), some (.inl sd), some (.inl (N : Int)), x3, some (.inl (r.1 : Int)), some (.inl (N : Int)), x6, x7] [] h' Q) :
    ∀ (n i c : Nat) (x : Int) (h : Hp) (B : Nat → Int) (x6 x7 : Option PV), i + n = N → c ≤ i → Fp (aPs 214) h0 h → StIs h 214 B → stOk B → sumD A n x B c = r → WP (d + 6) mX11_summer 33 [some (.inr (.inr 200)), some (.inl sd), some (.inl (N : Int)), some (.inl x), some (.inl (c : Int)), some (.inl (i : Int)), x6, x7] [] h Q := by
  intro n
  induction n with
  | zero =>
    intro i c x h B x6 x7 hi hc fr st ok hr
    have hiN : (i : Int) = (N : Int) := by omega
    simp only [rX11_summer_33, rX11_summer_35, rX11_summer_36, hiN, Int.lt_irrefl, Int.toNat_natCast, Int.natCast_nonneg, true_and, and_true, and_self, if_true, if_false, or_true, true_or, or_false, false_or, ne_eq, not_true_eq_false, not_false_eq_true, Nat.reduceLeDiff, Nat.reduceEqDiff, Nat.reduceLT, Nat.reduceAdd, Nat.reduceMul, Nat.reduceSub, Int.reduceLT, Int.reduceLE, Int.reduceEq, Int.reduceToNat, Int.reduceAdd, Int.reduceSub, Int.reduceMul, Int.reduceNeg, Int.cast_ofNat_Int, false_and, and_false]
    unfold sumD at hr
    have k0 := fun x3 => k h x3 x6 x7 fr
    rw [← hr] at k0
    exact k0 _ st
  | succ n ih =>
    intro i c x h B x6 x7 hi hc fr st ok hr
    have cc := x0.fr fr (fun a k q => aPs_s q)
    have m := cc.1
    have l1 : (i : Int) < (N : Int) := by omega
    have l2 : w32 ((i : Int) + 1) = ((i + 1 : Nat) : Int) := w32_s (by omega)
    have l3 : w32 ((c : Int) + 1) = ((c + 1 : Nat) : Int) := w32_s (by omega)
    have l4 : (i + 1) + n = N := by omega
    have step : ∀ (v y : Int) (a6 a7 : Option PV), oneD x = (v, y) → a7 = some (.inl v) → WP (d + 6) mX11_summer 112 [some (.inr (.inr 200)), some (.inl sd), some (.inl (N : Int)), some (.inl y), some (.inl (c : Int)), some (.inl (i : Int)), a6, a7] [] h Q := by
      intro v y a6 a7 hv ha
      subst ha
      unfold sumD at hr
      rw [hv] at hr
      simp only [rX11_summer_112, rX11_summer_113, rX11_summer_114, rX11_summer_117, rX11_summer_119, rX11_summer_120, Cs_K200 m, Cs_R200_0 m, Cs_R200_1 m, Cs_R200_2 m, Cs_R200_3 m, Cs_R200_4 m, Cs_R200_5 m, Cs_R200_6 m, Cs_K201 m, Cs_R201_0 m, Cs_R201_1 m, Cs_K202 m, Cs_K203 m, Cs_K211 m, Cs_R211_0 m, Cs_R211_1 m, Cs_K212 m, Cs_K213 m, Cs_K214 m, Cs_R214_0 m, Cs_R214_1 m, Cs_K215 m, Cs_K216 m, Cs_K217 m, Cs_R217_0 m, Cs_R217_1 m, Cs_K218 m, Cs_K219 m, Cs_K220 m, Cs_R220_0 m, Cs_K221 m, Cs_K262 m, Cs_K271 m, Cs_R271_0 m, Cs_R271_1 m, Cs_K272 m, Cs_K276 m, Cs_R272_0 m, Cs_R276_0 m, Cs_K273 m, Cs_R273_0 m, Cs_R273_1 m, Cs_K274 m, Cs_K275 m, Cs_K277 m, Cs_R277_0 m, Cs_R277_1 m, Cs_K278 m, Cs_K279 m, Cs_R262_0 m, Cs_K263 m, Cs_R263_0 m, Cs_K264 m, Cs_R262_1 m, Cs_K265 m, Cs_R265_0 m, Cs_K266 m, Cs_R262_2 m, Cs_K267 m, Cs_R267_0 m, Cs_K268 m, Cs_R262_3 m, Cs_K269 m, Cs_R269_0 m, Cs_K270 m, Int.toNat_natCast, Int.natCast_nonneg, true_and, and_true, and_self, if_true, if_false, or_true, true_or, or_false, false_or, ne_eq, not_true_eq_false, not_false_eq_true, Nat.reduceLeDiff, Nat.reduceEqDiff, Nat.reduceLT, Nat.reduceAdd, Nat.reduceMul, Nat.reduceSub, Int.reduceLT, Int.reduceLE, Int.reduceEq, Int.reduceToNat, Int.reduceAdd, Int.reduceSub, Int.reduceMul, Int.reduceNeg, Int.cast_ofNat_Int, false_and, and_false]
      refine S_act cc (Or.inl rfl) st ok ?_
      intro h2 f2 s2
      simp only [psh_some, rX11_summer_123]
      by_cases hw : whyD A B v = 0
      · rw [if_pos hw] at hr s2 ⊢
        simp only [rX11_summer_126, rX11_summer_129, rX11_summer_132, l2, l3]
        exact ih (i + 1) (c + 1) y h2 _ _ _ l4 (by omega) (fr.trans f2) s2 (doD_ok x0.2.2.2 ok hw) hr
      · rw [if_neg hw] at hr s2 ⊢
        simp only [rX11_summer_129, rX11_summer_132, l2]
        exact ih (i + 1) c y h2 _ _ _ l4 (by omega) (fr.trans f2) s2 ok hr
    have a := drm_in (drw (drw x)) (m := 6) (by decide)
    have b := drm_in (drw (drw (drw x))) (m := 10) (by decide)
    have cq := drm_in (drw x) (m := 6) (by decide)
    have eD : ∀ z : Int, w32 (w32 (1103515245 * z) + 12345) = drw z := fun _ => rfl
    rw [rX11_summer_33]
    simp only [rX11_summer_35, rX11_summer_36, rX11_summer_39, rX11_summer_40, rX11_summer_43, rX11_summer_44, rX11_summer_45, rX11_summer_48, rX11_summer_50, rX11_summer_51, rX11_summer_53, rX11_summer_54, rX11_summer_57, rX11_summer_58, rX11_summer_59, rX11_summer_62, rX11_summer_64, rX11_summer_65, rX11_summer_67, rX11_summer_69, rX11_summer_70, rX11_drawnNext_0, rX11_drawnNext_3, rX11_drawnNext_4, rX11_drawnNext_5, rX11_drawnNext_8, rX11_drawnNext_9, rX11_drawn_0, rX11_drawn_1, rX11_drawn_3, rX11_drawn_4, psh_some, Int.toNat_natCast, Int.natCast_nonneg, true_and, and_true, and_self, if_true, if_false, or_true, true_or, or_false, false_or, ne_eq, not_true_eq_false, not_false_eq_true, Nat.reduceLeDiff, Nat.reduceEqDiff, Nat.reduceLT, Nat.reduceAdd, Nat.reduceMul, Nat.reduceSub, Int.reduceLT, Int.reduceLE, Int.reduceEq, Int.reduceToNat, Int.reduceAdd, Int.reduceSub, Int.reduceMul, Int.reduceNeg, Int.cast_ofNat_Int, false_and, and_false, l1, eD, drw_tm]
    by_cases h1 : drm (drw x) 6 = 4
    · rw [if_pos h1]
      simp only [rX11_summer_73, rX11_summer_79, w32_i (z := drm (drw (drw x)) 6 + 2000) (by omega) (by omega)]
      refine step _ _ _ _ ?_ rfl
      unfold oneD
      rw [if_neg (by omega), if_pos h1, Int.add_comm]
    · rw [if_neg h1]
      simp only [rX11_summer_82, rX11_summer_84, rX11_summer_85]
      by_cases h2 : drm (drw x) 6 = 5
      · rw [if_pos h2]
        simp only [rX11_summer_88, rX11_summer_89, rX11_summer_92, rX11_summer_93, rX11_summer_96, rX11_summer_98, rX11_summer_100, rX11_summer_101, rX11_summer_102, rX11_summer_103, rX11_summer_106, rX11_summer_108, rX11_summer_109, rX11_summer_110, rX11_drawnNext_0, rX11_drawnNext_3, rX11_drawnNext_4, rX11_drawnNext_5, rX11_drawnNext_8, rX11_drawnNext_9, rX11_drawn_0, rX11_drawn_1, rX11_drawn_3, rX11_drawn_4, psh_some, Int.toNat_natCast, Int.natCast_nonneg, true_and, and_true, and_self, if_true, if_false, or_true, true_or, or_false, false_or, ne_eq, not_true_eq_false, not_false_eq_true, Nat.reduceLeDiff, Nat.reduceEqDiff, Nat.reduceLT, Nat.reduceAdd, Nat.reduceMul, Nat.reduceSub, Int.reduceLT, Int.reduceLE, Int.reduceEq, Int.reduceToNat, Int.reduceAdd, Int.reduceSub, Int.reduceMul, Int.reduceNeg, Int.cast_ofNat_Int, false_and, and_false, eD, drw_tm, w32_i (z := 10 * drm (drw (drw x)) 6) (by omega) (by omega), w32_i (z := 3000 + 10 * drm (drw (drw x)) 6) (by omega) (by omega), w32_i (z := 3000 + 10 * drm (drw (drw x)) 6 + drm (drw (drw (drw x))) 10) (by omega) (by omega)]
        refine step _ _ _ _ ?_ rfl
        unfold oneD
        rw [if_neg (by omega), if_neg h1]
      · rw [if_neg h2]
        refine step _ _ _ _ ?_ rfl
        unfold oneD
        rw [if_pos (by omega)]
set_option maxHeartbeats 1000000 in
theorem C_summer {d : Nat} {σ : AS} {sd t : Int} : CSpec (d + 6) mX11_summer [some (.inr (.inr 200)), some (.inl sd), some (.inl t), none, none, none, none, none] σ (.inl (if 1 ≤ t ∧ t ≤ 40 then ((smS σ sd t.toNat).1 : Int) else -3)) (if (1 ≤ t ∧ t ≤ 40) ∧ 0 < (smS σ sd t.toNat).1 then nS σ (smS σ sd t.toNat).2 else σ) := by
  intro h Q x w k
  have m := x.1.1
  simp only [rX11_summer_0, rX11_summer_1, rX11_summer_2, rX11_summer_5, rX11_summer_6, rX11_summer_8, rX11_summer_11, rX11_summer_13]
  by_cases h1 : 1 ≤ t ∧ t ≤ 40
  · simp only [h1, true_and, and_true, if_true] at k
    rw [if_neg (by omega), if_neg (by omega)]
    obtain ⟨n, rfl⟩ := Int.eq_ofNat_of_zero_le (show 0 ≤ t by omega)
    simp only [Int.toNat_natCast] at k
    simp only [rX11_summer_14, rX11_summer_15, rX11_summer_18, rX11_summer_19, rX11_summer_22, Cs_K200 m, Cs_R200_0 m, Cs_R200_1 m, Cs_R200_2 m, Cs_R200_3 m, Cs_R200_4 m, Cs_R200_5 m, Cs_R200_6 m, Cs_K201 m, Cs_R201_0 m, Cs_R201_1 m, Cs_K202 m, Cs_K203 m, Cs_K211 m, Cs_R211_0 m, Cs_R211_1 m, Cs_K212 m, Cs_K213 m, Cs_K214 m, Cs_R214_0 m, Cs_R214_1 m, Cs_K215 m, Cs_K216 m, Cs_K217 m, Cs_R217_0 m, Cs_R217_1 m, Cs_K218 m, Cs_K219 m, Cs_K220 m, Cs_R220_0 m, Cs_K221 m, Cs_K262 m, Cs_K271 m, Cs_R271_0 m, Cs_R271_1 m, Cs_K272 m, Cs_K276 m, Cs_R272_0 m, Cs_R276_0 m, Cs_K273 m, Cs_R273_0 m, Cs_R273_1 m, Cs_K274 m, Cs_K275 m, Cs_K277 m, Cs_R277_0 m, Cs_R277_1 m, Cs_K278 m, Cs_K279 m, Cs_R262_0 m, Cs_K263 m, Cs_R263_0 m, Cs_K264 m, Cs_R262_1 m, Cs_K265 m, Cs_R265_0 m, Cs_K266 m, Cs_R262_2 m, Cs_K267 m, Cs_R267_0 m, Cs_K268 m, Cs_R262_3 m, Cs_K269 m, Cs_R269_0 m, Cs_K270 m, Int.toNat_natCast, Int.natCast_nonneg, true_and, and_true, and_self, if_true, if_false, or_true, true_or, or_false, false_or, ne_eq, not_true_eq_false, not_false_eq_true, Nat.reduceLeDiff, Nat.reduceEqDiff, Nat.reduceLT, Nat.reduceAdd, Nat.reduceMul, Nat.reduceSub, Int.reduceLT, Int.reduceLE, Int.reduceEq, Int.reduceToNat, Int.reduceAdd, Int.reduceSub, Int.reduceMul, Int.reduceNeg, Int.cast_ofNat_Int, false_and, and_false]
    refine S_markNow (d := d + 4) x w ?_
    intro h1' f1 mk1 c1 s1 x1
    simp only [psh_none, rX11_summer_25, rX11_summer_26, rX11_summer_27, rX11_summer_28, rX11_summer_30, rX11_summer_31]
    refine csum_loop (h0 := h1') (r := smS σ sd n) (by omega) c1 ?_ n 0 0 sd _ _ _ _ (by omega) (by omega) (Fp.refl _ _) s1 w.2.1 rfl
    intro h2' y3 y6 y7 f2 s2
    have fd := (f1.mono (P' := dP) (fun a k q => rgP_d q)).trans (f2.mono (fun a k q => aPs_d q))
    have m2 := m.fr fd
    have mk2 := mk1.fr f2 (fun a k q => by unfold aPs at q; omega)
    simp only [rX11_summer_135, rX11_summer_137]
    by_cases h0 : 0 < (smS σ sd n).1
    · simp only [if_pos h0] at k
      rw [if_pos (by omega)]
      simp only [rX11_summer_140, rX11_summer_141, rX11_summer_144, Cs_K200 m2, Cs_R200_0 m2, Cs_R200_1 m2, Cs_R200_2 m2, Cs_R200_3 m2, Cs_R200_4 m2, Cs_R200_5 m2, Cs_R200_6 m2, Cs_K201 m2, Cs_R201_0 m2, Cs_R201_1 m2, Cs_K202 m2, Cs_K203 m2, Cs_K211 m2, Cs_R211_0 m2, Cs_R211_1 m2, Cs_K212 m2, Cs_K213 m2, Cs_K214 m2, Cs_R214_0 m2, Cs_R214_1 m2, Cs_K215 m2, Cs_K216 m2, Cs_K217 m2, Cs_R217_0 m2, Cs_R217_1 m2, Cs_K218 m2, Cs_K219 m2, Cs_K220 m2, Cs_R220_0 m2, Cs_K221 m2, Cs_K262 m2, Cs_K271 m2, Cs_R271_0 m2, Cs_R271_1 m2, Cs_K272 m2, Cs_K276 m2, Cs_R272_0 m2, Cs_R276_0 m2, Cs_K273 m2, Cs_R273_0 m2, Cs_R273_1 m2, Cs_K274 m2, Cs_K275 m2, Cs_K277 m2, Cs_R277_0 m2, Cs_R277_1 m2, Cs_K278 m2, Cs_K279 m2, Cs_R262_0 m2, Cs_K263 m2, Cs_R263_0 m2, Cs_K264 m2, Cs_R262_1 m2, Cs_K265 m2, Cs_R265_0 m2, Cs_K266 m2, Cs_R262_2 m2, Cs_K267 m2, Cs_R267_0 m2, Cs_K268 m2, Cs_R262_3 m2, Cs_K269 m2, Cs_R269_0 m2, Cs_K270 m2, Int.toNat_natCast, Int.natCast_nonneg, true_and, and_true, and_self, if_true, if_false, or_true, true_or, or_false, false_or, ne_eq, not_true_eq_false, not_false_eq_true, Nat.reduceLeDiff, Nat.reduceEqDiff, Nat.reduceLT, Nat.reduceAdd, Nat.reduceMul, Nat.reduceSub, Int.reduceLT, Int.reduceLE, Int.reduceEq, Int.reduceToNat, Int.reduceAdd, Int.reduceSub, Int.reduceMul, Int.reduceNeg, Int.cast_ofNat_Int, false_and, and_false]
      refine S_keepNow (d := d + 4) x w fd mk2 s2 ?_
      intro h3' x3 f3 g3
      simp only [psh_none, rX11_summer_147, rX11_summer_149]
      exact k h3' x3 f3
    · simp only [if_neg h0] at k
      rw [if_neg (by omega)]
      simp only [rX11_summer_147, rX11_summer_149]
      have e4 : (smS σ sd n).2 = stA (sA σ) := (sumD_ok w.1 n sd (stA (sA σ)) 0 w.2.1).2.2.2 (by show (smS σ sd n).1 = 0; omega)
      rw [e4] at s2
      exact k h2' (C_no x w fd s2 mk2.past) (Cfr_d fd)
  · simp only [h1, false_and, if_false] at k
    have k0 := k h x (Cfr.refl h)
    by_cases h2 : t < 1
    · rw [if_pos h2]; exact k0
    · rw [if_neg h2, if_pos (by omega)]; exact k0
