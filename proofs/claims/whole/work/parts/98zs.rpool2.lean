/-! the reference's pool -/
theorem RLn.any {X : TX} {h : Hp} {b b' : Nat} {r : LN} (x : RLn X h b r) (hr : ∀ y, r ≠ .inl y) : RLn X h b' r := by
  cases r with
  | inl y => exact absurd rfl (hr y)
  | inr e => exact ⟨x.1, x.2.1, x.2.2⟩
theorem mvn_fl (X : TX) (z : Int) (r : LN) : ∀ y, mvn (fls X z) r ≠ .inl y := by
  intro y h
  obtain ⟨q, A⟩ := y
  obtain ⟨q0, _, e⟩ := mvn_inl h
  cases e
theorem N_ends2 {d : Nat} {Q : Option PV → Hp → Prop} {X : TX} {h : Hp} {b : Nat} {r : LN} (x : RLn X h b r) (k : ∀ h', RLn X h' (b + 1) (pEnd X r) → Fp RX h h' → Q none h') : WP (d + 8) mX12_ends 0 [some (.inr (.inr 294))] [] h Q := by
  have fin : ∀ h', RLn X h' (b + 1) (mvn (eats X 30) r) → Fp RX h h' → WP (d + 8) mX12_ends 14 [some (.inr (.inr 294))] [] h' Q := fun h' x' f' => by
    have m := x'.1.2.1
    simp only [rX12_ends_14, rX12_ends_15, rX12_ends_18, rX12_ends_19, rX12_ends_20, rX12_ends_21, rX12_ends_22, rX12_ends_23, rX12_ends_24, Md_K280 m, Md_R284 m, Md_K284 m, Int.toNat_natCast, Int.natCast_nonneg, true_and, and_true, and_self, if_true, if_false, or_true, true_or, or_false, false_or, ne_eq, not_true_eq_false, not_false_eq_true, Nat.reduceLeDiff, Nat.reduceEqDiff, Nat.reduceLT, Nat.reduceAdd, Nat.reduceMul, Nat.reduceSub, Int.reduceLT, Int.reduceLE, Int.reduceEq, Int.reduceToNat, Int.reduceAdd, Int.reduceSub, Int.reduceMul, Int.reduceNeg, Int.cast_ofNat_Int, false_and, and_false]
    exact k _ (x'.up 0 (g := fun A => w32 (A 0 + 1)) (fun q A e => by rw [x'.2.2 q A e 0 (by decide)])) (f'.trans (RLn.fx _ _))
  by_cases c : tkl X r = 30
  · simp only [rX12_ends_0, rX12_ends_1, rX12_ends_3, Md_K280 x.1.2.1, Int.toNat_natCast, Int.natCast_nonneg, true_and, and_true, and_self, if_true, if_false, or_true, true_or, or_false, false_or, ne_eq, not_true_eq_false, not_false_eq_true, Nat.reduceLeDiff, Nat.reduceEqDiff, Nat.reduceLT, Nat.reduceAdd, Nat.reduceMul, Nat.reduceSub, Int.reduceLT, Int.reduceLE, Int.reduceEq, Int.reduceToNat, Int.reduceAdd, Int.reduceSub, Int.reduceMul, Int.reduceNeg, Int.cast_ofNat_Int, false_and, and_false]
    refine N_eats1 (d := d) x (by decide) (by decide) c (fun h' x' f' => ?_)
    simp only [psh_some, rX12_ends_6, Int.toNat_natCast, Int.natCast_nonneg, true_and, and_true, and_self, if_true, if_false, or_true, true_or, or_false, false_or, ne_eq, not_true_eq_false, not_false_eq_true, Nat.reduceLeDiff, Nat.reduceEqDiff, Nat.reduceLT, Nat.reduceAdd, Nat.reduceMul, Nat.reduceSub, Int.reduceLT, Int.reduceLE, Int.reduceEq, Int.reduceToNat, Int.reduceAdd, Int.reduceSub, Int.reduceMul, Int.reduceNeg, Int.cast_ofNat_Int, false_and, and_false]
    exact fin h' (by rw [mv_e1 c]; exact x') f'
  · have e0 := fun (Q : Option PV → Hp → Prop) => R_eats0 (d := d) (Q := Q) x.1 x.2.1 (z := 30) (by decide) c
    simp only [rX12_ends_0, rX12_ends_1, rX12_ends_3, rX12_ends_6, rX12_ends_9, rX12_ends_10, rX12_ends_11, Md_K280 x.1.2.1, e0, psh_some, Int.toNat_natCast, Int.natCast_nonneg, true_and, and_true, and_self, if_true, if_false, or_true, true_or, or_false, false_or, ne_eq, not_true_eq_false, not_false_eq_true, Nat.reduceLeDiff, Nat.reduceEqDiff, Nat.reduceLT, Nat.reduceAdd, Nat.reduceMul, Nat.reduceSub, Int.reduceLT, Int.reduceLE, Int.reduceEq, Int.reduceToNat, Int.reduceAdd, Int.reduceSub, Int.reduceMul, Int.reduceNeg, Int.cast_ofNat_Int, false_and, and_false]
    refine N_fails x (by decide) (fun h' x' f' => ?_)
    simp only [psh_none]
    exact fin h' (by rw [mv_e0 c]; exact x'.any (mvn_fl X 2 r)) f'
theorem RLn.kd {X : TX} {h : Hp} {b : Nat} {r : LN} (x : RLn X h b r) (h0 : 0 ≤ tkl X r) : hI h 294 9 = tkl X r := by
  have t := x.2.1
  cases r with
  | inl y => exact t.2.2.2.2.2.1
  | inr e => exact absurd h0 (by show ¬ (0 : Int) ≤ -1; decide)
theorem N_lines {d : Nat} {Q : Option PV → Hp → Prop} {X : TX} {n : Int} (hX : X.2 ≤ 900) : ∀ (m : Nat) (h : Hp) (b : Nat) (r : LN), X.2 ≤ b + m → RLn X h b r → Inv X AI r → (∀ h', RLn X h' 0 (pLines X m r) → Fp RX h h' → WP (d + 152) mX12_pool 111 [some (.inr (.inr 294)), some (.inl n), none] [] h' Q) → WP (d + 152) mX12_pool 84 [some (.inr (.inr 294)), some (.inl n), none] [] h Q := by
  intro m
  have out : ∀ (h : Hp) (b : Nat) (r : LN), RLn X h b r → (tkl X r = 25 ∨ tkl X r = -1) → WP (d + 152) mX12_pool 111 [some (.inr (.inr 294)), some (.inl n), none] [] h Q → WP (d + 152) mX12_pool 84 [some (.inr (.inr 294)), some (.inl n), none] [] h Q := fun h b r x c k => by
    have K := Md_K280 x.1.2.1
    rw [rX12_pool_84]
    rcases x.ok with z | z
    · have c5 : tkl X r = 25 := by
        rcases c with c | c
        · exact c
        · have z2 := z.2; rw [c] at z2; exact absurd z2 (by decide)
      have w9 := x.kd z.2
      rw [c5] at w9
      simp only [rX12_pool_85, rX12_pool_88, rX12_pool_91, rX12_pool_92, rX12_pool_95, rX12_pool_97, K, z.1, w9, Int.toNat_natCast, Int.natCast_nonneg, true_and, and_true, and_self, if_true, if_false, or_true, true_or, or_false, false_or, ne_eq, not_true_eq_false, not_false_eq_true, Nat.reduceLeDiff, Nat.reduceEqDiff, Nat.reduceLT, Nat.reduceAdd, Nat.reduceMul, Nat.reduceSub, Int.reduceLT, Int.reduceLE, Int.reduceEq, Int.reduceToNat, Int.reduceAdd, Int.reduceSub, Int.reduceMul, Int.reduceNeg, Int.cast_ofNat_Int, false_and, and_false]
      exact k
    · have z1 := eq_false z.1
      simp only [rX12_pool_85, rX12_pool_88, rX12_pool_91, rX12_pool_92, rX12_pool_95, rX12_pool_97, K, z1, Int.toNat_natCast, Int.natCast_nonneg, true_and, and_true, and_self, if_true, if_false, or_true, true_or, or_false, false_or, ne_eq, not_true_eq_false, not_false_eq_true, Nat.reduceLeDiff, Nat.reduceEqDiff, Nat.reduceLT, Nat.reduceAdd, Nat.reduceMul, Nat.reduceSub, Int.reduceLT, Int.reduceLE, Int.reduceEq, Int.reduceToNat, Int.reduceAdd, Int.reduceSub, Int.reduceMul, Int.reduceNeg, Int.cast_ofNat_Int, false_and, and_false]
      exact k
  induction m with
  | zero =>
    intro h b r hm x iv k
    refine out h b r x ?_ (k h (x.weak (Nat.zero_le b)) (Fp.refl _ h))
    rcases x.ok with z | z
    · refine Or.inl ?_
      by_cases c : tkl X r = 25
      · exact c
      · have := x.lt z.2 c; omega
    · exact Or.inr z.2
  | succ m ih =>
    intro h b r hm x iv k
    by_cases c : tkl X r = 25 ∨ tkl X r = -1
    · have e : pLines X (m + 1) r = r := if_pos c
      rw [e] at k
      exact out h b r x c (k h (x.weak (Nat.zero_le b)) (Fp.refl _ h))
    · have e : pLines X (m + 1) r = pLines X m (pEnd X (pRead X r)) := if_neg c
      rw [e] at k
      have K := Md_K280 x.1.2.1
      have z : hI h 294 11 = 0 ∧ 0 ≤ tkl X r := by
        rcases x.ok with z | z
        · exact z
        · exact absurd (Or.inr z.2) c
      have c5 : tkl X r ≠ 25 := fun z => c (Or.inl z)
      have w9 := x.kd z.2
      have w5 : (hI h 294 9 = 25) = False := eq_false (by rw [w9]; exact c5)
      rw [rX12_pool_84]
      simp only [rX12_pool_85, rX12_pool_88, rX12_pool_91, rX12_pool_92, rX12_pool_95, rX12_pool_97, rX12_pool_100, rX12_pool_101, K, z.1, w5, Int.toNat_natCast, Int.natCast_nonneg, true_and, and_true, and_self, if_true, if_false, or_true, true_or, or_false, false_or, ne_eq, not_true_eq_false, not_false_eq_true, Nat.reduceLeDiff, Nat.reduceEqDiff, Nat.reduceLT, Nat.reduceAdd, Nat.reduceMul, Nat.reduceSub, Int.reduceLT, Int.reduceLE, Int.reduceEq, Int.reduceToNat, Int.reduceAdd, Int.reduceSub, Int.reduceMul, Int.reduceNeg, Int.cast_ofNat_Int, false_and, and_false]
      refine N_line (d := d) x iv z.2 c5 (fun h1 x1 f1 => ?_)
      simp only [psh_none, rX12_pool_104, rX12_pool_105, Md_K280 x1.1.2.1, Int.toNat_natCast, Int.natCast_nonneg, true_and, and_true, and_self, if_true, if_false, or_true, true_or, or_false, false_or, ne_eq, not_true_eq_false, not_false_eq_true, Nat.reduceLeDiff, Nat.reduceEqDiff, Nat.reduceLT, Nat.reduceAdd, Nat.reduceMul, Nat.reduceSub, Int.reduceLT, Int.reduceLE, Int.reduceEq, Int.reduceToNat, Int.reduceAdd, Int.reduceSub, Int.reduceMul, Int.reduceNeg, Int.cast_ofNat_Int, false_and, and_false]
      refine N_ends2 (d := d + 143) x1 (fun h2 x2 f2 => ?_)
      simp only [psh_none, rX12_pool_108]
      exact ih h2 (b + 1) _ (by omega) x2 (pEnd_inv (pRead_inv hX iv)) (fun h3 x3 f3 => k h3 x3 (f1.trans (f2.trans f3)))
theorem k_89 {i n : Nat} (h : i + (n + 1) = 1089) : ((i : Int) < 1089) = True ∧ ((i : Int) < 3267) = True ∧ w32 ((i : Int) + 1) = ((i + 1 : Nat) : Int) ∧ i + 1 + n = 1089 := ⟨eq_true (by omega), eq_true (by omega), by rw [w32_i (by omega) (by omega)]; omega, by omega⟩
theorem k_90 {i : Nat} (h : i + 0 = 1089) : ((i : Int) < 1089) = False := eq_false (by omega)
theorem S_plain4 {d : Nat} {Q : Option PV → Hp → Prop} : ∀ (n i : Nat) (h : Hp), i + n = 1089 → hK h 298 = (21, 1089) → (∀ k, k < i → hI h 298 k = 0) → (∀ h', Fp (fun a _ => a = 298) h h' → (∀ k, k < 1089 → hI h' 298 k = 0) → Q none h') → WP d mX12_plain 2 [some (.inr (.inr 298)), some (.inl (i : Int))] [] h Q := by
  intro n
  induction n with
  | zero =>
    intro i h hi K z k
    rw [rX12_plain_2]
    simp only [rX12_plain_3, rX12_plain_6, k_90 hi, if_false, rX12_plain_19]
    exact k h (Fp.refl _ h) (fun q hq => z q (by omega))
  | succ n ih =>
    intro i h hi K z k
    obtain ⟨l1, _, l2, l3⟩ := k_89 hi
    have f : Fp (fun a _ => a = 298) h (wI h 298 i 0) := Fp.wI (P := fun a _ => a = 298) (Fp.refl _ h) rfl _
    rw [rX12_plain_2]
    simp only [rX12_plain_3, rX12_plain_6, rX12_plain_9, rX12_plain_10, rX12_plain_11, rX12_plain_12, rX12_plain_13, rX12_plain_16, l1, K, l2, Int.toNat_natCast, Int.natCast_nonneg, true_and, and_true, and_self, if_true, if_false, or_true, true_or, or_false, false_or, ne_eq, not_true_eq_false, not_false_eq_true, Nat.reduceLeDiff, Nat.reduceEqDiff, Nat.reduceLT, Nat.reduceAdd, Nat.reduceMul, Nat.reduceSub, Int.reduceLT, Int.reduceLE, Int.reduceEq, Int.reduceToNat, Int.reduceAdd, Int.reduceSub, Int.reduceMul, Int.reduceNeg, Int.cast_ofNat_Int, false_and, and_false]
    refine ih (i + 1) _ l3 ((f.K _).trans K) (fun q hq => ?_) (fun h' f' z' => k h' (f.trans f') z')
    rw [hI_wI]
    by_cases c : q = i
    · rw [if_pos ⟨rfl, c⟩]
    · rw [if_neg (fun y => c y.2)]
      exact z q (Nat.lt_of_le_of_ne (Nat.le_of_lt_succ hq) c)
def P81 (a k : Nat) : Prop := a = 295 ∧ k < 1089
theorem N_copy {d : Nat} {Q : Option PV → Hp → Prop} {y : Int} : ∀ (n i : Nat) (h : Hp), i + n = 1089 → MdOk h → (∀ k, k < i → hI h 295 k = hI h 298 k) → (∀ h' z, Fp P81 h h' → (∀ k, k < 1089 → hI h' 295 k = hI h' 298 k) → WP d mX12_pool 180 [some (.inr (.inr 294)), some (.inl y), z] [] h' Q) → WP d mX12_pool 155 [some (.inr (.inr 294)), some (.inl y), some (.inl (i : Int))] [] h Q := by
  intro n
  induction n with
  | zero =>
    intro i h hi m z k
    rw [rX12_pool_155]
    simp only [rX12_pool_156, rX12_pool_159, k_90 hi, if_false]
    exact k h _ (Fp.refl _ h) (fun q hq => z q (by omega))
  | succ n ih =>
    intro i h hi m z k
    obtain ⟨l1, l4, l2, l3⟩ := k_89 hi
    have li : i < 1089 := by omega
    have f : Fp P81 h (wI h 295 i (hI h 298 i)) := (Fp.refl _ h).wI ⟨rfl, li⟩ _
    rw [rX12_pool_155]
    simp only [rX12_pool_156, rX12_pool_159, rX12_pool_162, rX12_pool_163, rX12_pool_166, rX12_pool_167, rX12_pool_168, rX12_pool_171, rX12_pool_172, rX12_pool_173, rX12_pool_174, rX12_pool_177, l1, l4, l2, Md_K280 m, Md_R281 m, Md_K281 m, Md_R284 m, Md_K284 m, Int.toNat_natCast, Int.natCast_nonneg, true_and, and_true, and_self, if_true, if_false, or_true, true_or, or_false, false_or, ne_eq, not_true_eq_false, not_false_eq_true, Nat.reduceLeDiff, Nat.reduceEqDiff, Nat.reduceLT, Nat.reduceAdd, Nat.reduceMul, Nat.reduceSub, Int.reduceLT, Int.reduceLE, Int.reduceEq, Int.reduceToNat, Int.reduceAdd, Int.reduceSub, Int.reduceMul, Int.reduceNeg, Int.cast_ofNat_Int, false_and, and_false]
    refine ih (i + 1) _ l3 (m.fr f) (fun q hq => ?_) (fun h' y f' z' => k h' y (f.trans f') z')
    rw [hI_wI, hI_wI, if_neg (c := (298 : Nat) = 295 ∧ q = i) (fun y => absurd y.1 (by decide))]
    by_cases c : q = i
    · rw [if_pos ⟨rfl, c⟩, c]
    · rw [if_neg (fun y => c y.2)]
      exact z q (Nat.lt_of_le_of_ne (Nat.le_of_lt_succ hq) c)
theorem lawA_lo {A B : Nat → Int} {l : Nat} (h : l < 2) (a : A (3 + l) = 0 ∨ A (3 + l) = 1) (a1 : A (3 + l) = 1 → 0 ≤ A (5 + l) ∧ 1 ≤ A (7 + l) ∧ A (5 + l) + A (7 + l) ≤ 900) : lawA (fun k => if k < 1089 then A k else B k) l = lawA A l := by
  have lo : ∀ k, k < 1089 → (fun k => if k < 1089 then A k else B k) k = A k := fun k hk => if_pos hk
  unfold lawA
  rw [lo (3 + l) (by omega), lo (5 + l) (by omega), lo (7 + l) (by omega)]
  rcases a with a | a
  · rw [if_pos a, if_pos a]
  · have b := a1 a
    rw [if_neg (by omega), if_neg (by omega)]
    refine List.map_congr_left (fun k hk => ?_)
    have hk := List.mem_range.mp hk
    exact lo _ (by omega)
theorem poolOk_lo {A B : Nat → Int} (a : poolOk A) : poolOk (fun k => if k < 1089 then A k else B k) := by
  have lo : ∀ k, k < 1089 → (fun k => if k < 1089 then A k else B k) k = A k := fun k hk => if_pos hk
  obtain ⟨a1, a2, a3, a4, ⟨a5, a6, a7, a8⟩, a9, a10, a11⟩ := a
  refine ⟨?_, ?_, ?_, ?_, ⟨?_, fun t ht => ?_, ?_, ?_⟩, fun t ht => ?_, fun l hl => ?_, fun g hg => ?_⟩
  · rw [lo 1 (by omega)]; exact a1
  · rw [lo 1 (by omega)]; exact a2
  · rw [lo 2 (by omega)]; exact a3
  · rw [lo 2 (by omega)]; exact a4
  · show ((fun k => if k < 1089 then A k else B k) 1).toNat ≤ 6
    rw [lo 1 (by omega)]; exact a5
  · have ht : t < ((fun k => if k < 1089 then A k else B k) 1).toNat := ht
    rw [lo 1 (by omega)] at ht
    have := a6 t ht
    have t6 : t < 6 := by omega
    show 0 ≤ (fun k => if k < 1089 then A k else B k) (9 + t) ∧ (fun k => if k < 1089 then A k else B k) (9 + t) ≤ 99 ∧ ((fun k => if k < 1089 then A k else B k) (21 + t)).toNat < 64
    rw [lo (9 + t) (by omega), lo (21 + t) (by omega)]; exact this
  · show lwOk 5 (lawA (fun k => if k < 1089 then A k else B k) 0)
    rw [lawA_lo (by decide) (a10 0 (by decide)).1 (a10 0 (by decide)).2]; exact a7
  · show lwOk 6 (lawA (fun k => if k < 1089 then A k else B k) 1)
    rw [lawA_lo (by decide) (a10 1 (by decide)).1 (a10 1 (by decide)).2]; exact a8
  · rw [lo (21 + t) (by omega)]; exact a9 t ht
  · rw [lo (3 + l) (by omega), lo (5 + l) (by omega), lo (7 + l) (by omega)]; exact a10 l hl
  · rw [lo (27 + g) (by omega)]; exact a11 g hg
theorem stOk_lo {A B : Nat → Int} (a : stOk (stA A)) : stOk (stA (fun k => if k < 1089 then A k else B k)) := by
  obtain ⟨a1, a2, a3, a4, a5⟩ := a
  have lo : ∀ k, k < 1000 → stA (fun k => if k < 1089 then A k else B k) k = stA A k := fun k hk => if_pos (by omega)
  refine ⟨?_, ?_, ?_, ?_, fun g hg => ?_⟩
  · rw [lo 0 (by omega)]; exact a1
  · rw [lo 0 (by omega)]; exact a2
  · rw [lo 1 (by omega)]; exact a3
  · rw [lo 1 (by omega)]; exact a4
  · rw [lo (2 + g) (by omega), lo (8 + g) (by omega)]; exact a5 g hg
/-- what a pool's call answers, and what it makes of it all -/
def poAns (σ : AS) (n : Int) : Int := if 0 ≤ n ∧ n ≤ (sN σ : Int) then (match pPool (sT σ, n.toNat) with
  | .inl x => x.2 0
  | .inr e => w32 (-30 - e.1)) else -3
def poSt (σ : AS) (n : Int) : AS := if 0 ≤ n ∧ n ≤ (sN σ : Int) then (match pPool (sT σ, n.toNat) with
  | .inl x => (fun k => if k < 1089 then x.2 k else sA σ k, sH σ, 0, sT σ, 0, -1, sSo σ, sM σ, sB σ)
  | .inr e => (sA σ, sH σ, 0, sT σ, e.1, (e.2 : Int), sSo σ, sM σ, sB σ)) else σ
theorem poAns_o {σ : AS} {n : Int} (h : 0 ≤ n ∧ n ≤ (sN σ : Int)) {x : Nat × (Nat → Int)} (e : pPool (sT σ, n.toNat) = .inl x) : poAns σ n = x.2 0 ∧ poSt σ n = (fun k => if k < 1089 then x.2 k else sA σ k, sH σ, 0, sT σ, 0, -1, sSo σ, sM σ, sB σ) := by
  unfold poAns poSt; rw [if_pos h, if_pos h, e]; exact ⟨rfl, rfl⟩
theorem poAns_b {σ : AS} {n : Int} (h : 0 ≤ n ∧ n ≤ (sN σ : Int)) {e : Int × Nat} (he : pPool (sT σ, n.toNat) = .inr e) : poAns σ n = w32 (-30 - e.1) ∧ poSt σ n = (sA σ, sH σ, 0, sT σ, e.1, (e.2 : Int), sSo σ, sM σ, sB σ) := by
  unfold poAns poSt; rw [if_pos h, if_pos h, he]; exact ⟨rfl, rfl⟩
theorem poAns_n {σ : AS} {n : Int} (h : ¬ (0 ≤ n ∧ n ≤ (sN σ : Int))) : poAns σ n = -3 ∧ poSt σ n = σ := by
  unfold poAns poSt; rw [if_neg h, if_neg h]; exact ⟨rfl, rfl⟩
theorem poWF {σ : AS} {n : Int} (w : WF σ) : WF (poSt σ n) := by
  by_cases h : 0 ≤ n ∧ n ≤ (sN σ : Int)
  · obtain ⟨w1, w2, w3, w4, w5, w6, w7, w8, w9⟩ := w
    cases e : pPool (sT σ, n.toNat) with
    | inr e1 =>
      rw [(poAns_b h e).2]
      exact ⟨w1, w2, w3, w4, w5, w6, Nat.zero_le _, fun k hk => absurd hk (Nat.not_lt_zero k), w9⟩
    | inl x =>
      obtain ⟨q, A⟩ := x
      have h9 : (sT σ, n.toNat).2 ≤ 900 := by show n.toNat ≤ 900; omega
      obtain ⟨i1, i2, i3⟩ := pPool_inv h9 q A e
      obtain ⟨o1, o2, o3⟩ := AI_ok i1 (by omega)
      rw [(poAns_o h e).2]
      have lo : ∀ k, k < 1089 → (fun k => if k < 1089 then A k else sA σ k) k = A k := fun k hk => if_pos hk
      have hi : ∀ i, imA (fun k => if k < 1089 then A k else sA σ k) i = imA (sA σ) i := fun i => funext (fun k => if_neg (by omega))
      have e47 : (fun k => if k < 1089 then A k else sA σ k) 47 = 0 := o3
      refine ⟨?_, ?_, ?_, ?_, fun i hi' => ?_, fun i hi' => ?_, Nat.zero_le _, fun k hk => absurd hk (Nat.not_lt_zero k), w9⟩
      · exact poolOk_lo o1
      · exact stOk_lo o2
      · show (0 : Int) ≤ (fun k => if k < 1089 then A k else sA σ k) 47
        rw [e47]; exact Int.le_refl 0
      · show (fun k => if k < 1089 then A k else sA σ k) 47 ≤ 10
        rw [e47]; decide
      · have hi' : i < ((fun k => if k < 1089 then A k else sA σ k) 47).toNat := hi'
        rw [e47] at hi'
        exact absurd hi' (Nat.not_lt_zero i)
      · have := w6 i hi'
        refine ⟨this.1, fun z => ?_⟩
        show poolOk (imA (fun k => if k < 1089 then A k else sA σ k) i) ∧ stOk (stA (imA (fun k => if k < 1089 then A k else sA σ k) i))
        rw [hi i]; exact this.2 z
  · rw [(poAns_n h).2]; exact w
