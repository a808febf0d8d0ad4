/-! positions reached -/
def GR (h : Hp) (ga : Nat) (T O : Nat → Int) (Qu : List Nat) (N : Nat) : Prop := (∀ P, P < N → hI h (ga + 3) P = T P ∧ hI h (ga + 4) P = O P) ∧ hI h ga 6 = (Qu.length : Int) ∧ ∀ i, i < Qu.length → hI h (ga + 5) i = (Qu.getD i 0 : Int)
theorem GR.of {h : Hp} {ga : Nat} {T O T' O' : Nat → Int} {Qu : List Nat} {N : Nat} (x : GR h ga T O Qu N) (e : ∀ P, P < N → T P = T' P ∧ O P = O' P) : GR h ga T' O' Qu N := ⟨fun P hP => by rw [← (e P hP).1, ← (e P hP).2]; exact x.1 P hP, x.2⟩
def gqP (ga a k : Nat) : Prop := a = ga + 3 ∨ a = ga + 4 ∨ a = ga + 5 ∨ (a = ga ∧ k = 6)
theorem gq_ga {ga a k : Nat} (q : gqP ga a k) : gaS ga a := by unfold gqP at q; unfold gaS; omega
theorem gq_no {ga a k : Nat} (h : a = ga + 1 ∨ a = ga + 2 ∨ (a = ga ∧ k ≠ 6)) : ¬ gqP ga a k := by unfold gqP; omega
theorem gq_3 {ga k : Nat} : gqP ga (ga + 3) k ∧ gqP ga (ga + 4) k ∧ gqP ga (ga + 5) k ∧ gqP ga ga 6 := by unfold gqP; omega
theorem gq_6 {ga : Nat} : gqP ga ga 6 := Or.inr (Or.inr (Or.inr ⟨rfl, rfl⟩))
theorem gn {ga : Nat} : ¬ (ga + 3 = ga + 4) ∧ ¬ (ga + 3 = ga + 5) ∧ ¬ (ga + 3 = ga) ∧ ¬ (ga + 4 = ga + 3) ∧ ¬ (ga + 4 = ga + 5) ∧ ¬ (ga + 4 = ga) ∧ ¬ (ga + 5 = ga + 3) ∧ ¬ (ga + 5 = ga + 4) ∧ ¬ (ga + 5 = ga) ∧ ¬ (ga = ga + 3) ∧ ¬ (ga = ga + 4) ∧ ¬ (ga = ga + 5) := by omega
theorem P_n {P N : Nat} (h : P < N) (hN : N ≤ 3200) : (P : Int) < 3200 ∧ w32 ((P : Int) + 1) = ((P + 1 : Nat) : Int) := ⟨by omega, w32_s (by omega)⟩
theorem o_n {z : Int} (h0 : 1 ≤ z) (h1 : z ≤ 64) : w32 (z - 1) = z - 1 := w32_i (by omega) (by omega)
set_option maxHeartbeats 1000000 in
theorem S_reachedFrom {d : Nat} {Q : Option PV → Hp → Prop} {h0 h : Hp} {A : Nat → Int} {f : Nat → Nat → Nat} {set : Nat} {L : List Nat} {ga se : Nat} (x : GW h0 h A f set L ga se) {T O : Nat → Int} {Qu : List Nat} {N P : Nat} {inn : Int} (gr : GR h ga T O Qu N) (hP : P < N) (N12 : N ≤ 3200) (ob : T P = -1 → 1 ≤ O P ∧ O P ≤ 64) (qb : T P = -1 → Qu.length < 3200)
    (k1 : T P ≠ -1 → Q none h)
    (k2 : T P = -1 → 0 < O P - 1 → ∀ h', Fp (gqP ga) h h' → GR h' ga T (upI O P (O P - 1)) Qu N → Q none h')
    (k3 : T P = -1 → ¬ 0 < O P - 1 → ∀ h', Fp (gqP ga) h h' → GR h' ga (upI T P inn) (upI O P (O P - 1)) (Qu ++ [P]) N → Q none h') :
    WP d mX1_reachedFrom 0 [some (.inr (.inr ga)), some (.inl (P : Int)), some (.inl inn)] [] h Q := by
  obtain ⟨K0, R0, R1, R2, R3, R4, R5, K1, K2, K3, K4, K5⟩ := x.2.1.ks
  have t3 := x.2.2.2.2.2.1
  have g0 : 200 ≤ ga := by omega
  have g3 : 200 ≤ ga + 3 := by omega
  have g4 : 200 ≤ ga + 4 := by omega
  have g5 : 200 ≤ ga + 5 := by omega
  obtain ⟨gr1, gr2, gr3⟩ := gr
  obtain ⟨eT, eO⟩ := gr1 P hP
  obtain ⟨P1, P2⟩ := P_n hP N12
  simp only [rX1_reachedFrom_0, rX1_reachedFrom_1, rX1_reachedFrom_4, rX1_reachedFrom_5, rX1_reachedFrom_6, rX1_reachedFrom_7, K0, R3, K3, P1, eT, Int.toNat_natCast, Int.natCast_nonneg, true_and, and_true, and_self, if_true, if_false, or_true, true_or, or_false, false_or, ne_eq, not_true_eq_false, not_false_eq_true, Nat.reduceLeDiff, Nat.reduceEqDiff, Nat.reduceLT, Nat.reduceAdd, Nat.reduceMul, Nat.reduceSub, Int.reduceLT, Int.reduceLE, Int.reduceEq, Int.reduceToNat, Int.reduceAdd, Int.reduceSub, Int.reduceMul, Int.reduceNeg, Int.cast_ofNat_Int, false_and, and_false]
  by_cases hT : T P = -1
  · rw [if_pos hT]
    obtain ⟨o1, o2⟩ := ob hT
    have on := o_n o1 o2
    have ql := qb hT
    have q1 : (Qu.length : Int) < 3200 := Int.ofNat_lt.2 ql
    have q2 : w32 ((Qu.length : Int) + 1) = ((Qu.length + 1 : Nat) : Int) := w32_s (Nat.lt_trans ql (by decide))
    obtain ⟨n34, n35, n30, n43, n45, n40, n53, n54, n50, n03, n04, n05⟩ := gn (ga := ga)
    have f2 : Fp (gqP ga) h (wI h (ga + 4) P (O P - 1)) := (Fp.refl (gqP ga) h).wI gq_3.2.1 _
    simp only [rX1_reachedFrom_10, rX1_reachedFrom_11, rX1_reachedFrom_14, rX1_reachedFrom_17, K0, gr2, q1, Int.toNat_natCast, Int.natCast_nonneg, true_and, and_true, and_self, if_true, if_false, or_true, true_or, or_false, false_or, ne_eq, not_true_eq_false, not_false_eq_true, Nat.reduceLeDiff, Nat.reduceEqDiff, Nat.reduceLT, Nat.reduceAdd, Nat.reduceMul, Nat.reduceSub, Int.reduceLT, Int.reduceLE, Int.reduceEq, Int.reduceToNat, Int.reduceAdd, Int.reduceSub, Int.reduceMul, Int.reduceNeg, Int.cast_ofNat_Int, false_and, and_false]
    simp only [rX1_reachedFrom_21, rX1_reachedFrom_22, rX1_reachedFrom_25, rX1_reachedFrom_26, rX1_reachedFrom_27, rX1_reachedFrom_28, rX1_reachedFrom_29, rX1_reachedFrom_30, rX1_reachedFrom_31, rX1_reachedFrom_32, rX1_reachedFrom_35, rX1_reachedFrom_36, rX1_reachedFrom_37, hN_wI, hN_wJ, hN_wR, hS_wI, hS_wJ, hS_wR, hK_wI, hK_wJ, hK_wR, hI_wI, hI_wJ, hI_wR, hJ_wI, hJ_wJ, hJ_wR, hR_wI, hR_wJ, hR_wR, hN_nw, hS_nw, hK_nw, hI_nw, hJ_nw, hR_nw, psh_some, psh_none, K0, R4, K4, P1, eO, on, g4, Int.toNat_natCast, Int.natCast_nonneg, true_and, and_true, and_self, if_true, if_false, or_true, true_or, or_false, false_or, ne_eq, not_true_eq_false, not_false_eq_true, Nat.reduceLeDiff, Nat.reduceEqDiff, Nat.reduceLT, Nat.reduceAdd, Nat.reduceMul, Nat.reduceSub, Int.reduceLT, Int.reduceLE, Int.reduceEq, Int.reduceToNat, Int.reduceAdd, Int.reduceSub, Int.reduceMul, Int.reduceNeg, Int.cast_ofNat_Int, false_and, and_false]
    by_cases hO : 0 < O P - 1
    · rw [if_pos hO]
      simp only [rX1_reachedFrom_67]
      refine k2 hT hO _ f2 ⟨fun R hR => ⟨?_, ?_⟩, ?_, fun i hi => ?_⟩
      · rw [hI_wI, if_neg (fun c => n34 c.1)]; exact (gr1 R hR).1
      · rw [hI_wI]
        by_cases hRP : R = P
        · rw [if_pos ⟨rfl, hRP⟩, hRP, upI_eq]
        · rw [if_neg (fun c => hRP c.2), upI_ne _ _ hRP]; exact (gr1 R hR).2
      · rw [hI_wI, if_neg (fun c => n04 c.1)]; exact gr2
      · rw [hI_wI, if_neg (fun c => n54 c.1)]; exact gr3 i hi
    · rw [if_neg hO]
      simp only [rX1_reachedFrom_40, rX1_reachedFrom_41, rX1_reachedFrom_44, rX1_reachedFrom_45, rX1_reachedFrom_46, rX1_reachedFrom_47, rX1_reachedFrom_48, rX1_reachedFrom_51, rX1_reachedFrom_52, rX1_reachedFrom_55, rX1_reachedFrom_56, rX1_reachedFrom_57, rX1_reachedFrom_58, rX1_reachedFrom_59, rX1_reachedFrom_62, rX1_reachedFrom_63, rX1_reachedFrom_64, rX1_reachedFrom_67, hN_wI, hN_wJ, hN_wR, hS_wI, hS_wJ, hS_wR, hK_wI, hK_wJ, hK_wR, hI_wI, hI_wJ, hI_wR, hJ_wI, hJ_wJ, hJ_wR, hR_wI, hR_wJ, hR_wR, hN_nw, hS_nw, hK_nw, hI_nw, hJ_nw, hR_nw, psh_some, psh_none, K0, R3, R5, K3, K5, P1, gr2, q1, q2, g0, g3, g5, n34, n35, n30, n43, n45, n40, n53, n54, n50, n03, n04, n05, Int.toNat_natCast, Int.natCast_nonneg, true_and, and_true, and_self, if_true, if_false, or_true, true_or, or_false, false_or, ne_eq, not_true_eq_false, not_false_eq_true, Nat.reduceLeDiff, Nat.reduceEqDiff, Nat.reduceLT, Nat.reduceAdd, Nat.reduceMul, Nat.reduceSub, Int.reduceLT, Int.reduceLE, Int.reduceEq, Int.reduceToNat, Int.reduceAdd, Int.reduceSub, Int.reduceMul, Int.reduceNeg, Int.cast_ofNat_Int, false_and, and_false]
      have len : (Qu ++ [P]).length = Qu.length + 1 := by rw [List.length_append]; rfl
      refine k3 hT hO _ (((f2.wI gq_3.1 _).wI gq_3.2.2.1 _).wI gq_6 _) ⟨fun R hR => ⟨?_, ?_⟩, ?_, fun i hi => ?_⟩
      · rw [hI_wI, if_neg (fun c => n30 c.1), hI_wI, if_neg (fun c => n35 c.1), hI_wI]
        by_cases hRP : R = P
        · rw [if_pos ⟨rfl, hRP⟩, hRP, upI_eq]
        · rw [if_neg (fun c => hRP c.2), upI_ne _ _ hRP, hI_wI, if_neg (fun c => n34 c.1)]; exact (gr1 R hR).1
      · rw [hI_wI, if_neg (fun c => n40 c.1), hI_wI, if_neg (fun c => n45 c.1), hI_wI, if_neg (fun c => n43 c.1), hI_wI]
        by_cases hRP : R = P
        · rw [if_pos ⟨rfl, hRP⟩, hRP, upI_eq]
        · rw [if_neg (fun c => hRP c.2), upI_ne _ _ hRP]; exact (gr1 R hR).2
      · rw [hI_wI, if_pos ⟨rfl, rfl⟩, len]
      · rw [hI_wI, if_neg (fun c => n50 c.1), hI_wI]
        by_cases hil : i = Qu.length
        · rw [if_pos ⟨rfl, hil⟩, hil, getD_end]
        · have il : i < Qu.length := lt_one (by rw [len] at hi; exact hi) hil
          rw [if_neg (fun c => hil c.2), hI_wI, if_neg (fun c => n53 c.1), hI_wI, if_neg (fun c => n54 c.1), getD_app il]; exact gr3 i il
  · rw [if_neg hT]
    simp only [rX1_reachedFrom_20]
    exact k1 hT
/-- how it sets out -/
def T0 (gl : Nat → Bool) (L : List Nat) (P : Nat) : Int := if gl (L.getD (P / 2) 0) = true then 0 else -1
def O0 (gl : Nat → Bool) (L : List Nat) (c : Int) (P : Nat) : Int := if gl (L.getD (P / 2) 0) = true then 0 else if P % 2 = 0 then 1 else c
def Q0 (gl : Nat → Bool) (L : List Nat) : Nat → List Nat
  | 0 => []
  | n + 1 => if gl (L.getD (n / 2) 0) = true then Q0 gl L n ++ [n] else Q0 gl L n
theorem Q0_m {gl : Nat → Bool} {L : List Nat} : ∀ n, (Q0 gl L n).length ≤ n ∧ (Q0 gl L n).Nodup ∧ ∀ P, P ∈ Q0 gl L n ↔ P < n ∧ gl (L.getD (P / 2) 0) = true := by
  intro n
  induction n with
  | zero => exact ⟨Nat.le_refl _, List.nodup_nil, fun P => ⟨fun c => absurd c List.not_mem_nil, fun c => absurd c.1 (Nat.not_lt_zero _)⟩⟩
  | succ n ih =>
    obtain ⟨a, b, c⟩ := ih
    unfold Q0
    by_cases h : gl (L.getD (n / 2) 0) = true
    · rw [if_pos h]
      refine ⟨by rw [List.length_append, List.length_singleton]; omega, ?_, fun P => ?_⟩
      · rw [List.nodup_append]
        refine ⟨b, by simp, fun x hx y hy e => ?_⟩
        rw [List.mem_singleton] at hy
        have := ((c x).1 hx).1
        omega
      · rw [List.mem_append, c, List.mem_singleton]
        constructor
        · rintro (h1 | h1)
          · exact ⟨by omega, h1.2⟩
          · rw [h1]; exact ⟨by omega, h⟩
        · rintro ⟨h1, h2⟩
          by_cases e : P = n
          · exact Or.inr e
          · exact Or.inl ⟨by omega, h2⟩
    · rw [if_neg h]
      refine ⟨by omega, b, fun P => ?_⟩
      rw [c]
      constructor
      · rintro ⟨h1, h2⟩; exact ⟨by omega, h2⟩
      · rintro ⟨h1, h2⟩
        by_cases e : P = n
        · rw [e] at h2; exact absurd h2 h
        · exact ⟨by omega, h2⟩
def chI (other : Nat) : Int := if (1 : Int) < (bits other : Int) then (bits other : Int) else 1
theorem chI_in {other : Nat} : 1 ≤ chI other ∧ chI other ≤ 64 := by
  have := bits_le other
  unfold chI
  split <;> omega
theorem shr1 {P : Nat} (h : P < 2147483648) : ishr (P : Int) 1 = ((P / 2 : Nat) : Int) := ishr_n (i := 1) h (by decide)
theorem and_1 {P : Nat} (h : P < 2147483648) : iand (P : Int) 1 = ((P % 2 : Nat) : Int) := by
  have := iand_n (a := P) (b := 1) h
  rw [and1] at this
  exact this
theorem so_n {i l : Nat} (h : i < 2 * l) (hl : l ≤ 1600) : (i : Int) < ((2 * l : Nat) : Int) ∧ (i : Int) < 3200 ∧ i < 2147483648 ∧ i / 2 < l ∧ i / 2 < 1600 ∧ w32 ((i : Int) + 1) = ((i + 1 : Nat) : Int) ∧ i + 1 ≤ 3200 ∧ i < 3200 := ⟨by omega, by omega, by omega, by omega, by omega, w32_s (by omega), by omega, by omega⟩
theorem l2_n {l : Nat} (hl : l ≤ 1600) : w32 (2 * (l : Int)) = ((2 * l : Nat) : Int) := by rw [w32_i (by omega) (by omega)]; omega
theorem m2_z {i : Nat} : (((i % 2 : Nat) : Int) = 0) = (i % 2 = 0) := propext ⟨fun h => by omega, fun h => by omega⟩
set_option maxHeartbeats 1000000 in
theorem S_setOut {d : Nat} {Q : Option PV → Hp → Prop} {h0 h : Hp} {A : Nat → Int} {f : Nat → Nat → Nat} {set : Nat} {L : List Nat} {ga se other t : Nat} (x : GW h0 h A f set L ga se) (o2 : other < 64) (e8 : hI h ga 8 = (other : Int)) (t6 : t < 6)
    (k : ∀ h', Fp (gqP ga) h h' → GR h' ga (T0 (glT t) L) (O0 (glT t) L (chI other)) (Q0 (glT t) L (2 * L.length)) (2 * L.length) → Q none h') :
    WP (d + 2) mX1_setOut 0 [some (.inr (.inr ga)), some (.inl (t : Int)), none, none] [] h Q := by
  have ok := x.2.2.1.2.2.2.1
  have lk := x.2.2.1.le
  have ll := lk
  have t3 := x.2.2.2.2.2.1
  have g0 : 200 ≤ ga := by omega
  have g3 : 200 ≤ ga + 3 := by omega
  have g4 : 200 ≤ ga + 4 := by omega
  obtain ⟨n34, n35, n30, n43, n45, n40, n53, n54, n50, n03, n04, n05⟩ := gn (ga := ga)
  obtain ⟨K0, R0, _⟩ := x.2.1.ks
  have ce : (if (1 : Int) < (bits other : Int) then (bits other : Int) else 1) = chI other := rfl
  simp only [rX1_setOut_0, rX1_setOut_1, rX1_setOut_2, rX1_setOut_5, rX1_setOut_8, rX1_setOut_11, rX1_setOut_12, rX1_setOut_13, rX1_setOut_14, rX1_setOut_17, rX1_setOut_18, K0, e8, S_bitCount o2, S_max, psh_some, ce, g0, Int.toNat_natCast, Int.natCast_nonneg, true_and, and_true, and_self, if_true, if_false, or_true, true_or, or_false, false_or, ne_eq, not_true_eq_false, not_false_eq_true, Nat.reduceLeDiff, Nat.reduceEqDiff, Nat.reduceLT, Nat.reduceAdd, Nat.reduceMul, Nat.reduceSub, Int.reduceLT, Int.reduceLE, Int.reduceEq, Int.reduceToNat, Int.reduceAdd, Int.reduceSub, Int.reduceMul, Int.reduceNeg, Int.cast_ofNat_Int, false_and, and_false]
  have cin := chI_in (other := other)
  generalize chI other = c at cin k ⊢
  have f0 : Fp (gqP ga) h (wI h ga 6 0) := (Fp.refl (gqP ga) h).wI gq_6 _
  refine wp_for (fun i e => WP (d + 2) mX1_setOut 19 [some (.inr (.inr ga)), some (.inl (t : Int)), some (.inl c), some (.inl (i : Int))] [] e Q) (fun i e => Fp (gqP ga) h e ∧ GR e ga (T0 (glT t) L) (O0 (glT t) L c) (Q0 (glT t) L i) i) (2 * L.length) ?_ ?_ 0 _ (Nat.zero_le _) ⟨f0, fun P hP => absurd hP (Nat.not_lt_zero _), by rw [hI_wI, if_pos ⟨rfl, rfl⟩]; rfl, fun i hi => absurd hi (Nat.not_lt_zero _)⟩
  · rintro i e hi ⟨fe, ge⟩ kk
    have xe := x.fp fe (fun a k q => gq_ga q)
    obtain ⟨K0, R0, R1, R2, R3, R4, R5, K1, K2, K3, K4, K5⟩ := xe.2.1.ks
    have sh := xe.2.2.1.2.1
    have KS := sh.1
    have len := xe.2.2.1.2.2.1
    obtain ⟨c1, c2, c3, c4, c5, c6, c7, c8⟩ := so_n hi ll
    have gl := getD_lt ok c4
    have th : L.getD (i / 2) 0 / 100 < 2147483648 := Nat.lt_of_le_of_lt (Nat.div_le_self _ _) (Nat.lt_trans gl (by decide))
    have t31' : t < 31 := Nat.lt_trans t6 (by decide)
    obtain ⟨ge1, ge2, ge3⟩ := ge
    obtain ⟨ql, _, _⟩ := Q0_m (gl := glT t) (L := L) i
    have hv : ∀ v : Int, v = (if i % 2 = 0 then 1 else c) → WP (d + 2) mX1_setOut 56 [some (.inr (.inr ga)), some (.inl (t : Int)), some (.inl c), some (.inl (i : Int))] [] (wI (wI e (ga + 3) i (-1)) (ga + 4) i v) Q := by
      intro v ev
      have f1 : Fp (gqP ga) h (wI (wI e (ga + 3) i (-1)) (ga + 4) i v) := (fe.wI gq_3.1 _).wI gq_3.2.1 _
      have x1 := x.fp f1 (fun a k q => gq_ga q)
      have ord := x1.2.2.1.2.2.2.2.1
      have g1 : ∀ P, P < i → hI (wI (wI e (ga + 3) i (-1)) (ga + 4) i v) (ga + 3) P = T0 (glT t) L P ∧ hI (wI (wI e (ga + 3) i (-1)) (ga + 4) i v) (ga + 4) P = O0 (glT t) L c P := fun P hP => by
        have hne : P ≠ i := Nat.ne_of_lt hP
        rw [hI_wI, if_neg (fun c => n34 c.1), hI_wI, if_neg (fun c => hne c.2), hI_wI, if_neg (fun c => hne c.2), hI_wI, if_neg (fun c => n43 c.1)]
        exact ge1 P hP
      have g2 : hI (wI (wI e (ga + 3) i (-1)) (ga + 4) i v) (ga + 3) i = -1 := by rw [hI_wI, if_neg (fun c => n34 c.1), hI_wI, if_pos ⟨rfl, rfl⟩]
      have g2' : hI (wI (wI e (ga + 3) i (-1)) (ga + 4) i v) (ga + 4) i = v := by rw [hI_wI, if_pos ⟨rfl, rfl⟩]
      have g5 : hI (wI (wI e (ga + 3) i (-1)) (ga + 4) i v) ga 6 = ((Q0 (glT t) L i).length : Int) := by rw [hI_wI, if_neg (fun c => n04 c.1), hI_wI, if_neg (fun c => n03 c.1)]; exact ge2
      have g6 : ∀ q, q < (Q0 (glT t) L i).length → hI (wI (wI e (ga + 3) i (-1)) (ga + 4) i v) (ga + 5) q = ((Q0 (glT t) L i).getD q 0 : Int) := fun q hq => by rw [hI_wI, if_neg (fun c => n54 c.1), hI_wI, if_neg (fun c => n53 c.1)]; exact ge3 q hq
      generalize wI (wI e (ga + 3) i (-1)) (ga + 4) i v = h1 at f1 x1 ord g1 g2 g2' g5 g6 ⊢
      obtain ⟨K0, R0, R1, R2, R3, R4, R5, K1, K2, K3, K4, K5⟩ := x1.2.1.ks
      have sh := x1.2.2.1.2.1
      simp only [rX1_setOut_56, rX1_setOut_57, rX1_setOut_60, rX1_setOut_61, rX1_setOut_62, rX1_setOut_63, rX1_setOut_66, rX1_setOut_67, rX1_setOut_70, K0, R0, sh.1, shr1 c3, S_thingsAt sh c5 (ord _ c4) gl, S_has (b := L.getD (i / 2) 0 / 100) (i := t) th t31', psh_some, Int.toNat_natCast, Int.natCast_nonneg, true_and, and_true, and_self, if_true, if_false, or_true, true_or, or_false, false_or, ne_eq, not_true_eq_false, not_false_eq_true, Nat.reduceLeDiff, Nat.reduceEqDiff, Nat.reduceLT, Nat.reduceAdd, Nat.reduceMul, Nat.reduceSub, Int.reduceLT, Int.reduceLE, Int.reduceEq, Int.reduceToNat, Int.reduceAdd, Int.reduceSub, Int.reduceMul, Int.reduceNeg, Int.cast_ofNat_Int, false_and, and_false]
      by_cases hg : (L.getD (i / 2) 0 / 100).testBit t = true
      · have hgt : glT t (L.getD (i / 2) 0) = true := hg
        simp only [if_pos hg]
        rw [if_neg (by decide)]
        simp only [rX1_setOut_73, rX1_setOut_74, rX1_setOut_77, rX1_setOut_78, rX1_setOut_79, rX1_setOut_80, rX1_setOut_81, rX1_setOut_82, rX1_setOut_83, hN_wI, hN_wJ, hN_wR, hS_wI, hS_wJ, hS_wR, hK_wI, hK_wJ, hK_wR, hI_wI, hI_wJ, hI_wR, hJ_wI, hJ_wJ, hJ_wR, hR_wI, hR_wJ, hR_wR, hN_nw, hS_nw, hK_nw, hI_nw, hJ_nw, hR_nw, psh_some, psh_none, K0, R4, K4, c2, g4, Int.toNat_natCast, Int.natCast_nonneg, true_and, and_true, and_self, if_true, if_false, or_true, true_or, or_false, false_or, ne_eq, not_true_eq_false, not_false_eq_true, Nat.reduceLeDiff, Nat.reduceEqDiff, Nat.reduceLT, Nat.reduceAdd, Nat.reduceMul, Nat.reduceSub, Int.reduceLT, Int.reduceLE, Int.reduceEq, Int.reduceToNat, Int.reduceAdd, Int.reduceSub, Int.reduceMul, Int.reduceNeg, Int.cast_ofNat_Int, false_and, and_false]
        have f2 : Fp (gqP ga) h1 (wI h1 (ga + 4) i 1) := (Fp.refl (gqP ga) h1).wI gq_3.2.1 _
        have x2 := x1.fp f2 (fun a k q => gq_ga q)
        have gr2 : GR (wI h1 (ga + 4) i 1) ga (upI (T0 (glT t) L) i (-1)) (upI (O0 (glT t) L c) i 1) (Q0 (glT t) L i) (i + 1) := by
          refine ⟨fun P hP => ?_, by rw [hI_wI, if_neg (fun c => n04 c.1)]; exact g5, fun q hq => by rw [hI_wI, if_neg (fun c => n54 c.1)]; exact g6 q hq⟩
          by_cases hPi : P = i
          · rw [hPi, upI_eq, upI_eq, hI_wI, if_neg (fun c => n34 c.1), hI_wI, if_pos ⟨rfl, rfl⟩]; exact ⟨g2, rfl⟩
          · rw [upI_ne _ _ hPi, upI_ne _ _ hPi, hI_wI, if_neg (fun c => n34 c.1), hI_wI, if_neg (fun c => hPi c.2)]; exact g1 P (lt_one hP hPi)
        refine S_reachedFrom x2 gr2 (Nat.lt_succ_self i) c7 (fun _ => by rw [upI_eq]; exact ⟨by decide, by decide⟩) (fun _ => Nat.lt_of_le_of_lt ql c8) (fun c => absurd (upI_eq _ _ _) c) (fun _ c => ?_) (fun _ _ h3 f3 gr3 => ?_)
        · rw [upI_eq] at c; exact absurd c (by decide)
        · simp only [psh_none, rX1_setOut_86, rX1_setOut_89, c6]
          refine kk h3 ⟨(f1.trans f2).trans f3, ?_⟩
          have hq : Q0 (glT t) L (i + 1) = Q0 (glT t) L i ++ [i] := if_pos hgt
          rw [hq]
          refine gr3.of (fun P hP => ?_)
          by_cases hPi : P = i
          · rw [hPi, upI_eq, upI_eq, upI_eq]
            unfold T0 O0
            rw [if_pos hgt, if_pos hgt]; exact ⟨rfl, rfl⟩
          · rw [upI_ne _ _ hPi, upI_ne _ _ hPi, upI_ne _ _ hPi, upI_ne _ _ hPi]; exact ⟨rfl, rfl⟩
      · have hgt : ¬ glT t (L.getD (i / 2) 0) = true := hg
        simp only [if_neg hg]
        rw [if_pos (by trivial)]
        simp only [rX1_setOut_86, rX1_setOut_89, c6]
        have hq : Q0 (glT t) L (i + 1) = Q0 (glT t) L i := if_neg hgt
        refine kk h1 ⟨f1, ?_⟩
        rw [hq]
        refine ⟨fun P hP => ?_, g5, g6⟩
        by_cases hPi : P = i
        · rw [hPi, g2, g2']
          unfold T0 O0
          rw [if_neg hgt, if_neg hgt]; exact ⟨rfl, ev⟩
        · exact g1 P (lt_one hP hPi)
    rw [rX1_setOut_19]
    simp only [rX1_setOut_20, rX1_setOut_21, rX1_setOut_22, rX1_setOut_25, rX1_setOut_28, rX1_setOut_29, rX1_setOut_32, rX1_setOut_33, rX1_setOut_36, rX1_setOut_37, rX1_setOut_38, rX1_setOut_39, rX1_setOut_40, rX1_setOut_43, rX1_setOut_44, rX1_setOut_45, rX1_setOut_46, rX1_setOut_47, hN_wI, hN_wJ, hN_wR, hS_wI, hS_wJ, hS_wR, hK_wI, hK_wJ, hK_wR, hI_wI, hI_wJ, hI_wR, hJ_wI, hJ_wJ, hJ_wR, hR_wI, hR_wJ, hR_wR, hN_nw, hS_nw, hK_nw, hI_nw, hJ_nw, hR_nw, psh_some, psh_none, K0, R0, R3, R4, K3, K4, KS, len, l2_n ll, c1, c2, g3, g4, n34, n43, n03, n04, and_1 c3, m2_z, Int.toNat_natCast, Int.natCast_nonneg, true_and, and_true, and_self, if_true, if_false, or_true, true_or, or_false, false_or, ne_eq, not_true_eq_false, not_false_eq_true, Nat.reduceLeDiff, Nat.reduceEqDiff, Nat.reduceLT, Nat.reduceAdd, Nat.reduceMul, Nat.reduceSub, Int.reduceLT, Int.reduceLE, Int.reduceEq, Int.reduceToNat, Int.reduceAdd, Int.reduceSub, Int.reduceMul, Int.reduceNeg, Int.cast_ofNat_Int, false_and, and_false]
    by_cases hm : i % 2 = 0
    · have go := hv 1 (by rw [if_pos hm])
      rw [if_pos hm]
      simp only [rX1_setOut_50, rX1_setOut_51, rX1_setOut_55, hN_wI, hN_wJ, hN_wR, hS_wI, hS_wJ, hS_wR, hK_wI, hK_wJ, hK_wR, hI_wI, hI_wJ, hI_wR, hJ_wI, hJ_wJ, hJ_wR, hR_wI, hR_wJ, hR_wR, hN_nw, hS_nw, hK_nw, hI_nw, hJ_nw, hR_nw, psh_some, psh_none, K4, c2, g4, n34, n43, Int.toNat_natCast, Int.natCast_nonneg, true_and, and_true, and_self, if_true, if_false, or_true, true_or, or_false, false_or, ne_eq, not_true_eq_false, not_false_eq_true, Nat.reduceLeDiff, Nat.reduceEqDiff, Nat.reduceLT, Nat.reduceAdd, Nat.reduceMul, Nat.reduceSub, Int.reduceLT, Int.reduceLE, Int.reduceEq, Int.reduceToNat, Int.reduceAdd, Int.reduceSub, Int.reduceMul, Int.reduceNeg, Int.cast_ofNat_Int, false_and, and_false]
      exact go
    · have go := hv c (by rw [if_neg hm])
      rw [if_neg hm]
      simp only [rX1_setOut_54, rX1_setOut_55, hN_wI, hN_wJ, hN_wR, hS_wI, hS_wJ, hS_wR, hK_wI, hK_wJ, hK_wR, hI_wI, hI_wJ, hI_wR, hJ_wI, hJ_wJ, hJ_wR, hR_wI, hR_wJ, hR_wR, hN_nw, hS_nw, hK_nw, hI_nw, hJ_nw, hR_nw, psh_some, psh_none, K4, c2, g4, n34, n43, Int.toNat_natCast, Int.natCast_nonneg, true_and, and_true, and_self, if_true, if_false, or_true, true_or, or_false, false_or, ne_eq, not_true_eq_false, not_false_eq_true, Nat.reduceLeDiff, Nat.reduceEqDiff, Nat.reduceLT, Nat.reduceAdd, Nat.reduceMul, Nat.reduceSub, Int.reduceLT, Int.reduceLE, Int.reduceEq, Int.reduceToNat, Int.reduceAdd, Int.reduceSub, Int.reduceMul, Int.reduceNeg, Int.cast_ofNat_Int, false_and, and_false]
      exact go
  · rintro e ⟨fe, ge⟩
    have xe := x.fp fe (fun a k q => gq_ga q)
    obtain ⟨K0, R0, _⟩ := xe.2.1.ks
    have KS := xe.2.2.1.2.1.1
    have len := xe.2.2.1.2.2.1
    rw [rX1_setOut_19]
    simp only [rX1_setOut_20, rX1_setOut_21, rX1_setOut_22, rX1_setOut_25, rX1_setOut_28, rX1_setOut_29, rX1_setOut_92, K0, R0, KS, len, l2_n ll, Int.lt_irrefl, Int.toNat_natCast, Int.natCast_nonneg, true_and, and_true, and_self, if_true, if_false, or_true, true_or, or_false, false_or, ne_eq, not_true_eq_false, not_false_eq_true, Nat.reduceLeDiff, Nat.reduceEqDiff, Nat.reduceLT, Nat.reduceAdd, Nat.reduceMul, Nat.reduceSub, Int.reduceLT, Int.reduceLE, Int.reduceEq, Int.reduceToNat, Int.reduceAdd, Int.reduceSub, Int.reduceMul, Int.reduceNeg, Int.cast_ofNat_Int, false_and, and_false]
    exact k e fe ge
