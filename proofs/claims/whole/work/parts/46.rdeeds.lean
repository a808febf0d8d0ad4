/-! deeds: the reference does one -/
/-- the reference's pool A and stand B -/
def RS (h : Hp) (A B : Nat → Int) : Prop := MdOk h ∧ AtA h (putS A B) ∧ poolOk A ∧ stOk B
theorem RS.rp {h : Hp} {A B : Nat → Int} (x : RS h A B) : RpF h (putS A B) := ⟨x.1, x.2.1, poolOk_same x.2.2.1 (putS_same A B)⟩
theorem RS.st {h : Hp} {A B : Nat → Int} (x : RS h A B) : stOk (stA (putS A B)) := x.2.2.2.of (fun k hk => putS_st A B hk)
theorem RS.fr {h h' : Hp} {A B : Nat → Int} (f : Fp lP h h') (x : RS h A B) : RS h' A B := ⟨x.1.fr f, fun k hk => by rw [f.I (by unfold lP; omega)]; exact x.2.1 k hk, x.2.2⟩
theorem RS.a1 {h : Hp} {A B : Nat → Int} (x : RS h A B) : hI h 295 1 = A 1 := by rw [x.2.1 1 (by omega), putS_47 _ _ (by omega)]
theorem RS.a2 {h : Hp} {A B : Nat → Int} (x : RS h A B) : hI h 295 2 = A 2 := by rw [x.2.1 2 (by omega), putS_47 _ _ (by omega)]
theorem RS.b {h : Hp} {A B : Nat → Int} (x : RS h A B) {k : Nat} (hk : k < 14) : hI h 295 (33 + k) = B k := by rw [x.2.1 (33 + k) (by omega), putS_at _ _ hk]
theorem RS.of {h : Hp} {A : Nat → Int} (m : MdOk h) (a : AtA h A) (po : poolOk A) (so : stOk (stA A)) : RS h A (stA A) := by
  refine ⟨m, fun k hk => ?_, po, so⟩
  rw [a k hk]
  unfold putS stA
  split
  · exact congrArg _ (by omega)
  · rfl
theorem S_rThing' {d : Nat} {h : Hp} {A B : Nat → Int} {Q : Option PV → Hp → Prop} (x : RS h A B) {t : Int} : WP (d + 1) mX12_isThing 0 [some (.inr (.inr 294)), some (.inr (.inl t)), none] [] h Q = Q (some (.inl (if 0 ≤ t ∧ t < A 1 then 1 else 0))) h := by
  rw [S_rThing x.rp, putS_47 _ _ (by omega)]
theorem S_rGoer' {d : Nat} {h : Hp} {A B : Nat → Int} {Q : Option PV → Hp → Prop} (x : RS h A B) {t : Int} : WP (d + 1) mX12_isGoer 0 [some (.inr (.inr 294)), some (.inr (.inl t)), none] [] h Q = Q (some (.inl (if 0 ≤ t ∧ t < A 2 then 1 else 0))) h := by
  rw [S_rGoer x.rp, putS_47 _ _ (by omega)]
theorem S_laysB {d : Nat} {Q : Option PV → Hp → Prop} {h : Hp} {A B : Nat → Int} (x : RS h A B) {g : Nat} (hg : g < 6)
    (k : ∀ h', Fp lP h h' → hI h' 294 18 = bR A B g → hI h' 294 19 = (bT A B g : Nat) → hI h' 294 20 = bP A B g → Q none h') :
    WP (d + 3) mX12_laysNow 0 [some (.inr (.inr 294)), some (.inl (g : Int))] [] h Q := by
  refine S_laysNow x.rp x.st hg ?_
  intro h' f a1 a2 a3
  obtain ⟨e1, e2, e3⟩ := a_put (B := B) x.2.2.1 hg
  rw [e1] at a1
  rw [e2] at a2
  rw [e3] at a3
  exact k h' f a1 a2 a3
def keP (a _k : Nat) : Prop := a = 301
theorem S_keeps {d : Nat} {Q : Option PV → Hp → Prop} {h : Hp} {A B : Nat → Int} (x : RS h A B) (k : ∀ h', Fp keP h h' → (∀ j, j < 14 → hI h' 301 j = B j) → Q none h') : WP d mX12_keeps 0 [some (.inr (.inr 294)), none] [] h Q := by
  simp only [rX12_keeps_0, rX12_keeps_1]
  refine wp_for (fun i h' => WP d mX12_keeps 2 [some (.inr (.inr 294)), some (.inl (i : Int))] [] h' Q) (fun i h' => Fp keP h h' ∧ ∀ j, j < i → hI h' 301 j = B j) 14 ?_ ?_ 0 h (by omega) ⟨Fp.refl _ h, fun j hj => by omega⟩
  · rintro i h' hi ⟨f, e⟩ kk
    have m' := x.1.fr f
    have b : hI h' 295 (33 + i) = B i := by rw [f.I (by unfold keP; omega)]; exact x.b hi
    rw [rX12_keeps_2]
    simp only [rX12_keeps_3, rX12_keeps_5, rX12_keeps_8, rX12_keeps_9, rX12_keeps_12, rX12_keeps_13, rX12_keeps_14, rX12_keeps_17, rX12_keeps_19, rX12_keeps_20, rX12_keeps_21, rX12_keeps_22, rX12_keeps_23, rX12_keeps_26, Md_K280 m', Md_R281 m', Md_K281 m', Md_R282 m', Md_K282 m', Md_R283 m', Md_K283 m', Md_R284 m', Md_K284 m', Md_R285 m', Md_K285 m', Md_R286 m', Md_K286 m', Md_R287 m', Md_K287 m', Md_R288 m', Md_K288 m', Md_R289 m', Md_K289 m', Md_R290 m', Md_K290 m', Md_R291 m', Md_K291 m', Md_R292 m', Md_K292 m', Md_R293 m', Md_K293 m', Md_R294 m', Md_K294 m', Md_R295 m', Md_K295 m', Md_R296 m', Md_K296 m', Md_R297 m', Md_K297 m', Md_R298 m', Md_K298 m', Md_R299 m', Md_K299 m', Int.toNat_natCast, Int.natCast_nonneg, true_and, and_true, and_self, if_true, if_false, or_true, true_or, or_false, false_or, ne_eq, not_true_eq_false, not_false_eq_true, Nat.reduceLeDiff, Nat.reduceEqDiff, Nat.reduceLT, Nat.reduceAdd, Nat.reduceMul, Nat.reduceSub, Int.reduceLT, Int.reduceLE, Int.reduceEq, Int.reduceToNat, Int.reduceAdd, Int.reduceSub, Int.reduceMul, Int.reduceNeg, Int.cast_ofNat_Int, false_and, and_false, show (i : Int) < 14 by omega, w32_la (l := i) 33 (33 + i) (by omega) (by omega), w32_s (i := i) (by omega), b]
    refine ⟨by omega, kk _ ⟨f.wI rfl _, fun j hj => ?_⟩⟩
    rw [hI_wI]
    by_cases hji : j = i
    · rw [if_pos ⟨rfl, hji⟩, hji]
    · rw [if_neg (by omega)]; exact e j (by omega)
  · rintro h' ⟨f, e⟩
    simp only [rX12_keeps_2, rX12_keeps_3, rX12_keeps_5, rX12_keeps_29, Int.toNat_natCast, Int.natCast_nonneg, true_and, and_true, and_self, if_true, if_false, or_true, true_or, or_false, false_or, ne_eq, not_true_eq_false, not_false_eq_true, Nat.reduceLeDiff, Nat.reduceEqDiff, Nat.reduceLT, Nat.reduceAdd, Nat.reduceMul, Nat.reduceSub, Int.reduceLT, Int.reduceLE, Int.reduceEq, Int.reduceToNat, Int.reduceAdd, Int.reduceSub, Int.reduceMul, Int.reduceNeg, Int.cast_ofNat_Int, false_and, and_false]
    exact k h' f e
theorem S_isAgain {d : Nat} {Q : Option PV → Hp → Prop} {h : Hp} {A B W : Nat → Int} (x : RS h A B) (hw : ∀ j, j < 14 → hI h 301 j = W j) (k : ∀ h', Fp (fun a j => a = 295 ∧ 33 ≤ j ∧ j < 47) h h' → AtA h' (putS A W) → Q none h') : WP d mX12_isAgain 0 [some (.inr (.inr 294)), none] [] h Q := by
  simp only [rX12_isAgain_0, rX12_isAgain_1]
  refine wp_for (fun i h' => WP d mX12_isAgain 2 [some (.inr (.inr 294)), some (.inl (i : Int))] [] h' Q) (fun i h' => Fp (fun a j => a = 295 ∧ 33 ≤ j ∧ j < 47) h h' ∧ ∀ j, j < i → hI h' 295 (33 + j) = W j) 14 ?_ ?_ 0 h (by omega) ⟨Fp.refl _ h, fun j hj => by omega⟩
  · rintro i h' hi ⟨f, e⟩ kk
    have m' := x.1.fr f
    have b : hI h' 301 i = W i := by rw [f.I (by omega)]; exact hw i hi
    rw [rX12_isAgain_2]
    simp only [rX12_isAgain_3, rX12_isAgain_5, rX12_isAgain_8, rX12_isAgain_9, rX12_isAgain_12, rX12_isAgain_14, rX12_isAgain_15, rX12_isAgain_16, rX12_isAgain_17, rX12_isAgain_20, rX12_isAgain_21, rX12_isAgain_22, rX12_isAgain_23, rX12_isAgain_26, Md_K280 m', Md_R281 m', Md_K281 m', Md_R282 m', Md_K282 m', Md_R283 m', Md_K283 m', Md_R284 m', Md_K284 m', Md_R285 m', Md_K285 m', Md_R286 m', Md_K286 m', Md_R287 m', Md_K287 m', Md_R288 m', Md_K288 m', Md_R289 m', Md_K289 m', Md_R290 m', Md_K290 m', Md_R291 m', Md_K291 m', Md_R292 m', Md_K292 m', Md_R293 m', Md_K293 m', Md_R294 m', Md_K294 m', Md_R295 m', Md_K295 m', Md_R296 m', Md_K296 m', Md_R297 m', Md_K297 m', Md_R298 m', Md_K298 m', Md_R299 m', Md_K299 m', Int.toNat_natCast, Int.natCast_nonneg, true_and, and_true, and_self, if_true, if_false, or_true, true_or, or_false, false_or, ne_eq, not_true_eq_false, not_false_eq_true, Nat.reduceLeDiff, Nat.reduceEqDiff, Nat.reduceLT, Nat.reduceAdd, Nat.reduceMul, Nat.reduceSub, Int.reduceLT, Int.reduceLE, Int.reduceEq, Int.reduceToNat, Int.reduceAdd, Int.reduceSub, Int.reduceMul, Int.reduceNeg, Int.cast_ofNat_Int, false_and, and_false, show (i : Int) < 14 by omega, w32_la (l := i) 33 (33 + i) (by omega) (by omega), w32_s (i := i) (by omega), b]
    refine ⟨by omega, kk _ ⟨f.wI (by omega) _, fun j hj => ?_⟩⟩
    rw [hI_wI]
    by_cases hji : j = i
    · rw [if_pos ⟨rfl, by omega⟩, hji]
    · rw [if_neg (by omega)]; exact e j (by omega)
  · rintro h' ⟨f, e⟩
    simp only [rX12_isAgain_2, rX12_isAgain_3, rX12_isAgain_5, rX12_isAgain_29, Int.toNat_natCast, Int.natCast_nonneg, true_and, and_true, and_self, if_true, if_false, or_true, true_or, or_false, false_or, ne_eq, not_true_eq_false, not_false_eq_true, Nat.reduceLeDiff, Nat.reduceEqDiff, Nat.reduceLT, Nat.reduceAdd, Nat.reduceMul, Nat.reduceSub, Int.reduceLT, Int.reduceLE, Int.reduceEq, Int.reduceToNat, Int.reduceAdd, Int.reduceSub, Int.reduceMul, Int.reduceNeg, Int.cast_ofNat_Int, false_and, and_false]
    refine k h' f (fun j hj => ?_)
    by_cases hb : 33 ≤ j ∧ j < 47
    · have := e (j - 33) (by omega)
      rw [show 33 + (j - 33) = j by omega] at this
      rw [this]
      unfold putS; rw [if_pos hb]
    · rw [f.I (by omega), x.2.1 j hj]
      unfold putS; rw [if_neg hb, if_neg hb]
def ntP (a k : Nat) : Prop := a = 295 ∧ 47 ≤ k ∧ k < 188
set_option maxHeartbeats 1000000 in
theorem S_notes2 {d : Nat} {Q : Option PV → Hp → Prop} {h0 h : Hp} {n : Nat} (hn : n < 10) {W C : Nat → Int} (m : MdOk h) (f0 : Fp ntP h0 h) (x1 : Option PV) (a : AtA h C) (c : C 47 = (n : Int)) (hw : ∀ j, j < 14 → hI h 301 j = W j)
    (k : ∀ h', Fp ntP h0 h' → AtA h' (fun k => if k = 47 then (n : Int) + 1 else if 48 + 14 * n ≤ k ∧ k < 62 + 14 * n then W (k - 48 - 14 * n) else C k) → Q none h') : WP d mX12_notes 55 [some (.inr (.inr 294)), x1] [] h Q := by
  simp only [rX12_notes_55, rX12_notes_56]
  refine wp_for (fun i h' => WP d mX12_notes 57 [some (.inr (.inr 294)), some (.inl (i : Int))] [] h' Q) (fun i h' => Fp (fun a k => a = 295 ∧ 48 + 14 * n ≤ k ∧ k < 62 + 14 * n) h h' ∧ ∀ j, j < i → hI h' 295 (48 + 14 * n + j) = W j) 14 ?_ ?_ 0 h (by omega) ⟨Fp.refl _ h, fun j hj => by omega⟩
  · rintro i h' hi ⟨f, e⟩ kk
    have m' := m.fr f
    have b : hI h' 301 i = W i := by rw [f.I (by omega)]; exact hw i hi
    have c7 : hI h' 295 47 = (n : Int) := by rw [f.I (by omega), a 47 (by omega), c]
    have e1 : w32 (14 * (n : Int)) = ((14 * n : Nat) : Int) := by rw [w32_i (by omega) (by omega)]; omega
    have e2 : w32 (48 + ((14 * n : Nat) : Int)) = ((48 + 14 * n : Nat) : Int) := w32_la _ _ (by omega) (by omega)
    have e3 : w32 (((48 + 14 * n : Nat) : Int) + (i : Int)) = ((48 + 14 * n + i : Nat) : Int) := w32_ll (by omega)
    rw [rX12_notes_57]
    simp only [rX12_notes_58, rX12_notes_60, rX12_notes_63, rX12_notes_64, rX12_notes_67, rX12_notes_69, rX12_notes_71, rX12_notes_72, rX12_notes_75, rX12_notes_77, rX12_notes_78, rX12_notes_79, rX12_notes_80, rX12_notes_81, rX12_notes_82, rX12_notes_83, rX12_notes_86, rX12_notes_87, rX12_notes_88, rX12_notes_89, rX12_notes_92, Md_K280 m', Md_R281 m', Md_K281 m', Md_R282 m', Md_K282 m', Md_R283 m', Md_K283 m', Md_R284 m', Md_K284 m', Md_R285 m', Md_K285 m', Md_R286 m', Md_K286 m', Md_R287 m', Md_K287 m', Md_R288 m', Md_K288 m', Md_R289 m', Md_K289 m', Md_R290 m', Md_K290 m', Md_R291 m', Md_K291 m', Md_R292 m', Md_K292 m', Md_R293 m', Md_K293 m', Md_R294 m', Md_K294 m', Md_R295 m', Md_K295 m', Md_R296 m', Md_K296 m', Md_R297 m', Md_K297 m', Md_R298 m', Md_K298 m', Md_R299 m', Md_K299 m', Int.toNat_natCast, Int.natCast_nonneg, true_and, and_true, and_self, if_true, if_false, or_true, true_or, or_false, false_or, ne_eq, not_true_eq_false, not_false_eq_true, Nat.reduceLeDiff, Nat.reduceEqDiff, Nat.reduceLT, Nat.reduceAdd, Nat.reduceMul, Nat.reduceSub, Int.reduceLT, Int.reduceLE, Int.reduceEq, Int.reduceToNat, Int.reduceAdd, Int.reduceSub, Int.reduceMul, Int.reduceNeg, Int.cast_ofNat_Int, false_and, and_false, show (i : Int) < 14 by omega, c7, e1, e2, e3, w32_s (i := i) (by omega), b]
    refine ⟨by omega, kk _ ⟨f.wI (by omega) _, fun j hj => ?_⟩⟩
    rw [hI_wI]
    by_cases hji : j = i
    · rw [if_pos ⟨rfl, by omega⟩, hji]
    · rw [if_neg (by omega)]; exact e j (by omega)
  · rintro h' ⟨f, e⟩
    have m' := m.fr f
    have c7 : hI h' 295 47 = (n : Int) := by rw [f.I (by omega), a 47 (by omega), c]
    simp only [rX12_notes_57, rX12_notes_58, rX12_notes_60, rX12_notes_95, rX12_notes_96, rX12_notes_99, rX12_notes_101, rX12_notes_102, rX12_notes_103, rX12_notes_104, rX12_notes_105, rX12_notes_106, Int.toNat_natCast, Int.natCast_nonneg, true_and, and_true, and_self, if_true, if_false, or_true, true_or, or_false, false_or, ne_eq, not_true_eq_false, not_false_eq_true, Nat.reduceLeDiff, Nat.reduceEqDiff, Nat.reduceLT, Nat.reduceAdd, Nat.reduceMul, Nat.reduceSub, Int.reduceLT, Int.reduceLE, Int.reduceEq, Int.reduceToNat, Int.reduceAdd, Int.reduceSub, Int.reduceMul, Int.reduceNeg, Int.cast_ofNat_Int, false_and, and_false, Md_K280 m', Md_R281 m', Md_K281 m', Md_R282 m', Md_K282 m', Md_R283 m', Md_K283 m', Md_R284 m', Md_K284 m', Md_R285 m', Md_K285 m', Md_R286 m', Md_K286 m', Md_R287 m', Md_K287 m', Md_R288 m', Md_K288 m', Md_R289 m', Md_K289 m', Md_R290 m', Md_K290 m', Md_R291 m', Md_K291 m', Md_R292 m', Md_K292 m', Md_R293 m', Md_K293 m', Md_R294 m', Md_K294 m', Md_R295 m', Md_K295 m', Md_R296 m', Md_K296 m', Md_R297 m', Md_K297 m', Md_R298 m', Md_K298 m', Md_R299 m', Md_K299 m', c7, w32_i (z := (n : Int) + 1) (by omega) (by omega)]
    refine k _ ((f0.trans (f.mono (fun a k q => by unfold ntP; omega))).wI (by unfold ntP; omega) _) (fun j hj => ?_)
    rw [hI_wI]
    dsimp only
    by_cases h47 : j = 47
    · rw [if_pos ⟨rfl, h47⟩, if_pos h47]
    · rw [if_neg (by omega), if_neg h47]
      by_cases hb : 48 + 14 * n ≤ j ∧ j < 62 + 14 * n
      · rw [if_pos hb]
        have := e (j - 48 - 14 * n) (by omega)
        rw [show 48 + 14 * n + (j - 48 - 14 * n) = j by omega] at this
        exact this
      · rw [if_neg hb, f.I (by omega)]
        exact a j hj
set_option maxHeartbeats 1000000 in
theorem S_notes {d : Nat} {Q : Option PV → Hp → Prop} {h : Hp} {A W : Nat → Int} (m : MdOk h) (a : AtA h A) (n0 : 0 ≤ A 47) (n1 : A 47 ≤ 10) (hw : ∀ j, j < 14 → hI h 301 j = W j)
    (k : ∀ h', Fp ntP h h' → AtA h' (ntA A W) → Q none h') : WP d mX12_notes 0 [some (.inr (.inr 294)), none] [] h Q := by
  simp only [rX12_notes_0, rX12_notes_1, rX12_notes_4, rX12_notes_6, rX12_notes_7, rX12_notes_9, Md_K280 m, Md_R281 m, Md_K281 m, Md_R282 m, Md_K282 m, Md_R283 m, Md_K283 m, Md_R284 m, Md_K284 m, Md_R285 m, Md_K285 m, Md_R286 m, Md_K286 m, Md_R287 m, Md_K287 m, Md_R288 m, Md_K288 m, Md_R289 m, Md_K289 m, Md_R290 m, Md_K290 m, Md_R291 m, Md_K291 m, Md_R292 m, Md_K292 m, Md_R293 m, Md_K293 m, Md_R294 m, Md_K294 m, Md_R295 m, Md_K295 m, Md_R296 m, Md_K296 m, Md_R297 m, Md_K297 m, Md_R298 m, Md_K298 m, Md_R299 m, Md_K299 m, Int.toNat_natCast, Int.natCast_nonneg, true_and, and_true, and_self, if_true, if_false, or_true, true_or, or_false, false_or, ne_eq, not_true_eq_false, not_false_eq_true, Nat.reduceLeDiff, Nat.reduceEqDiff, Nat.reduceLT, Nat.reduceAdd, Nat.reduceMul, Nat.reduceSub, Int.reduceLT, Int.reduceLE, Int.reduceEq, Int.reduceToNat, Int.reduceAdd, Int.reduceSub, Int.reduceMul, Int.reduceNeg, Int.cast_ofNat_Int, false_and, and_false, a 47 (by omega)]
  by_cases h10 : A 47 = 10
  · rw [if_pos h10]
    simp only [rX12_notes_12, rX12_notes_13]
    refine wp_for (fun i h' => WP d mX12_notes 14 [some (.inr (.inr 294)), some (.inl (i : Int))] [] h' Q) (fun i h' => Fp (fun a k => a = 295 ∧ 48 ≤ k ∧ k < 174) h h' ∧ ∀ j, j < 140 → hI h' 295 (48 + j) = if j < i then A (62 + j) else A (48 + j)) 126 ?_ ?_ 0 h (by omega) ⟨Fp.refl _ h, fun j hj => by rw [if_neg (by omega)]; exact a _ (by omega)⟩
    · rintro i h' hi ⟨f, e⟩ kk
      have m' := m.fr f
      have b : hI h' 295 (62 + i) = A (62 + i) := by
        have := e (14 + i) (by omega)
        rw [if_neg (by omega), show 48 + (14 + i) = 62 + i by omega] at this
        exact this
      rw [rX12_notes_14]
      simp only [rX12_notes_15, rX12_notes_17, rX12_notes_20, rX12_notes_21, rX12_notes_24, rX12_notes_26, rX12_notes_27, rX12_notes_28, rX12_notes_29, rX12_notes_32, rX12_notes_34, rX12_notes_35, rX12_notes_36, rX12_notes_37, rX12_notes_38, rX12_notes_41, Md_K280 m', Md_R281 m', Md_K281 m', Md_R282 m', Md_K282 m', Md_R283 m', Md_K283 m', Md_R284 m', Md_K284 m', Md_R285 m', Md_K285 m', Md_R286 m', Md_K286 m', Md_R287 m', Md_K287 m', Md_R288 m', Md_K288 m', Md_R289 m', Md_K289 m', Md_R290 m', Md_K290 m', Md_R291 m', Md_K291 m', Md_R292 m', Md_K292 m', Md_R293 m', Md_K293 m', Md_R294 m', Md_K294 m', Md_R295 m', Md_K295 m', Md_R296 m', Md_K296 m', Md_R297 m', Md_K297 m', Md_R298 m', Md_K298 m', Md_R299 m', Md_K299 m', Int.toNat_natCast, Int.natCast_nonneg, true_and, and_true, and_self, if_true, if_false, or_true, true_or, or_false, false_or, ne_eq, not_true_eq_false, not_false_eq_true, Nat.reduceLeDiff, Nat.reduceEqDiff, Nat.reduceLT, Nat.reduceAdd, Nat.reduceMul, Nat.reduceSub, Int.reduceLT, Int.reduceLE, Int.reduceEq, Int.reduceToNat, Int.reduceAdd, Int.reduceSub, Int.reduceMul, Int.reduceNeg, Int.cast_ofNat_Int, false_and, and_false, show (i : Int) < 126 by omega, w32_la (l := i) 48 (48 + i) (by omega) (by omega), w32_la (l := i) 62 (62 + i) (by omega) (by omega), w32_s (i := i) (by omega), b]
      refine ⟨by omega, by omega, kk _ ⟨f.wI (by omega) _, fun j hj => ?_⟩⟩
      rw [hI_wI]
      by_cases hji : j = i
      · rw [if_pos ⟨rfl, by omega⟩, if_pos (by omega), hji]
      · rw [if_neg (by omega), e j hj]
        by_cases hlt : j < i
        · rw [if_pos hlt, if_pos (by omega)]
        · rw [if_neg hlt, if_neg (by omega)]
    · rintro h' ⟨f, e⟩
      have m' := m.fr f
      have c7 : hI h' 295 47 = 10 := by rw [f.I (by omega), a 47 (by omega), h10]
      simp only [rX12_notes_14, rX12_notes_15, rX12_notes_17, rX12_notes_44, rX12_notes_45, rX12_notes_48, rX12_notes_50, rX12_notes_51, rX12_notes_52, rX12_notes_53, rX12_notes_54, Int.toNat_natCast, Int.natCast_nonneg, true_and, and_true, and_self, if_true, if_false, or_true, true_or, or_false, false_or, ne_eq, not_true_eq_false, not_false_eq_true, Nat.reduceLeDiff, Nat.reduceEqDiff, Nat.reduceLT, Nat.reduceAdd, Nat.reduceMul, Nat.reduceSub, Int.reduceLT, Int.reduceLE, Int.reduceEq, Int.reduceToNat, Int.reduceAdd, Int.reduceSub, Int.reduceMul, Int.reduceNeg, Int.cast_ofNat_Int, false_and, and_false, Md_K280 m', Md_R281 m', Md_K281 m', Md_R282 m', Md_K282 m', Md_R283 m', Md_K283 m', Md_R284 m', Md_K284 m', Md_R285 m', Md_K285 m', Md_R286 m', Md_K286 m', Md_R287 m', Md_K287 m', Md_R288 m', Md_K288 m', Md_R289 m', Md_K289 m', Md_R290 m', Md_K290 m', Md_R291 m', Md_K291 m', Md_R292 m', Md_K292 m', Md_R293 m', Md_K293 m', Md_R294 m', Md_K294 m', Md_R295 m', Md_K295 m', Md_R296 m', Md_K296 m', Md_R297 m', Md_K297 m', Md_R298 m', Md_K298 m', Md_R299 m', Md_K299 m', c7, show w32 (10 - 1) = 9 from rfl]
      have f1 : Fp ntP h (wI h' 295 47 9) := (f.mono (fun a k q => by unfold ntP; omega)).wI (by unfold ntP; omega) _
      refine S_notes2 (n := 9) (W := W) (C := fun k => if k = 47 then 9 else if 48 ≤ k ∧ k < 174 then A (k + 14) else A k) (by omega) (m.fr f1) f1 _ (fun j hj => ?_) (by rfl) (fun j hj => by rw [f1.I (by unfold ntP; omega)]; exact hw j hj) ?_
      · rw [hI_wI]
        dsimp only
        by_cases h47 : j = 47
        · rw [if_pos ⟨rfl, h47⟩, if_pos h47]
        · rw [if_neg (by omega), if_neg h47]
          by_cases hb : 48 ≤ j ∧ j < 174
          · rw [if_pos hb]
            have := e (j - 48) (by omega)
            rw [if_pos (by omega), show 48 + (j - 48) = j by omega, show 62 + (j - 48) = j + 14 by omega] at this
            exact this
          · rw [if_neg hb, f.I (by omega)]; exact a j hj
      · intro h2 f2 a2
        refine k h2 f2 (fun j hj => ?_)
        rw [a2 j hj]
        unfold ntA
        dsimp only
        by_cases h47 : j = 47
        · rw [if_pos h47, if_pos h47, if_pos h10]; rfl
        · by_cases hb : 48 ≤ j ∧ j < 188
          · by_cases hc : j < 174
            · simp only [if_neg h47, if_pos hb, if_pos h10, if_pos hc, if_neg (show ¬ (48 + 14 * 9 ≤ j ∧ j < 62 + 14 * 9) by omega), if_pos (show 48 ≤ j ∧ j < 174 by omega)]
            · simp only [if_neg h47, if_pos hb, if_pos h10, if_neg hc, if_pos (show 48 + 14 * 9 ≤ j ∧ j < 62 + 14 * 9 by omega)]
              rw [show j - 48 - 14 * 9 = j - 174 by omega]
          · simp only [if_neg h47, if_neg hb, if_neg (show ¬ (48 + 14 * 9 ≤ j ∧ j < 62 + 14 * 9) by omega), if_neg (show ¬ (48 ≤ j ∧ j < 174) by omega)]
  · rw [if_neg h10]
    obtain ⟨n, hn⟩ := Int.eq_ofNat_of_zero_le n0
    refine S_notes2 (n := n) (W := W) (C := A) (by omega) m (Fp.refl _ h) _ a hn hw ?_
    intro h2 f2 a2
    refine k h2 f2 (fun j hj => ?_)
    rw [a2 j hj]
    unfold ntA
    dsimp only
    by_cases h47 : j = 47
    · rw [if_pos h47, if_pos h47, if_neg h10, hn]
    · rw [if_neg h47, if_neg h47]
      by_cases hb : 48 ≤ j ∧ j < 188
      · rw [if_pos hb, if_neg h10, hn, Int.toNat_natCast]
      · rw [if_neg hb, if_neg (by omega)]
def zP (a k : Nat) : Prop := lP a k ∨ (a = 295 ∧ 33 ≤ k ∧ k < 47)
theorem RS.put {h h' : Hp} {A B B' : Nat → Int} (x : RS h A B) (f : Fp zP h h') (so : stOk B') (b : ∀ k, k < 14 → hI h' 295 (33 + k) = B' k) : RS h' A B' := by
  refine ⟨x.1.fr f, fun j hj => ?_, x.2.2.1, so⟩
  unfold putS
  by_cases hb : 33 ≤ j ∧ j < 47
  · rw [if_pos hb, ← b (j - 33) (by omega), show 33 + (j - 33) = j by omega]
  · rw [if_neg hb, f.I (by unfold zP lP; omega), x.2.1 j hj]
    unfold putS; rw [if_neg hb]
theorem lP_z {a k : Nat} (h : lP a k) : zP a k := Or.inl h
set_option maxHeartbeats 1000000 in
theorem S_rDives {d : Nat} {Q : Option PV → Hp → Prop} {h : Hp} {A B : Nat → Int} (x : RS h A B) {g : Nat} (hg : g < 6)
    (k : ∀ h', Fp zP h h' → RS h' A (dvB A B g) → hI h' 294 18 = bR A B g → Q none h') : WP (d + 4) mX12_dives 0 [some (.inr (.inr 294)), some (.inl (g : Int))] [] h Q := by
  have m := x.1
  simp only [rX12_dives_0, rX12_dives_1, rX12_dives_2, Md_K280 m, Md_R281 m, Md_K281 m, Md_R282 m, Md_K282 m, Md_R283 m, Md_K283 m, Md_R284 m, Md_K284 m, Md_R285 m, Md_K285 m, Md_R286 m, Md_K286 m, Md_R287 m, Md_K287 m, Md_R288 m, Md_K288 m, Md_R289 m, Md_K289 m, Md_R290 m, Md_K290 m, Md_R291 m, Md_K291 m, Md_R292 m, Md_K292 m, Md_R293 m, Md_K293 m, Md_R294 m, Md_K294 m, Md_R295 m, Md_K295 m, Md_R296 m, Md_K296 m, Md_R297 m, Md_K297 m, Md_R298 m, Md_K298 m, Md_R299 m, Md_K299 m, Int.toNat_natCast, Int.natCast_nonneg, true_and, and_true, and_self, if_true, if_false, or_true, true_or, or_false, false_or, ne_eq, not_true_eq_false, not_false_eq_true, Nat.reduceLeDiff, Nat.reduceEqDiff, Nat.reduceLT, Nat.reduceAdd, Nat.reduceMul, Nat.reduceSub, Int.reduceLT, Int.reduceLE, Int.reduceEq, Int.reduceToNat, Int.reduceAdd, Int.reduceSub, Int.reduceMul, Int.reduceNeg, Int.cast_ofNat_Int, false_and, and_false]
  refine S_laysB x hg ?_
  intro h' f a1 a2 a3
  have m' := m.fr f
  simp only [psh_none, rX12_dives_5, rX12_dives_6, rX12_dives_9, rX12_dives_11, rX12_dives_12, rX12_dives_15, rX12_dives_16, rX12_dives_17, rX12_dives_20, rX12_dives_22, rX12_dives_23, rX12_dives_26, rX12_dives_27, hN_wI, hN_wJ, hN_wR, hS_wI, hS_wJ, hS_wR, hK_wI, hK_wJ, hK_wR, hI_wI, hI_wJ, hI_wR, hJ_wI, hJ_wJ, hJ_wR, hR_wI, hR_wJ, hR_wR, hN_nw, hS_nw, hK_nw, hI_nw, hJ_nw, hR_nw, psh_some, psh_none, Md_K280 m', Md_R281 m', Md_K281 m', Md_R282 m', Md_K282 m', Md_R283 m', Md_K283 m', Md_R284 m', Md_K284 m', Md_R285 m', Md_K285 m', Md_R286 m', Md_K286 m', Md_R287 m', Md_K287 m', Md_R288 m', Md_K288 m', Md_R289 m', Md_K289 m', Md_R290 m', Md_K290 m', Md_R291 m', Md_K291 m', Md_R292 m', Md_K292 m', Md_R293 m', Md_K293 m', Md_R294 m', Md_K294 m', Md_R295 m', Md_K295 m', Md_R296 m', Md_K296 m', Md_R297 m', Md_K297 m', Md_R298 m', Md_K298 m', Md_R299 m', Md_K299 m', Int.toNat_natCast, Int.natCast_nonneg, true_and, and_true, and_self, if_true, if_false, or_true, true_or, or_false, false_or, ne_eq, not_true_eq_false, not_false_eq_true, Nat.reduceLeDiff, Nat.reduceEqDiff, Nat.reduceLT, Nat.reduceAdd, Nat.reduceMul, Nat.reduceSub, Int.reduceLT, Int.reduceLE, Int.reduceEq, Int.reduceToNat, Int.reduceAdd, Int.reduceSub, Int.reduceMul, Int.reduceNeg, Int.cast_ofNat_Int, false_and, and_false, a2, a3]
  have fz : Fp zP h (wI (wI h' 295 34 (bT A B g : Nat)) 295 33 (bP A B g)) := ((f.mono (fun _ _ => lP_z)).wI (by unfold zP; omega) _).wI (by unfold zP; omega) _
  refine k _ fz (x.put fz (dvB_ok x.2.2.1 x.2.2.2 hg) (fun j hj => ?_)) ?_
  · simp only [hI_wI, true_and]
    unfold dvB
    by_cases j0 : j = 0
    · rw [if_pos (by omega), if_pos j0]
    · rw [if_neg (by omega), if_neg j0]
      by_cases j1 : j = 1
      · rw [if_pos (by omega), if_pos j1]
      · rw [if_neg (by omega), if_neg j1]
        exact (x.fr f).b hj
  · simp only [hN_wI, hN_wJ, hN_wR, hS_wI, hS_wJ, hS_wR, hK_wI, hK_wJ, hK_wR, hI_wI, hI_wJ, hI_wR, hJ_wI, hJ_wJ, hJ_wR, hR_wI, hR_wJ, hR_wR, hN_nw, hS_nw, hK_nw, hI_nw, hJ_nw, hR_nw, psh_some, psh_none, Int.toNat_natCast, Int.natCast_nonneg, true_and, and_true, and_self, if_true, if_false, or_true, true_or, or_false, false_or, ne_eq, not_true_eq_false, not_false_eq_true, Nat.reduceLeDiff, Nat.reduceEqDiff, Nat.reduceLT, Nat.reduceAdd, Nat.reduceMul, Nat.reduceSub, Int.reduceLT, Int.reduceLE, Int.reduceEq, Int.reduceToNat, Int.reduceAdd, Int.reduceSub, Int.reduceMul, Int.reduceNeg, Int.cast_ofNat_Int, false_and, and_false]; exact a1
set_option maxHeartbeats 1000000 in
theorem S_rSays {d : Nat} {Q : Option PV → Hp → Prop} {h : Hp} {A B : Nat → Int} (x : RS h A B) {g : Nat} (hg : g < 6) {n : Int} (h0 : 0 ≤ n) (h9 : n ≤ 99)
    (k : ∀ h', Fp zP h h' → RS h' A (syB A B g n) → hI h' 294 18 = bR A B g → Q none h') : WP (d + 5) mX12_says 0 [some (.inr (.inr 294)), some (.inl (g : Int)), some (.inl n)] [] h Q := by
  have m := x.1
  simp only [rX12_says_0, rX12_says_1, rX12_says_2, Md_K280 m, Md_R281 m, Md_K281 m, Md_R282 m, Md_K282 m, Md_R283 m, Md_K283 m, Md_R284 m, Md_K284 m, Md_R285 m, Md_K285 m, Md_R286 m, Md_K286 m, Md_R287 m, Md_K287 m, Md_R288 m, Md_K288 m, Md_R289 m, Md_K289 m, Md_R290 m, Md_K290 m, Md_R291 m, Md_K291 m, Md_R292 m, Md_K292 m, Md_R293 m, Md_K293 m, Md_R294 m, Md_K294 m, Md_R295 m, Md_K295 m, Md_R296 m, Md_K296 m, Md_R297 m, Md_K297 m, Md_R298 m, Md_K298 m, Md_R299 m, Md_K299 m, Int.toNat_natCast, Int.natCast_nonneg, true_and, and_true, and_self, if_true, if_false, or_true, true_or, or_false, false_or, ne_eq, not_true_eq_false, not_false_eq_true, Nat.reduceLeDiff, Nat.reduceEqDiff, Nat.reduceLT, Nat.reduceAdd, Nat.reduceMul, Nat.reduceSub, Int.reduceLT, Int.reduceLE, Int.reduceEq, Int.reduceToNat, Int.reduceAdd, Int.reduceSub, Int.reduceMul, Int.reduceNeg, Int.cast_ofNat_Int, false_and, and_false]
  refine S_rDives x hg ?_
  intro h' f x' a1
  have m' := m.fr f
  simp only [psh_none, rX12_says_5, rX12_says_6, rX12_says_9, rX12_says_11, rX12_says_12, rX12_says_13, hN_wI, hN_wJ, hN_wR, hS_wI, hS_wJ, hS_wR, hK_wI, hK_wJ, hK_wR, hI_wI, hI_wJ, hI_wR, hJ_wI, hJ_wJ, hJ_wR, hR_wI, hR_wJ, hR_wR, hN_nw, hS_nw, hK_nw, hI_nw, hJ_nw, hR_nw, psh_some, psh_none, Md_K280 m', Md_R281 m', Md_K281 m', Md_R282 m', Md_K282 m', Md_R283 m', Md_K283 m', Md_R284 m', Md_K284 m', Md_R285 m', Md_K285 m', Md_R286 m', Md_K286 m', Md_R287 m', Md_K287 m', Md_R288 m', Md_K288 m', Md_R289 m', Md_K289 m', Md_R290 m', Md_K290 m', Md_R291 m', Md_K291 m', Md_R292 m', Md_K292 m', Md_R293 m', Md_K293 m', Md_R294 m', Md_K294 m', Md_R295 m', Md_K295 m', Md_R296 m', Md_K296 m', Md_R297 m', Md_K297 m', Md_R298 m', Md_K298 m', Md_R299 m', Md_K299 m', Int.toNat_natCast, Int.natCast_nonneg, true_and, and_true, and_self, if_true, if_false, or_true, true_or, or_false, false_or, ne_eq, not_true_eq_false, not_false_eq_true, Nat.reduceLeDiff, Nat.reduceEqDiff, Nat.reduceLT, Nat.reduceAdd, Nat.reduceMul, Nat.reduceSub, Int.reduceLT, Int.reduceLE, Int.reduceEq, Int.reduceToNat, Int.reduceAdd, Int.reduceSub, Int.reduceMul, Int.reduceNeg, Int.cast_ofNat_Int, false_and, and_false]
  have fz : Fp zP h (wI h' 295 33 n) := f.wI (by unfold zP; omega) _
  refine k _ fz (x.put fz (syB_ok x.2.2.1 x.2.2.2 hg h0 h9) (fun j hj => ?_)) ?_
  · simp only [hI_wI, true_and]
    have := x'.b hj
    unfold dvB at this
    unfold syB
    by_cases j0 : j = 0
    · rw [if_pos (by omega), if_pos j0]
    · rw [if_neg (by omega), if_neg j0]
      rw [if_neg j0] at this
      exact this
  · simp only [hN_wI, hN_wJ, hN_wR, hS_wI, hS_wJ, hS_wR, hK_wI, hK_wJ, hK_wR, hI_wI, hI_wJ, hI_wR, hJ_wI, hJ_wJ, hJ_wR, hR_wI, hR_wJ, hR_wR, hN_nw, hS_nw, hK_nw, hI_nw, hJ_nw, hR_nw, psh_some, psh_none, Int.toNat_natCast, Int.natCast_nonneg, true_and, and_true, and_self, if_true, if_false, or_true, true_or, or_false, false_or, ne_eq, not_true_eq_false, not_false_eq_true, Nat.reduceLeDiff, Nat.reduceEqDiff, Nat.reduceLT, Nat.reduceAdd, Nat.reduceMul, Nat.reduceSub, Int.reduceLT, Int.reduceLE, Int.reduceEq, Int.reduceToNat, Int.reduceAdd, Int.reduceSub, Int.reduceMul, Int.reduceNeg, Int.cast_ofNat_Int, false_and, and_false]; exact a1
theorem S_whySay {d : Nat} {Q : Option PV → Hp → Prop} {h : Hp} {A B : Nat → Int} (x : RS h A B) {g n : Int}
    (k : ∀ h', Fp lP h h' → Q (some (.inl (whyS A B g n))) h') : WP (d + 4) mX12_whySay 0 [some (.inr (.inr 294)), some (.inr (.inl g)), none, some (.inr (.inl n)), none] [] h Q := by
  have m := x.1
  unfold whyS at k
  simp only [rX12_whySay_0, rX12_whySay_1, rX12_whySay_2, rX12_whySay_5, rX12_whySay_8, rX12_whySay_9, rX12_whySay_10, rX12_whySay_13, rX12_whySay_16, rX12_whySay_19, rX12_whySay_20, Md_K280 m, Md_R281 m, Md_K281 m, Md_R282 m, Md_K282 m, Md_R283 m, Md_K283 m, Md_R284 m, Md_K284 m, Md_R285 m, Md_K285 m, Md_R286 m, Md_K286 m, Md_R287 m, Md_K287 m, Md_R288 m, Md_K288 m, Md_R289 m, Md_K289 m, Md_R290 m, Md_K290 m, Md_R291 m, Md_K291 m, Md_R292 m, Md_K292 m, Md_R293 m, Md_K293 m, Md_R294 m, Md_K294 m, Md_R295 m, Md_K295 m, Md_R296 m, Md_K296 m, Md_R297 m, Md_K297 m, Md_R298 m, Md_K298 m, Md_R299 m, Md_K299 m, Int.toNat_natCast, Int.natCast_nonneg, true_and, and_true, and_self, if_true, if_false, or_true, true_or, or_false, false_or, ne_eq, not_true_eq_false, not_false_eq_true, Nat.reduceLeDiff, Nat.reduceEqDiff, Nat.reduceLT, Nat.reduceAdd, Nat.reduceMul, Nat.reduceSub, Int.reduceLT, Int.reduceLE, Int.reduceEq, Int.reduceToNat, Int.reduceAdd, Int.reduceSub, Int.reduceMul, Int.reduceNeg, Int.cast_ofNat_Int, false_and, and_false, S_rGoer' x, S_within, psh_some]
  by_cases h1 : 0 ≤ g ∧ g < A 2
  · rw [if_pos h1, if_neg (by decide)]
    by_cases h2 : 0 ≤ n ∧ n ≤ 99
    · simp only [if_pos (And.intro h1 h2)] at k
      rw [if_pos h2, if_neg (by decide)]
      obtain ⟨i, rfl⟩ := Int.eq_ofNat_of_zero_le h1.1
      have n6 := x.2.2.1.2.2.2.1
      simp only [rX12_whySay_21, rX12_whySay_22, rX12_whySay_23, rX12_whySay_24, Md_K280 m, Md_R281 m, Md_K281 m, Md_R282 m, Md_K282 m, Md_R283 m, Md_K283 m, Md_R284 m, Md_K284 m, Md_R285 m, Md_K285 m, Md_R286 m, Md_K286 m, Md_R287 m, Md_K287 m, Md_R288 m, Md_K288 m, Md_R289 m, Md_K289 m, Md_R290 m, Md_K290 m, Md_R291 m, Md_K291 m, Md_R292 m, Md_K292 m, Md_R293 m, Md_K293 m, Md_R294 m, Md_K294 m, Md_R295 m, Md_K295 m, Md_R296 m, Md_K296 m, Md_R297 m, Md_K297 m, Md_R298 m, Md_K298 m, Md_R299 m, Md_K299 m, Int.toNat_natCast, Int.natCast_nonneg, true_and, and_true, and_self, if_true, if_false, or_true, true_or, or_false, false_or, ne_eq, not_true_eq_false, not_false_eq_true, Nat.reduceLeDiff, Nat.reduceEqDiff, Nat.reduceLT, Nat.reduceAdd, Nat.reduceMul, Nat.reduceSub, Int.reduceLT, Int.reduceLE, Int.reduceEq, Int.reduceToNat, Int.reduceAdd, Int.reduceSub, Int.reduceMul, Int.reduceNeg, Int.cast_ofNat_Int, false_and, and_false, w32_i (z := (i : Int)) (by omega) (by omega)]
      refine S_laysB x (by omega) ?_
      intro h' f a1 a2 a3
      have m' := m.fr f
      have k0 := k h' f
      simp only [Int.toNat_natCast] at k0
      simp only [psh_none, rX12_whySay_27, rX12_whySay_28, rX12_whySay_29, rX12_whySay_32, rX12_whySay_33, rX12_whySay_34, rX12_whySay_37, rX12_whySay_38, rX12_whySay_41, rX12_whySay_42, Md_K280 m', Md_R281 m', Md_K281 m', Md_R282 m', Md_K282 m', Md_R283 m', Md_K283 m', Md_R284 m', Md_K284 m', Md_R285 m', Md_K285 m', Md_R286 m', Md_K286 m', Md_R287 m', Md_K287 m', Md_R288 m', Md_K288 m', Md_R289 m', Md_K289 m', Md_R290 m', Md_K290 m', Md_R291 m', Md_K291 m', Md_R292 m', Md_K292 m', Md_R293 m', Md_K293 m', Md_R294 m', Md_K294 m', Md_R295 m', Md_K295 m', Md_R296 m', Md_K296 m', Md_R297 m', Md_K297 m', Md_R298 m', Md_K298 m', Md_R299 m', Md_K299 m', Int.toNat_natCast, Int.natCast_nonneg, true_and, and_true, and_self, if_true, if_false, or_true, true_or, or_false, false_or, ne_eq, not_true_eq_false, not_false_eq_true, Nat.reduceLeDiff, Nat.reduceEqDiff, Nat.reduceLT, Nat.reduceAdd, Nat.reduceMul, Nat.reduceSub, Int.reduceLT, Int.reduceLE, Int.reduceEq, Int.reduceToNat, Int.reduceAdd, Int.reduceSub, Int.reduceMul, Int.reduceNeg, Int.cast_ofNat_Int, false_and, and_false, a1, lcm_neg]
      by_cases h3 : n < bR A B i
      · rw [if_pos h3] at k0 ⊢; exact k0
      · rw [if_neg h3] at k0 ⊢; exact k0
    · simp only [if_neg (fun q : (0 ≤ g ∧ g < A 2) ∧ 0 ≤ n ∧ n ≤ 99 => h2 q.2)] at k
      rw [if_neg h2, if_pos (by trivial)]
      exact k h (Fp.refl _ h)
  · simp only [if_neg (fun q : (0 ≤ g ∧ g < A 2) ∧ 0 ≤ n ∧ n ≤ 99 => h1 q.1)] at k
    rw [if_neg h1, if_pos (by trivial)]
    exact k h (Fp.refl _ h)
theorem S_whyWipe {d : Nat} {Q : Option PV → Hp → Prop} {h : Hp} {A B : Nat → Int} (x : RS h A B) {t : Int} : WP (d + 2) mX12_whyWipe 0 [some (.inr (.inr 294)), some (.inr (.inl t)), none] [] h Q = Q (some (.inl (whyW A B t))) h := by
  have m := x.1
  have e4 : hI h 295 34 = (((B 1).toNat : Nat) : Int) := by rw [x.b (k := 1) (by omega), toN x.2.2.2.2.2.1]
  have b6 := x.2.2.2.2.2.2.1
  unfold whyW
  simp only [rX12_whyWipe_0, rX12_whyWipe_1, rX12_whyWipe_2, rX12_whyWipe_5, rX12_whyWipe_8, rX12_whyWipe_9, rX12_whyWipe_33, Md_K280 m, Md_R281 m, Md_K281 m, Md_R282 m, Md_K282 m, Md_R283 m, Md_K283 m, Md_R284 m, Md_K284 m, Md_R285 m, Md_K285 m, Md_R286 m, Md_K286 m, Md_R287 m, Md_K287 m, Md_R288 m, Md_K288 m, Md_R289 m, Md_K289 m, Md_R290 m, Md_K290 m, Md_R291 m, Md_K291 m, Md_R292 m, Md_K292 m, Md_R293 m, Md_K293 m, Md_R294 m, Md_K294 m, Md_R295 m, Md_K295 m, Md_R296 m, Md_K296 m, Md_R297 m, Md_K297 m, Md_R298 m, Md_K298 m, Md_R299 m, Md_K299 m, Int.toNat_natCast, Int.natCast_nonneg, true_and, and_true, and_self, if_true, if_false, or_true, true_or, or_false, false_or, ne_eq, not_true_eq_false, not_false_eq_true, Nat.reduceLeDiff, Nat.reduceEqDiff, Nat.reduceLT, Nat.reduceAdd, Nat.reduceMul, Nat.reduceSub, Int.reduceLT, Int.reduceLE, Int.reduceEq, Int.reduceToNat, Int.reduceAdd, Int.reduceSub, Int.reduceMul, Int.reduceNeg, Int.cast_ofNat_Int, false_and, and_false, S_rThing' x, psh_some]
  by_cases h1 : 0 ≤ t ∧ t < A 1
  · rw [if_pos h1, if_neg (by decide)]
    obtain ⟨n, rfl⟩ := Int.eq_ofNat_of_zero_le h1.1
    have n6 := x.2.2.1.2.1
    simp only [rX12_whyWipe_12, rX12_whyWipe_13, rX12_whyWipe_16, rX12_whyWipe_18, rX12_whyWipe_19, rX12_whyWipe_20, rX12_whyWipe_21, rX12_whyWipe_22, rX12_whyWipe_25, rX12_whyWipe_28, rX12_whyWipe_29, rX12_whyWipe_32, rX12_whyWipe_33, Md_K280 m, Md_R281 m, Md_K281 m, Md_R282 m, Md_K282 m, Md_R283 m, Md_K283 m, Md_R284 m, Md_K284 m, Md_R285 m, Md_K285 m, Md_R286 m, Md_K286 m, Md_R287 m, Md_K287 m, Md_R288 m, Md_K288 m, Md_R289 m, Md_K289 m, Md_R290 m, Md_K290 m, Md_R291 m, Md_K291 m, Md_R292 m, Md_K292 m, Md_R293 m, Md_K293 m, Md_R294 m, Md_K294 m, Md_R295 m, Md_K295 m, Md_R296 m, Md_K296 m, Md_R297 m, Md_K297 m, Md_R298 m, Md_K298 m, Md_R299 m, Md_K299 m, Int.toNat_natCast, Int.natCast_nonneg, true_and, and_true, and_self, if_true, if_false, or_true, true_or, or_false, false_or, ne_eq, not_true_eq_false, not_false_eq_true, Nat.reduceLeDiff, Nat.reduceEqDiff, Nat.reduceLT, Nat.reduceAdd, Nat.reduceMul, Nat.reduceSub, Int.reduceLT, Int.reduceLE, Int.reduceEq, Int.reduceToNat, Int.reduceAdd, Int.reduceSub, Int.reduceMul, Int.reduceNeg, Int.cast_ofNat_Int, false_and, and_false, e4, w32_i (z := (n : Int)) (by omega) (by omega), S_isIn (a := (B 1).toNat) (i := n) (by omega) (by omega), psh_some]
    by_cases h2 : (B 1).toNat.testBit n = true
    · simp [h1, h2]
    · simp [h1, h2]
  · rw [if_neg h1, if_pos (by trivial), if_neg h1]
theorem S_whyNot {d : Nat} {Q : Option PV → Hp → Prop} {h : Hp} {A B : Nat → Int} (x : RS h A B) {v : Int}
    (k : ∀ h', Fp lP h h' → Q (some (.inl (whyD A B v))) h') : WP (d + 5) mX12_whyNot 0 [some (.inr (.inr 294)), some (.inr (.inl v)), none] [] h Q := by
  have m := x.1
  have k0 := k h (Fp.refl _ h)
  unfold whyD at k k0
  simp only [rX12_whyNot_0, rX12_whyNot_1, rX12_whyNot_2, rX12_whyNot_5, rX12_whyNot_8, S_within, psh_some]
  by_cases h1 : 0 ≤ v ∧ v ≤ 9
  · rw [if_pos h1, if_neg (by decide)]
    rw [if_pos h1] at k0
    unfold whyV at k0
    simp only [rX12_whyNot_11, rX12_whyNot_12, rX12_whyNot_13, rX12_whyNot_16, rX12_whyNot_19, rX12_whyNot_20, rX12_whyNot_23, rX12_whyNot_24, Md_K280 m, Md_R281 m, Md_K281 m, Md_R282 m, Md_K282 m, Md_R283 m, Md_K283 m, Md_R284 m, Md_K284 m, Md_R285 m, Md_K285 m, Md_R286 m, Md_K286 m, Md_R287 m, Md_K287 m, Md_R288 m, Md_K288 m, Md_R289 m, Md_K289 m, Md_R290 m, Md_K290 m, Md_R291 m, Md_K291 m, Md_R292 m, Md_K292 m, Md_R293 m, Md_K293 m, Md_R294 m, Md_K294 m, Md_R295 m, Md_K295 m, Md_R296 m, Md_K296 m, Md_R297 m, Md_K297 m, Md_R298 m, Md_K298 m, Md_R299 m, Md_K299 m, Int.toNat_natCast, Int.natCast_nonneg, true_and, and_true, and_self, if_true, if_false, or_true, true_or, or_false, false_or, ne_eq, not_true_eq_false, not_false_eq_true, Nat.reduceLeDiff, Nat.reduceEqDiff, Nat.reduceLT, Nat.reduceAdd, Nat.reduceMul, Nat.reduceSub, Int.reduceLT, Int.reduceLE, Int.reduceEq, Int.reduceToNat, Int.reduceAdd, Int.reduceSub, Int.reduceMul, Int.reduceNeg, Int.cast_ofNat_Int, false_and, and_false, S_rGoer' x, psh_some]
    by_cases h2 : 0 ≤ v ∧ v < A 2
    · rw [if_pos h2] at k0 ⊢; rw [if_neg (by decide)]; exact k0
    · rw [if_neg h2] at k0 ⊢; rw [if_pos (by trivial)]; exact k0
  rw [if_neg h1] at k0
  rw [if_neg h1, if_pos (by trivial)]
  simp only [if_neg h1] at k
  simp only [rX12_whyNot_25, rX12_whyNot_26, rX12_whyNot_29, rX12_whyNot_32, rX12_whyNot_35, S_within, psh_some]
  by_cases h2 : 1000 ≤ v ∧ v ≤ 1999
  · rw [if_pos h2, if_neg (by decide)]
    simp only [if_pos h2] at k
    have e1 : w64 (v - 1000) = v - 1000 := w64_i (by omega) (by omega)
    have e2 : w64 ((v - 1000) / 100) = (v - 1000) / 100 := w64_i (by omega) (by omega)
    simp only [rX12_whyNot_38, rX12_whyNot_39, rX12_whyNot_40, rX12_whyNot_43, rX12_whyNot_44, rX12_whyNot_47, rX12_whyNot_48, rX12_whyNot_49, rX12_whyNot_52, rX12_whyNot_53, Md_K280 m, Md_R281 m, Md_K281 m, Md_R282 m, Md_K282 m, Md_R283 m, Md_K283 m, Md_R284 m, Md_K284 m, Md_R285 m, Md_K285 m, Md_R286 m, Md_K286 m, Md_R287 m, Md_K287 m, Md_R288 m, Md_K288 m, Md_R289 m, Md_K289 m, Md_R290 m, Md_K290 m, Md_R291 m, Md_K291 m, Md_R292 m, Md_K292 m, Md_R293 m, Md_K293 m, Md_R294 m, Md_K294 m, Md_R295 m, Md_K295 m, Md_R296 m, Md_K296 m, Md_R297 m, Md_K297 m, Md_R298 m, Md_K298 m, Md_R299 m, Md_K299 m, Int.toNat_natCast, Int.natCast_nonneg, true_and, and_true, and_self, if_true, if_false, or_true, true_or, or_false, false_or, ne_eq, not_true_eq_false, not_false_eq_true, Nat.reduceLeDiff, Nat.reduceEqDiff, Nat.reduceLT, Nat.reduceAdd, Nat.reduceMul, Nat.reduceSub, Int.reduceLT, Int.reduceLE, Int.reduceEq, Int.reduceToNat, Int.reduceAdd, Int.reduceSub, Int.reduceMul, Int.reduceNeg, Int.cast_ofNat_Int, false_and, and_false, e1, tdiv_n (a := v - 1000) (b := 100) (by omega), tmod_n (a := v) (b := 100) (by omega), e2]
    refine S_whySay x ?_
    intro h' f
    simp only [psh_some, rX12_whyNot_56]
    exact k h' f
  rw [if_neg h2] at k0
  rw [if_neg h2, if_pos (by trivial)]
  simp only [rX12_whyNot_57, rX12_whyNot_58, rX12_whyNot_61, rX12_whyNot_64, rX12_whyNot_67, S_within, psh_some]
  by_cases h3 : 2000 ≤ v ∧ v ≤ 2009
  · rw [if_pos h3] at k0
    rw [if_pos h3, if_neg (by decide)]
    have e1 : w64 (v - 2000) = v - 2000 := w64_i (by omega) (by omega)
    simp only [rX12_whyNot_70, rX12_whyNot_71, rX12_whyNot_72, rX12_whyNot_75, rX12_whyNot_76, rX12_whyNot_79, Md_K280 m, Md_R281 m, Md_K281 m, Md_R282 m, Md_K282 m, Md_R283 m, Md_K283 m, Md_R284 m, Md_K284 m, Md_R285 m, Md_K285 m, Md_R286 m, Md_K286 m, Md_R287 m, Md_K287 m, Md_R288 m, Md_K288 m, Md_R289 m, Md_K289 m, Md_R290 m, Md_K290 m, Md_R291 m, Md_K291 m, Md_R292 m, Md_K292 m, Md_R293 m, Md_K293 m, Md_R294 m, Md_K294 m, Md_R295 m, Md_K295 m, Md_R296 m, Md_K296 m, Md_R297 m, Md_K297 m, Md_R298 m, Md_K298 m, Md_R299 m, Md_K299 m, Int.toNat_natCast, Int.natCast_nonneg, true_and, and_true, and_self, if_true, if_false, or_true, true_or, or_false, false_or, ne_eq, not_true_eq_false, not_false_eq_true, Nat.reduceLeDiff, Nat.reduceEqDiff, Nat.reduceLT, Nat.reduceAdd, Nat.reduceMul, Nat.reduceSub, Int.reduceLT, Int.reduceLE, Int.reduceEq, Int.reduceToNat, Int.reduceAdd, Int.reduceSub, Int.reduceMul, Int.reduceNeg, Int.cast_ofNat_Int, false_and, and_false, e1, S_whyWipe x, psh_some]
    exact k0
  rw [if_neg h3] at k0
  rw [if_neg h3, if_pos (by trivial)]
  simp only [rX12_whyNot_80, rX12_whyNot_81, rX12_whyNot_84, rX12_whyNot_87, rX12_whyNot_90, S_within, psh_some]
  by_cases h4 : 3000 ≤ v ∧ v ≤ 3099
  · rw [if_pos h4] at k0
    rw [if_pos h4, if_neg (by decide)]
    unfold whyB at k0
    have e1 : w64 (v - 3000) = v - 3000 := w64_i (by omega) (by omega)
    have e2 : w64 ((v - 3000) / 10) = (v - 3000) / 10 := w64_i (by omega) (by omega)
    simp only [rX12_whyNot_93, rX12_whyNot_94, rX12_whyNot_95, rX12_whyNot_98, rX12_whyNot_99, rX12_whyNot_102, rX12_whyNot_103, rX12_whyNot_106, rX12_whyNot_109, rX12_whyNot_110, rX12_whyNot_113, rX12_whyNot_114, Md_K280 m, Md_R281 m, Md_K281 m, Md_R282 m, Md_K282 m, Md_R283 m, Md_K283 m, Md_R284 m, Md_K284 m, Md_R285 m, Md_K285 m, Md_R286 m, Md_K286 m, Md_R287 m, Md_K287 m, Md_R288 m, Md_K288 m, Md_R289 m, Md_K289 m, Md_R290 m, Md_K290 m, Md_R291 m, Md_K291 m, Md_R292 m, Md_K292 m, Md_R293 m, Md_K293 m, Md_R294 m, Md_K294 m, Md_R295 m, Md_K295 m, Md_R296 m, Md_K296 m, Md_R297 m, Md_K297 m, Md_R298 m, Md_K298 m, Md_R299 m, Md_K299 m, Int.toNat_natCast, Int.natCast_nonneg, true_and, and_true, and_self, if_true, if_false, or_true, true_or, or_false, false_or, ne_eq, not_true_eq_false, not_false_eq_true, Nat.reduceLeDiff, Nat.reduceEqDiff, Nat.reduceLT, Nat.reduceAdd, Nat.reduceMul, Nat.reduceSub, Int.reduceLT, Int.reduceLE, Int.reduceEq, Int.reduceToNat, Int.reduceAdd, Int.reduceSub, Int.reduceMul, Int.reduceNeg, Int.cast_ofNat_Int, false_and, and_false, e1, tdiv_n (a := v - 3000) (b := 10) (by omega), e2, S_rGoer' x, psh_some]
    by_cases h5 : 0 ≤ (v - 3000) / 10 ∧ (v - 3000) / 10 < A 2
    · rw [if_pos h5]; rw [if_pos ⟨h5, by omega, by omega⟩] at k0; rw [if_neg (by decide)]; exact k0
    · rw [if_neg h5]; rw [if_neg (fun q => h5 q.1)] at k0; rw [if_pos (by trivial)]; exact k0
  · rw [if_neg h4] at k0
    rw [if_neg h4, if_pos (by trivial)]
    simp only [rX12_whyNot_113, rX12_whyNot_114]
    exact k0
set_option maxHeartbeats 1000000 in
theorem S_does {d : Nat} {Q : Option PV → Hp → Prop} {h : Hp} {A B : Nat → Int} (x : RS h A B) {v : Int} (hw : whyD A B v = 0)
    (k : ∀ h', Fp zP h h' → RS h' A (doD A B v) → Q none h') : WP (d + 6) mX12_does 0 [some (.inr (.inr 294)), some (.inl v)] [] h Q := by
  have m := x.1
  have ok := doD_ok x.2.2.1 x.2.2.2 hw
  have g6 := x.2.2.1.2.2.2.1
  have t6 := x.2.2.1.2.1
  unfold whyD at hw
  simp only [rX12_does_0, rX12_does_1, rX12_does_3]
  by_cases h1 : 0 ≤ v ∧ v ≤ 9
  · rw [if_pos h1] at hw
    unfold whyV at hw
    have q : 0 ≤ v ∧ v < A 2 := by
      by_cases q : 0 ≤ v ∧ v < A 2
      · exact q
      · rw [if_neg q] at hw; exact absurd hw (by decide)
    have ed : doD A B v = dvB A B v.toNat := by unfold doD; rw [if_pos (by omega)]
    rw [ed] at k
    obtain ⟨n, rfl⟩ := Int.eq_ofNat_of_zero_le q.1
    rw [if_pos (by omega)]
    simp only [rX12_does_6, rX12_does_7, rX12_does_8, Md_K280 m, Md_R281 m, Md_K281 m, Md_R282 m, Md_K282 m, Md_R283 m, Md_K283 m, Md_R284 m, Md_K284 m, Md_R285 m, Md_K285 m, Md_R286 m, Md_K286 m, Md_R287 m, Md_K287 m, Md_R288 m, Md_K288 m, Md_R289 m, Md_K289 m, Md_R290 m, Md_K290 m, Md_R291 m, Md_K291 m, Md_R292 m, Md_K292 m, Md_R293 m, Md_K293 m, Md_R294 m, Md_K294 m, Md_R295 m, Md_K295 m, Md_R296 m, Md_K296 m, Md_R297 m, Md_K297 m, Md_R298 m, Md_K298 m, Md_R299 m, Md_K299 m, Int.toNat_natCast, Int.natCast_nonneg, true_and, and_true, and_self, if_true, if_false, or_true, true_or, or_false, false_or, ne_eq, not_true_eq_false, not_false_eq_true, Nat.reduceLeDiff, Nat.reduceEqDiff, Nat.reduceLT, Nat.reduceAdd, Nat.reduceMul, Nat.reduceSub, Int.reduceLT, Int.reduceLE, Int.reduceEq, Int.reduceToNat, Int.reduceAdd, Int.reduceSub, Int.reduceMul, Int.reduceNeg, Int.cast_ofNat_Int, false_and, and_false]
    refine S_rDives (d := d + 1) x (by omega) ?_
    intro h' f x' _
    simp only [psh_none, rX12_does_11, rX12_does_89]
    exact k h' f x'
  rw [if_neg h1] at hw
  by_cases h2 : 1000 ≤ v ∧ v ≤ 1999
  · rw [if_pos h2] at hw
    unfold whyS at hw
    have q : (0 ≤ (v - 1000) / 100 ∧ (v - 1000) / 100 < A 2) ∧ 0 ≤ v % 100 ∧ v % 100 ≤ 99 := by
      by_cases q : (0 ≤ (v - 1000) / 100 ∧ (v - 1000) / 100 < A 2) ∧ 0 ≤ v % 100 ∧ v % 100 ≤ 99
      · exact q
      · rw [if_neg q] at hw; exact absurd hw (by decide)
    have ed : doD A B v = syB A B ((v - 1000) / 100).toNat (v % 100) := by unfold doD; rw [if_neg (by omega), if_pos (by omega)]
    rw [ed] at k
    rw [if_neg (by omega)]
    have e1 : w32 (v - 1000) = v - 1000 := w32_i (by omega) (by omega)
    obtain ⟨n, hn⟩ := Int.eq_ofNat_of_zero_le q.1.1
    have e2 : w32 ((v - 1000) / 100) = (n : Int) := by rw [hn]; exact w32_i (by omega) (by omega)
    simp only [rX12_does_14, rX12_does_15, rX12_does_18, rX12_does_21, rX12_does_22, rX12_does_23, rX12_does_26, rX12_does_27, rX12_does_29, rX12_does_30, rX12_does_31, rX12_does_33, rX12_does_34, Md_K280 m, Md_R281 m, Md_K281 m, Md_R282 m, Md_K282 m, Md_R283 m, Md_K283 m, Md_R284 m, Md_K284 m, Md_R285 m, Md_K285 m, Md_R286 m, Md_K286 m, Md_R287 m, Md_K287 m, Md_R288 m, Md_K288 m, Md_R289 m, Md_K289 m, Md_R290 m, Md_K290 m, Md_R291 m, Md_K291 m, Md_R292 m, Md_K292 m, Md_R293 m, Md_K293 m, Md_R294 m, Md_K294 m, Md_R295 m, Md_K295 m, Md_R296 m, Md_K296 m, Md_R297 m, Md_K297 m, Md_R298 m, Md_K298 m, Md_R299 m, Md_K299 m, Int.toNat_natCast, Int.natCast_nonneg, true_and, and_true, and_self, if_true, if_false, or_true, true_or, or_false, false_or, ne_eq, not_true_eq_false, not_false_eq_true, Nat.reduceLeDiff, Nat.reduceEqDiff, Nat.reduceLT, Nat.reduceAdd, Nat.reduceMul, Nat.reduceSub, Int.reduceLT, Int.reduceLE, Int.reduceEq, Int.reduceToNat, Int.reduceAdd, Int.reduceSub, Int.reduceMul, Int.reduceNeg, Int.cast_ofNat_Int, false_and, and_false, show v < 2000 by omega, e1, tdiv_n (a := v - 1000) (b := 100) (by omega), tmod_n (a := v) (b := 100) (by omega), e2]
    rw [hn] at k
    refine S_rSays x (by omega) q.2.1 q.2.2 ?_
    intro h' f x' _
    simp only [psh_none, rX12_does_37, rX12_does_89]
    exact k h' f x'
  rw [if_neg h2] at hw
  by_cases h3 : 2000 ≤ v ∧ v ≤ 2009
  · rw [if_pos h3] at hw
    unfold whyW at hw
    have q : 0 ≤ v - 2000 ∧ v - 2000 < A 1 := by
      by_cases q : 0 ≤ v - 2000 ∧ v - 2000 < A 1
      · exact q
      · rw [if_neg q] at hw; exact absurd hw (by decide)
    have ed : doD A B v = wpB B (v - 2000).toNat := by unfold doD; rw [if_neg (by omega), if_neg (by omega), if_pos (by omega)]
    rw [ed] at k ok
    obtain ⟨n, hn⟩ := Int.eq_ofNat_of_zero_le q.1
    have e1 : w32 (v - 2000) = (n : Int) := by rw [hn]; exact w32_i (by omega) (by omega)
    have e4 : hI h 295 34 = (((B 1).toNat : Nat) : Int) := by rw [x.b (k := 1) (by omega), toN x.2.2.2.2.2.1]
    have b6 := x.2.2.2.2.2.2.1
    rw [hn] at k ok
    rw [if_neg (by omega)]
    simp only [rX12_does_14, rX12_does_15, rX12_does_18, rX12_does_40, rX12_does_41, rX12_does_44, rX12_does_47, rX12_does_48, rX12_does_51, rX12_does_53, rX12_does_54, rX12_does_55, rX12_does_56, rX12_does_57, rX12_does_60, rX12_does_61, rX12_does_62, rX12_does_63, rX12_does_64, rX12_does_65, rX12_does_66, rX12_does_89, Md_K280 m, Md_R281 m, Md_K281 m, Md_R282 m, Md_K282 m, Md_R283 m, Md_K283 m, Md_R284 m, Md_K284 m, Md_R285 m, Md_K285 m, Md_R286 m, Md_K286 m, Md_R287 m, Md_K287 m, Md_R288 m, Md_K288 m, Md_R289 m, Md_K289 m, Md_R290 m, Md_K290 m, Md_R291 m, Md_K291 m, Md_R292 m, Md_K292 m, Md_R293 m, Md_K293 m, Md_R294 m, Md_K294 m, Md_R295 m, Md_K295 m, Md_R296 m, Md_K296 m, Md_R297 m, Md_K297 m, Md_R298 m, Md_K298 m, Md_R299 m, Md_K299 m, Int.toNat_natCast, Int.natCast_nonneg, true_and, and_true, and_self, if_true, if_false, or_true, true_or, or_false, false_or, ne_eq, not_true_eq_false, not_false_eq_true, Nat.reduceLeDiff, Nat.reduceEqDiff, Nat.reduceLT, Nat.reduceAdd, Nat.reduceMul, Nat.reduceSub, Int.reduceLT, Int.reduceLE, Int.reduceEq, Int.reduceToNat, Int.reduceAdd, Int.reduceSub, Int.reduceMul, Int.reduceNeg, Int.cast_ofNat_Int, false_and, and_false, show ¬ (v < 2000) by omega, show v < 3000 by omega, e1, e4, without_n (a := (B 1).toNat) (t := n) (by omega) (by omega)]
    have fz : Fp zP h (wI h 295 34 (without (B 1).toNat (2 ^ n) : Nat)) := (Fp.refl zP h).wI (by unfold zP; omega) _
    refine k _ fz (x.put fz ok (fun j hj => ?_))
    rw [hI_wI]
    unfold wpB
    by_cases j1 : j = 1
    · rw [if_pos (by omega), if_pos j1, Int.toNat_natCast]
    · rw [if_neg (by omega), if_neg j1]; exact x.b hj
  rw [if_neg h3] at hw
  by_cases h4 : 3000 ≤ v ∧ v ≤ 3099
  · rw [if_pos h4] at hw
    unfold whyB at hw
    have q : (0 ≤ (v - 3000) / 10 ∧ (v - 3000) / 10 < A 2) ∧ 0 ≤ v % 10 ∧ v % 10 ≤ 9 := by
      by_cases q : (0 ≤ (v - 3000) / 10 ∧ (v - 3000) / 10 < A 2) ∧ 0 ≤ v % 10 ∧ v % 10 ≤ 9
      · exact q
      · rw [if_neg q] at hw; exact absurd hw (by decide)
    have ed : doD A B v = boB B ((v - 3000) / 10).toNat (v % 10) := by unfold doD; rw [if_neg (by omega), if_neg (by omega), if_neg (by omega)]
    rw [ed] at k ok
    obtain ⟨n, hn⟩ := Int.eq_ofNat_of_zero_le q.1.1
    have e1 : w32 (v - 3000) = v - 3000 := w32_i (by omega) (by omega)
    have e2 : w32 ((v - 3000) / 10) = (n : Int) := by rw [hn]; exact w32_i (by omega) (by omega)
    have e3 : w32 (41 + (n : Int)) = ((41 + n : Nat) : Int) := w32_la _ _ (by omega) (by omega)
    rw [hn] at k ok
    rw [if_neg (by omega)]
    simp only [rX12_does_14, rX12_does_15, rX12_does_18, rX12_does_40, rX12_does_41, rX12_does_44, rX12_does_69, rX12_does_70, rX12_does_73, rX12_does_75, rX12_does_76, rX12_does_79, rX12_does_80, rX12_does_82, rX12_does_83, rX12_does_84, rX12_does_85, rX12_does_87, rX12_does_88, rX12_does_89, Md_K280 m, Md_R281 m, Md_K281 m, Md_R282 m, Md_K282 m, Md_R283 m, Md_K283 m, Md_R284 m, Md_K284 m, Md_R285 m, Md_K285 m, Md_R286 m, Md_K286 m, Md_R287 m, Md_K287 m, Md_R288 m, Md_K288 m, Md_R289 m, Md_K289 m, Md_R290 m, Md_K290 m, Md_R291 m, Md_K291 m, Md_R292 m, Md_K292 m, Md_R293 m, Md_K293 m, Md_R294 m, Md_K294 m, Md_R295 m, Md_K295 m, Md_R296 m, Md_K296 m, Md_R297 m, Md_K297 m, Md_R298 m, Md_K298 m, Md_R299 m, Md_K299 m, Int.toNat_natCast, Int.natCast_nonneg, true_and, and_true, and_self, if_true, if_false, or_true, true_or, or_false, false_or, ne_eq, not_true_eq_false, not_false_eq_true, Nat.reduceLeDiff, Nat.reduceEqDiff, Nat.reduceLT, Nat.reduceAdd, Nat.reduceMul, Nat.reduceSub, Int.reduceLT, Int.reduceLE, Int.reduceEq, Int.reduceToNat, Int.reduceAdd, Int.reduceSub, Int.reduceMul, Int.reduceNeg, Int.cast_ofNat_Int, false_and, and_false, show ¬ (v < 2000) by omega, show ¬ (v < 3000) by omega, e1, tdiv_n (a := v - 3000) (b := 10) (by omega), tmod_n (a := v) (b := 10) (by omega), e2, e3]
    refine ⟨by omega, ?_⟩
    have fz : Fp zP h (wI h 295 (41 + n) (v % 10)) := (Fp.refl zP h).wI (by unfold zP; omega) _
    refine k _ fz (x.put fz ok (fun j hj => ?_))
    rw [hI_wI]
    unfold boB
    by_cases j1 : j = 8 + n
    · rw [if_pos (by omega), if_pos (by rw [Int.toNat_natCast]; exact j1)]
    · rw [if_neg (by omega), if_neg (by rw [Int.toNat_natCast]; exact j1)]; exact x.b hj
  · rw [if_neg h4] at hw; exact absurd hw (by decide)
/-! what the reference holds behind it -/
def qP (a k : Nat) : Prop := uP a k ∨ a = 295
theorem qP_r {a k : Nat} (h : qP a k) : rfP a k := by unfold qP uP at h; unfold rfP; omega
theorem RRep.a {h h' : Hp} {σ : AS} (f : Fp qP h h') (x : RRep h σ) {A' : Nat → Int} (a : AtA h' A') : RRep h' (wA σ A') := by
  obtain ⟨x1, x2, x3, x4, x5, x6, x7, x8, x9⟩ := x
  refine ⟨x1.fr f, a, fun i hi => ?_, ?_, fun k hk => ?_, ?_, ?_, fun i hi => ?_, fun k hk => ?_⟩
  · rw [f.I (by unfold qP uP; omega)]; exact x3 i hi
  · rw [f.I (by unfold qP uP; omega)]; exact x4
  · rw [f.I (by unfold qP uP; omega)]; exact x5 k hk
  · rw [f.I (by unfold qP uP; omega)]; exact x6
  · rw [f.I (by unfold qP uP; omega)]; exact x7
  · rw [f.I (by unfold qP uP; omega), f.I (by unfold qP uP; omega)]; exact x8 i hi
  · rw [f.J (by unfold qP uP; omega)]; exact x9 k hk
theorem zP_q {a k : Nat} (h : zP a k) : qP a k := by unfold zP lP at h; unfold qP uP; omega
theorem keP_q {a k : Nat} (h : keP a k) : qP a k := by unfold keP at h; unfold qP uP; omega
theorem ntP_q {a k : Nat} (h : ntP a k) : qP a k := by unfold ntP at h; unfold qP uP; omega
theorem RRep.rs {h : Hp} {σ : AS} (x : RRep h σ) (w : WF σ) : RS h (sA σ) (stA (sA σ)) := RS.of x.1 x.2.1 w.1 w.2.1
