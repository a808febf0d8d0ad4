/-! a goer that went alone: bolds, nexts -/
/-- the stand behind n dives of one goer -/
def alB (A B : Nat → Int) (g : Nat) : Nat → (Nat → Int)
  | 0 => B
  | n + 1 => dvB A (alB A B g n) g
theorem alB_ok {A B : Nat → Int} (po : poolOk A) (so : stOk B) {g : Nat} (hg : g < 6) : ∀ n, stOk (alB A B g n) := by
  intro n
  induction n with
  | zero => exact so
  | succ n ih => exact dvB_ok po ih hg
theorem alB_k {A B : Nat → Int} {g : Nat} {k : Nat} (hk : 2 ≤ k) : ∀ n, alB A B g n k = B k := by
  intro n
  induction n with
  | zero => rfl
  | succ n ih =>
    show dvB A (alB A B g n) g k = B k
    unfold dvB
    rw [if_neg (by omega), if_neg (by omega)]; exact ih
def alS (z : Nat → Int) (A B : Nat → Int) (g : Nat) (n : Nat) : Bool := (List.range n).all (fun i => sees (z i) (alB A B g (i + 1) 0))
theorem alS_T {z : Nat → Int} {A B : Nat → Int} {g n : Nat} (h : ∀ i, i < n → sees (z i) (alB A B g (i + 1) 0) = true) : alS z A B g n = true := by
  unfold alS
  rw [List.all_eq_true]
  intro j hj
  exact h j (List.mem_range.1 hj)
theorem alS_F {z : Nat → Int} {A B : Nat → Int} {g n i : Nat} (hi : i < n) (h : sees (z i) (alB A B g (i + 1) 0) = false) : alS z A B g n = false := by
  cases e : alS z A B g n with
  | false => rfl
  | true =>
    unfold alS at e
    rw [List.all_eq_true] at e
    have := e i (List.mem_range.2 hi)
    rw [h] at this
    exact this.symm
theorem boB_st {h h' : Hp} {B : Nat → Int} {g : Nat} {b : Int} (st : StIs h 217 B) (hg : g < 6) (e : h' = wI h 219 g b) : StIs h' 217 (boB B g b) := by
  subst e
  refine ⟨?_, ?_, fun q hq => ⟨?_, ?_⟩⟩
  · rw [hI_wI, if_neg (by omega), st.1]; unfold boB; rw [if_neg (by omega)]
  · rw [hI_wI, if_neg (by omega), st.2.1]; unfold boB; rw [if_neg (by omega)]
  · rw [hI_wI, if_neg (by omega), (st.2.2 q hq).1]; unfold boB; rw [if_neg (by omega)]
  · rw [hI_wI]
    unfold boB
    by_cases hqg : q = g
    · rw [if_pos ⟨rfl, hqg⟩, if_pos (by omega)]
    · rw [if_neg (fun q' => hqg q'.2), if_neg (by omega), (st.2.2 q hq).2]
theorem sees_c (z b : Int) : sees z b = true ↔ z = -1 ∨ z = b := by unfold sees; exact decide_eq_true_iff
theorem S_wentAlone {d : Nat} {Q : Option PV → Hp → Prop} {h : Hp} {A F : Nat → Int} (x : CpF h A) (st : StIs h 214 F) (so : stOk F) {g b j l : Nat} (hg : (g : Int) < A 2) (hb : b ≤ 9) (hj : j < 4) (hl : l ≤ 40) {z : Nat → Int} (sz : hI h (263 + 2 * j) 3 = (l : Int)) (nz : ∀ i, i < l → hJ h (264 + 2 * j) i = z i)
    (k : ∀ h', Fp (aPs 217) h h' → (alS z A (boB F g (b : Int)) g l = true → StIs h' 217 (alB A (boB F g (b : Int)) g l)) → Q (some (.inl (if alS z A (boB F g (b : Int)) g l = true then 1 else 0))) h') :
    WP (d + 5) mX11_wentAlone 0 [some (.inr (.inr 200)), some (.inr (.inr (263 + 2 * j))), some (.inl (g : Int)), some (.inl (b : Int)), none] [] h Q := by
  have m := x.1
  have G6 := x.2.2.2.2.2.2.1
  have g6 : g < 6 := by omega
  have g6' : (g : Int) < 6 := by omega
  have so' : stOk (boB F g (b : Int)) := boB_ok so (by omega) (by omega)
  simp only [rX11_wentAlone_0, rX11_wentAlone_1, rX11_wentAlone_4, rX11_wentAlone_5, rX11_wentAlone_8, Cs_K200 m, Cs_R200_0 m, Cs_R200_1 m, Cs_R200_2 m, Cs_R200_3 m, Cs_R200_4 m, Cs_R200_5 m, Cs_R200_6 m, Cs_K201 m, Cs_R201_0 m, Cs_R201_1 m, Cs_K202 m, Cs_K203 m, Cs_K211 m, Cs_R211_0 m, Cs_R211_1 m, Cs_K212 m, Cs_K213 m, Cs_K214 m, Cs_R214_0 m, Cs_R214_1 m, Cs_K215 m, Cs_K216 m, Cs_K217 m, Cs_R217_0 m, Cs_R217_1 m, Cs_K218 m, Cs_K219 m, Cs_K220 m, Cs_R220_0 m, Cs_K221 m, Cs_K262 m, Cs_K271 m, Cs_R271_0 m, Cs_R271_1 m, Cs_K272 m, Cs_K276 m, Cs_R272_0 m, Cs_R276_0 m, Cs_K273 m, Cs_R273_0 m, Cs_R273_1 m, Cs_K274 m, Cs_K275 m, Cs_K277 m, Cs_R277_0 m, Cs_R277_1 m, Cs_K278 m, Cs_K279 m, Cs_R262_0 m, Cs_K263 m, Cs_R263_0 m, Cs_K264 m, Cs_R262_1 m, Cs_K265 m, Cs_R265_0 m, Cs_K266 m, Cs_R262_2 m, Cs_K267 m, Cs_R267_0 m, Cs_K268 m, Cs_R262_3 m, Cs_K269 m, Cs_R269_0 m, Cs_K270 m, Int.toNat_natCast, Int.natCast_nonneg, true_and, and_true, and_self, if_true, if_false, or_true, true_or, or_false, false_or, ne_eq, not_true_eq_false, not_false_eq_true, Nat.reduceLeDiff, Nat.reduceEqDiff, Nat.reduceLT, Nat.reduceAdd, Nat.reduceMul, Nat.reduceSub, Int.reduceLT, Int.reduceLE, Int.reduceEq, Int.reduceToNat, Int.reduceAdd, Int.reduceSub, Int.reduceMul, Int.reduceNeg, Int.cast_ofNat_Int, false_and, and_false]
  refine S_become (Cs_triS m) (Cs_nowS m) (by omega) st ?_
  intro h1 f1 s1
  have m1 := m.fr f1
  simp only [psh_none, rX11_wentAlone_11, rX11_wentAlone_12, rX11_wentAlone_15, rX11_wentAlone_18, rX11_wentAlone_19, rX11_wentAlone_20, rX11_wentAlone_21, rX11_wentAlone_22, hN_wI, hN_wJ, hN_wR, hS_wI, hS_wJ, hS_wR, hK_wI, hK_wJ, hK_wR, hI_wI, hI_wJ, hI_wR, hJ_wI, hJ_wJ, hJ_wR, hR_wI, hR_wJ, hR_wR, hN_nw, hS_nw, hK_nw, hI_nw, hJ_nw, hR_nw, psh_some, psh_none, Cs_K200 m1, Cs_R200_0 m1, Cs_R200_1 m1, Cs_R200_2 m1, Cs_R200_3 m1, Cs_R200_4 m1, Cs_R200_5 m1, Cs_R200_6 m1, Cs_K201 m1, Cs_R201_0 m1, Cs_R201_1 m1, Cs_K202 m1, Cs_K203 m1, Cs_K211 m1, Cs_R211_0 m1, Cs_R211_1 m1, Cs_K212 m1, Cs_K213 m1, Cs_K214 m1, Cs_R214_0 m1, Cs_R214_1 m1, Cs_K215 m1, Cs_K216 m1, Cs_K217 m1, Cs_R217_0 m1, Cs_R217_1 m1, Cs_K218 m1, Cs_K219 m1, Cs_K220 m1, Cs_R220_0 m1, Cs_K221 m1, Cs_K262 m1, Cs_K271 m1, Cs_R271_0 m1, Cs_R271_1 m1, Cs_K272 m1, Cs_K276 m1, Cs_R272_0 m1, Cs_R276_0 m1, Cs_K273 m1, Cs_R273_0 m1, Cs_R273_1 m1, Cs_K274 m1, Cs_K275 m1, Cs_K277 m1, Cs_R277_0 m1, Cs_R277_1 m1, Cs_K278 m1, Cs_K279 m1, Cs_R262_0 m1, Cs_K263 m1, Cs_R263_0 m1, Cs_K264 m1, Cs_R262_1 m1, Cs_K265 m1, Cs_R265_0 m1, Cs_K266 m1, Cs_R262_2 m1, Cs_K267 m1, Cs_R267_0 m1, Cs_K268 m1, Cs_R262_3 m1, Cs_K269 m1, Cs_R269_0 m1, Cs_K270 m1, g6', Int.toNat_natCast, Int.natCast_nonneg, true_and, and_true, and_self, if_true, if_false, or_true, true_or, or_false, false_or, ne_eq, not_true_eq_false, not_false_eq_true, Nat.reduceLeDiff, Nat.reduceEqDiff, Nat.reduceLT, Nat.reduceAdd, Nat.reduceMul, Nat.reduceSub, Int.reduceLT, Int.reduceLE, Int.reduceEq, Int.reduceToNat, Int.reduceAdd, Int.reduceSub, Int.reduceMul, Int.reduceNeg, Int.cast_ofNat_Int, false_and, and_false]
  have s2 := boB_st (b := (b : Int)) s1 g6 rfl
  have f2 : Fp (aPs 217) h (wI h1 219 g (b : Int)) := (f1.mono (P' := aPs 217) (fun a k q => by unfold stP at q; unfold aPs; omega)).wI (by unfold aPs; omega) _
  generalize wI h1 219 g (b : Int) = h2 at s2 f2 ⊢
  have aps : ∀ a k, aPs 217 a k → stc a := fun a k q => by unfold aPs at q; unfold stc; omega
  refine wp_for (fun i e => WP (d + 5) mX11_wentAlone 24 [some (.inr (.inr 200)), some (.inr (.inr (263 + 2 * j))), some (.inl (g : Int)), some (.inl (b : Int)), some (.inl (i : Int))] [] e Q) (fun i e => Fp (aPs 217) h e ∧ StIs e 217 (alB A (boB F g (b : Int)) g i) ∧ ∀ q, q < i → sees (z q) (alB A (boB F g (b : Int)) g (q + 1) 0) = true) l ?_ ?_ 0 h2 (by omega) ⟨f2, s2, fun q hq => by omega⟩
  · rintro i e hi ⟨fe, se, ok⟩ kk
    have me := m.fr fe
    have xe := x.fr fe aps
    obtain ⟨r1, r2, r3, r4⟩ := Cs_tray me hj
    have sz' : hI e (263 + 2 * j) 3 = (l : Int) := by rw [fe.I (by unfold aPs; omega)]; exact sz
    have il : (i : Int) < (l : Int) := by omega
    have i40 : (i : Int) < 40 := by omega
    have i1 := w32_s (i := i) (by omega)
    rw [rX11_wentAlone_24]
    simp only [rX11_wentAlone_26, rX11_wentAlone_27, rX11_wentAlone_30, rX11_wentAlone_33, rX11_wentAlone_34, rX11_wentAlone_35, rX11_wentAlone_38, rX11_wentAlone_39, Cs_K200 me, Cs_R200_0 me, Cs_R200_1 me, Cs_R200_2 me, Cs_R200_3 me, Cs_R200_4 me, Cs_R200_5 me, Cs_R200_6 me, Cs_K201 me, Cs_R201_0 me, Cs_R201_1 me, Cs_K202 me, Cs_K203 me, Cs_K211 me, Cs_R211_0 me, Cs_R211_1 me, Cs_K212 me, Cs_K213 me, Cs_K214 me, Cs_R214_0 me, Cs_R214_1 me, Cs_K215 me, Cs_K216 me, Cs_K217 me, Cs_R217_0 me, Cs_R217_1 me, Cs_K218 me, Cs_K219 me, Cs_K220 me, Cs_R220_0 me, Cs_K221 me, Cs_K262 me, Cs_K271 me, Cs_R271_0 me, Cs_R271_1 me, Cs_K272 me, Cs_K276 me, Cs_R272_0 me, Cs_R276_0 me, Cs_K273 me, Cs_R273_0 me, Cs_R273_1 me, Cs_K274 me, Cs_K275 me, Cs_K277 me, Cs_R277_0 me, Cs_R277_1 me, Cs_K278 me, Cs_K279 me, Cs_R262_0 me, Cs_K263 me, Cs_R263_0 me, Cs_K264 me, Cs_R262_1 me, Cs_K265 me, Cs_R265_0 me, Cs_K266 me, Cs_R262_2 me, Cs_K267 me, Cs_R267_0 me, Cs_K268 me, Cs_R262_3 me, Cs_K269 me, Cs_R269_0 me, Cs_K270 me, r2, sz', il, Int.toNat_natCast, Int.natCast_nonneg, true_and, and_true, and_self, if_true, if_false, or_true, true_or, or_false, false_or, ne_eq, not_true_eq_false, not_false_eq_true, Nat.reduceLeDiff, Nat.reduceEqDiff, Nat.reduceLT, Nat.reduceAdd, Nat.reduceMul, Nat.reduceSub, Int.reduceLT, Int.reduceLE, Int.reduceEq, Int.reduceToNat, Int.reduceAdd, Int.reduceSub, Int.reduceMul, Int.reduceNeg, Int.cast_ofNat_Int, false_and, and_false]
    refine S_actDive xe (Or.inr rfl) se (alB_ok x.2.2.2 so' g6 i) ?_
    have wv : whyV A (g : Int) = 0 := if_pos ⟨by omega, hg⟩
    rw [wv]
    intro e2 fe2 se2 _
    rw [if_pos rfl, Int.toNat_natCast] at se2
    have fe3 := fe.trans fe2
    have me2 := m.fr fe3
    obtain ⟨R1, R2, R3, R4⟩ := Cs_tray me2 hj
    have zi : hJ e2 (264 + 2 * j) i = z i := by rw [fe3.J (by unfold aPs; omega)]; exact nz i hi
    have bd : hI e2 217 2 = alB A (boB F g (b : Int)) g (i + 1) 0 := se2.1
    simp only [psh_some, rX11_wentAlone_42, rX11_wentAlone_43, rX11_wentAlone_44, rX11_wentAlone_47, rX11_wentAlone_49, rX11_wentAlone_50, rX11_wentAlone_53, rX11_wentAlone_54, R2, R3, R4, i40, zi, lcm_zero, Int.toNat_natCast, Int.natCast_nonneg, true_and, and_true, and_self, if_true, if_false, or_true, true_or, or_false, false_or, ne_eq, not_true_eq_false, not_false_eq_true, Nat.reduceLeDiff, Nat.reduceEqDiff, Nat.reduceLT, Nat.reduceAdd, Nat.reduceMul, Nat.reduceSub, Int.reduceLT, Int.reduceLE, Int.reduceEq, Int.reduceToNat, Int.reduceAdd, Int.reduceSub, Int.reduceMul, Int.reduceNeg, Int.cast_ofNat_Int, false_and, and_false]
    by_cases h1 : z i = -1
    · rw [if_pos h1]
      simp only [rX11_wentAlone_78, rX11_wentAlone_81, i1]
      refine kk e2 ⟨fe3, se2, fun q hq => ?_⟩
      by_cases hqi : q = i
      · rw [hqi]; exact (sees_c _ _).2 (Or.inl h1)
      · exact ok q (lt_one hq hqi)
    · rw [if_neg h1]
      simp only [rX11_wentAlone_57, rX11_wentAlone_58, rX11_wentAlone_61, rX11_wentAlone_63, rX11_wentAlone_64, rX11_wentAlone_65, rX11_wentAlone_68, rX11_wentAlone_71, rX11_wentAlone_72, rX11_wentAlone_73, Cs_K200 me2, Cs_R200_0 me2, Cs_R200_1 me2, Cs_R200_2 me2, Cs_R200_3 me2, Cs_R200_4 me2, Cs_R200_5 me2, Cs_R200_6 me2, Cs_K201 me2, Cs_R201_0 me2, Cs_R201_1 me2, Cs_K202 me2, Cs_K203 me2, Cs_K211 me2, Cs_R211_0 me2, Cs_R211_1 me2, Cs_K212 me2, Cs_K213 me2, Cs_K214 me2, Cs_R214_0 me2, Cs_R214_1 me2, Cs_K215 me2, Cs_K216 me2, Cs_K217 me2, Cs_R217_0 me2, Cs_R217_1 me2, Cs_K218 me2, Cs_K219 me2, Cs_K220 me2, Cs_R220_0 me2, Cs_K221 me2, Cs_K262 me2, Cs_K271 me2, Cs_R271_0 me2, Cs_R271_1 me2, Cs_K272 me2, Cs_K276 me2, Cs_R272_0 me2, Cs_R276_0 me2, Cs_K273 me2, Cs_R273_0 me2, Cs_R273_1 me2, Cs_K274 me2, Cs_K275 me2, Cs_K277 me2, Cs_R277_0 me2, Cs_R277_1 me2, Cs_K278 me2, Cs_K279 me2, Cs_R262_0 me2, Cs_K263 me2, Cs_R263_0 me2, Cs_K264 me2, Cs_R262_1 me2, Cs_K265 me2, Cs_R265_0 me2, Cs_K266 me2, Cs_R262_2 me2, Cs_K267 me2, Cs_R267_0 me2, Cs_K268 me2, Cs_R262_3 me2, Cs_K269 me2, Cs_R269_0 me2, Cs_K270 me2, R2, R3, R4, i40, zi, bd, lcm_zero, Int.toNat_natCast, Int.natCast_nonneg, true_and, and_true, and_self, if_true, if_false, or_true, true_or, or_false, false_or, ne_eq, not_true_eq_false, not_false_eq_true, Nat.reduceLeDiff, Nat.reduceEqDiff, Nat.reduceLT, Nat.reduceAdd, Nat.reduceMul, Nat.reduceSub, Int.reduceLT, Int.reduceLE, Int.reduceEq, Int.reduceToNat, Int.reduceAdd, Int.reduceSub, Int.reduceMul, Int.reduceNeg, Int.cast_ofNat_Int, false_and, and_false]
      by_cases h2 : z i = alB A (boB F g (b : Int)) g (i + 1) 0
      · rw [if_pos h2]
        simp only [rX11_wentAlone_78, rX11_wentAlone_81, i1]
        refine kk e2 ⟨fe3, se2, fun q hq => ?_⟩
        by_cases hqi : q = i
        · rw [hqi]; exact (sees_c _ _).2 (Or.inr h2)
        · exact ok q (lt_one hq hqi)
      · rw [if_neg h2]
        simp only [rX11_wentAlone_76, rX11_wentAlone_77, Int.toNat_natCast, Int.natCast_nonneg, true_and, and_true, and_self, if_true, if_false, or_true, true_or, or_false, false_or, ne_eq, not_true_eq_false, not_false_eq_true, Nat.reduceLeDiff, Nat.reduceEqDiff, Nat.reduceLT, Nat.reduceAdd, Nat.reduceMul, Nat.reduceSub, Int.reduceLT, Int.reduceLE, Int.reduceEq, Int.reduceToNat, Int.reduceAdd, Int.reduceSub, Int.reduceMul, Int.reduceNeg, Int.cast_ofNat_Int, false_and, and_false]
        have sf : sees (z i) (alB A (boB F g (b : Int)) g (i + 1) 0) = false := by unfold sees; exact decide_eq_false (fun q => q.elim h1 h2)
        have k0 := k e2 fe3
        rw [alS_F hi sf] at k0
        exact k0 (fun q => absurd q (by decide))
  · rintro e ⟨fe, se, ok⟩
    have me := m.fr fe
    obtain ⟨r1, r2, r3, r4⟩ := Cs_tray me hj
    have sz' : hI e (263 + 2 * j) 3 = (l : Int) := by rw [fe.I (by unfold aPs; omega)]; exact sz
    rw [rX11_wentAlone_24]
    simp only [rX11_wentAlone_26, rX11_wentAlone_27, rX11_wentAlone_30, rX11_wentAlone_84, rX11_wentAlone_85, r2, sz', Int.lt_irrefl, Int.toNat_natCast, Int.natCast_nonneg, true_and, and_true, and_self, if_true, if_false, or_true, true_or, or_false, false_or, ne_eq, not_true_eq_false, not_false_eq_true, Nat.reduceLeDiff, Nat.reduceEqDiff, Nat.reduceLT, Nat.reduceAdd, Nat.reduceMul, Nat.reduceSub, Int.reduceLT, Int.reduceLE, Int.reduceEq, Int.reduceToNat, Int.reduceAdd, Int.reduceSub, Int.reduceMul, Int.reduceNeg, Int.cast_ofNat_Int, false_and, and_false]
    have k0 := k e fe
    rw [alS_T ok] at k0
    exact k0 (fun _ => se)
theorem b_10 {b : Nat} (h : b < 10) : ¬ ((9 : Int) < (b : Int)) ∧ b ≤ 9 ∧ w32 ((b : Int) + 1) = ((b + 1 : Nat) : Int) ∧ b < 31 ∧ b ≤ 20 := ⟨by omega, by omega, w32_s (by omega), by omega, by omega⟩
theorem l_12 {l : Nat} (h : l ≤ 12) : l ≤ 40 := by omega
theorem t_20 {n : Nat} (h : n < 1048576) : n < 2147483648 := by omega
theorem q_6 {q : Nat} {z : Int} (h : (q : Int) < z) (h6 : z ≤ 6) : q < 6 := by omega
theorem p_99 {z : Int} {p : Nat} (h : z = (p : Int)) (h9 : z ≤ 99) : p < 100 ∧ (p : Int) < 100 := by omega
theorem n_eq {k p : Nat} : decide ((k : Int) = (p : Int)) = decide (k = p) := by
  by_cases h : k = p
  · rw [decide_eq_true h, decide_eq_true (by omega)]
  · rw [decide_eq_false h, decide_eq_false (by omega)]
/-- all that fit -/
def fitS (f : Nat → Bool) : Nat → Nat
  | 0 => 0
  | n + 1 => if f n = true then fitS f n ||| 2 ^ n else fitS f n
theorem fitS_lt (f : Nat → Bool) : ∀ n, n ≤ 20 → fitS f n < 1048576 := by
  intro n
  induction n with
  | zero => intro _; exact (by decide : 0 < 1048576)
  | succ n ih =>
    intro hn
    have := ih (by omega)
    unfold fitS
    split
    · exact Nat.or_lt_two_pow (n := 20) this (Nat.pow_lt_pow_right (a := 2) (by decide) (by omega))
    · exact this
/-- the numbers of a tray -/
def trZ (σ : AS) (t : Nat) : Nat → Int := fun i => sB σ (40 * t + i)
def bdF (σ : AS) (t g : Nat) : Nat → Bool := fun b => alS (trZ σ t) (sA σ) (boB (stA (sA σ)) g (b : Int)) g (sM σ t).toNat
def bdV (σ : AS) (t g : Int) : Int := if alV σ t g = 0 then (fitS (bdF σ t.toNat g.toNat) 10 : Int) else alV σ t g
theorem alV_0 {σ : AS} {t g : Int} (h : alV σ t g = 0) : ∃ j q l : Nat, t = (j : Int) ∧ g = (q : Int) ∧ j < 4 ∧ (q : Int) < sA σ 2 ∧ sSo σ j ≠ -1 ∧ sM σ j = (l : Int) ∧ 1 ≤ l ∧ l ≤ 12 ∧ ∀ i, i < l → -1 ≤ sB σ (40 * j + i) ∧ sB σ (40 * j + i) ≤ 99 := by
  unfold alV at h
  by_cases h1 : 0 ≤ g ∧ g < sA σ 2
  · rw [if_pos h1] at h
    unfold poV at h
    by_cases h2 : 0 ≤ t ∧ t < 4
    · rw [if_pos h2] at h
      by_cases h3 : sSo σ t.toNat = -1
      · rw [if_pos h3] at h; exact absurd h (by decide)
      · rw [if_neg h3] at h
        by_cases h4 : 1 ≤ sM σ t.toNat ∧ sM σ t.toNat ≤ 12
        · rw [if_pos h4] at h
          by_cases h5 : poB (sB σ) t.toNat (sM σ t.toNat).toNat = true
          · refine ⟨t.toNat, g.toNat, (sM σ t.toNat).toNat, by omega, by omega, by omega, by omega, h3, by omega, by omega, by omega, fun i hi => ?_⟩
            unfold poB at h5
            rw [List.all_eq_true] at h5
            exact of_decide_eq_true (h5 i (List.mem_range.2 hi))
          · rw [if_neg h5] at h; exact absurd h (by decide)
        · rw [if_neg h4] at h; exact absurd h (by decide)
    · rw [if_neg h2] at h; exact absurd h (by decide)
  · rw [if_neg h1] at h; exact absurd h (by decide)
theorem C_bolds {d : Nat} {σ : AS} {t g : Int} : CSpec (d + 6) mX11_bolds [some (.inr (.inr 200)), some (.inl t), some (.inl g), none, none, none] σ (.inl (bdV σ t g)) σ := by
  intro h Q x w k
  have m := x.1.1
  unfold bdV at k
  simp only [rX11_bolds_0, rX11_bolds_1, rX11_bolds_2, rX11_bolds_3, Cs_K200 m, Cs_R200_0 m, Cs_R200_1 m, Cs_R200_2 m, Cs_R200_3 m, Cs_R200_4 m, Cs_R200_5 m, Cs_R200_6 m, Cs_K201 m, Cs_R201_0 m, Cs_R201_1 m, Cs_K202 m, Cs_K203 m, Cs_K211 m, Cs_R211_0 m, Cs_R211_1 m, Cs_K212 m, Cs_K213 m, Cs_K214 m, Cs_R214_0 m, Cs_R214_1 m, Cs_K215 m, Cs_K216 m, Cs_K217 m, Cs_R217_0 m, Cs_R217_1 m, Cs_K218 m, Cs_K219 m, Cs_K220 m, Cs_R220_0 m, Cs_K221 m, Cs_K262 m, Cs_K271 m, Cs_R271_0 m, Cs_R271_1 m, Cs_K272 m, Cs_K276 m, Cs_R272_0 m, Cs_R276_0 m, Cs_K273 m, Cs_R273_0 m, Cs_R273_1 m, Cs_K274 m, Cs_K275 m, Cs_K277 m, Cs_R277_0 m, Cs_R277_1 m, Cs_K278 m, Cs_K279 m, Cs_R262_0 m, Cs_K263 m, Cs_R263_0 m, Cs_K264 m, Cs_R262_1 m, Cs_K265 m, Cs_R265_0 m, Cs_K266 m, Cs_R262_2 m, Cs_K267 m, Cs_R267_0 m, Cs_K268 m, Cs_R262_3 m, Cs_K269 m, Cs_R269_0 m, Cs_K270 m, Int.toNat_natCast, Int.natCast_nonneg, true_and, and_true, and_self, if_true, if_false, or_true, true_or, or_false, false_or, ne_eq, not_true_eq_false, not_false_eq_true, Nat.reduceLeDiff, Nat.reduceEqDiff, Nat.reduceLT, Nat.reduceAdd, Nat.reduceMul, Nat.reduceSub, Int.reduceLT, Int.reduceLE, Int.reduceEq, Int.reduceToNat, Int.reduceAdd, Int.reduceSub, Int.reduceMul, Int.reduceNeg, Int.cast_ofNat_Int, false_and, and_false]
  refine S_cAlone (d := d + 3) x w ?_
  simp only [psh_some, rX11_bolds_6, rX11_bolds_7, rX11_bolds_8]
  by_cases h0 : alV σ t g = 0
  · rw [if_pos h0] at k ⊢
    obtain ⟨j, q, l, rfl, rfl, j4, qG, ns, el, l1, l12, zz⟩ := alV_0 h0
    simp only [Int.toNat_natCast] at k
    have j4' : (j : Int) < 4 := by omega
    simp only [h0, rX11_bolds_13, rX11_bolds_14, rX11_bolds_16, rX11_bolds_17]
    have bf : ∀ b, bdF σ j q b = alS (trZ σ j) (sA σ) (boB (stA (sA σ)) q (b : Int)) q l := fun b => by unfold bdF; rw [el]; rfl
    refine wp_for (fun b e => WP (d + 6) mX11_bolds 19 [some (.inr (.inr 200)), some (.inl (j : Int)), some (.inl (q : Int)), some (.inl 0), some (.inl (fitS (bdF σ j q) b : Int)), some (.inl (b : Int))] [] e Q) (fun b e => CRep e σ ∧ Fp (aPs 217) h e) 10 ?_ ?_ 0 h (by omega) ⟨x, Fp.refl _ h⟩
    · rintro b e hb ⟨xe, fe⟩ kk
      have me := xe.1.1
      obtain ⟨r1, r2, r3, r4⟩ := Cs_tray me j4
      obtain ⟨y1, y2⟩ := xe.1.2.2.2.2.2.1 j j4
      obtain ⟨z1, z2, z3⟩ := y2 ns
      rw [el] at z2 z3
      obtain ⟨b9, bb9, i1, b31, b20⟩ := b_10 hb
      rw [rX11_bolds_19]
      simp only [rX11_bolds_21, rX11_bolds_23, rX11_bolds_26, rX11_bolds_27, rX11_bolds_28, rX11_bolds_31, rX11_bolds_32, rX11_bolds_33, rX11_bolds_34, rX11_bolds_36, Cs_K200 me, Cs_R200_0 me, Cs_R200_1 me, Cs_R200_2 me, Cs_R200_3 me, Cs_R200_4 me, Cs_R200_5 me, Cs_R200_6 me, Cs_K201 me, Cs_R201_0 me, Cs_R201_1 me, Cs_K202 me, Cs_K203 me, Cs_K211 me, Cs_R211_0 me, Cs_R211_1 me, Cs_K212 me, Cs_K213 me, Cs_K214 me, Cs_R214_0 me, Cs_R214_1 me, Cs_K215 me, Cs_K216 me, Cs_K217 me, Cs_R217_0 me, Cs_R217_1 me, Cs_K218 me, Cs_K219 me, Cs_K220 me, Cs_R220_0 me, Cs_K221 me, Cs_K262 me, Cs_K271 me, Cs_R271_0 me, Cs_R271_1 me, Cs_K272 me, Cs_K276 me, Cs_R272_0 me, Cs_R276_0 me, Cs_K273 me, Cs_R273_0 me, Cs_R273_1 me, Cs_K274 me, Cs_K275 me, Cs_K277 me, Cs_R277_0 me, Cs_R277_1 me, Cs_K278 me, Cs_K279 me, Cs_R262_0 me, Cs_K263 me, Cs_R263_0 me, Cs_K264 me, Cs_R262_1 me, Cs_K265 me, Cs_R265_0 me, Cs_K266 me, Cs_R262_2 me, Cs_K267 me, Cs_R267_0 me, Cs_K268 me, Cs_R262_3 me, Cs_K269 me, Cs_R269_0 me, Cs_K270 me, j4', r1, b9, Int.toNat_natCast, Int.natCast_nonneg, true_and, and_true, and_self, if_true, if_false, or_true, true_or, or_false, false_or, ne_eq, not_true_eq_false, not_false_eq_true, Nat.reduceLeDiff, Nat.reduceEqDiff, Nat.reduceLT, Nat.reduceAdd, Nat.reduceMul, Nat.reduceSub, Int.reduceLT, Int.reduceLE, Int.reduceEq, Int.reduceToNat, Int.reduceAdd, Int.reduceSub, Int.reduceMul, Int.reduceNeg, Int.cast_ofNat_Int, false_and, and_false]
      refine S_wentAlone (d := d) (z := trZ σ j) (xe.cp w) xe.1.2.2.2.1 w.2.1 qG bb9 j4 (l_12 l12) z2 z3 ?_
      intro e2 fe2 _
      have xe2 := xe.dv fe2 (fun a k q => by unfold aPs at q; unfold scr; omega)
      have fe3 := fe.trans fe2
      rw [← bf b]
      simp only [psh_some, rX11_bolds_39]
      have go := kk e2 ⟨xe2, fe3⟩
      have fl := fitS_lt (bdF σ j q) b b20
      by_cases hf : bdF σ j q b = true
      · rw [if_pos hf, if_neg (by decide)]
        simp only [rX11_bolds_42, rX11_bolds_44, rX11_bolds_45, rX11_bolds_47, rX11_bolds_48, rX11_bolds_49, rX11_bolds_51, rX11_bolds_54, orb_n (a := fitS (bdF σ j q) b) (i := b) (t_20 fl) b31, i1]
        have e3 : fitS (bdF σ j q) (b + 1) = fitS (bdF σ j q) b ||| 2 ^ b := if_pos hf
        rw [e3] at go
        exact go
      · rw [if_neg hf, if_pos (by trivial)]
        simp only [rX11_bolds_51, rX11_bolds_54, i1]
        have e3 : fitS (bdF σ j q) (b + 1) = fitS (bdF σ j q) b := if_neg hf
        rw [e3] at go
        exact go
    · rintro e ⟨xe, fe⟩
      rw [rX11_bolds_19]
      simp only [rX11_bolds_21, rX11_bolds_23, rX11_bolds_57, rX11_bolds_59, Int.toNat_natCast, Int.natCast_nonneg, true_and, and_true, and_self, if_true, if_false, or_true, true_or, or_false, false_or, ne_eq, not_true_eq_false, not_false_eq_true, Nat.reduceLeDiff, Nat.reduceEqDiff, Nat.reduceLT, Nat.reduceAdd, Nat.reduceMul, Nat.reduceSub, Int.reduceLT, Int.reduceLE, Int.reduceEq, Int.reduceToNat, Int.reduceAdd, Int.reduceSub, Int.reduceMul, Int.reduceNeg, Int.cast_ofNat_Int, false_and, and_false]
      exact k e xe (Cfr.of fe (fun a k q => by unfold aPs at q; unfold cfP; omega))
  · rw [if_neg h0] at k ⊢
    simp only [rX11_bolds_11, rX11_bolds_12]
    exact k h x (Cfr.refl h)
def bpF (σ : AS) (t g : Nat) : Nat → Int := fun b => bP (sA σ) (alB (sA σ) (boB (stA (sA σ)) g (b : Int)) g (sM σ t).toNat) g
def npB (f : Nat → Bool) (p : Nat → Int) : Nat → Nat → Bool
  | 0, _ => false
  | n + 1, k => npB f p n k || (f n && decide ((k : Int) = p n))
def nxV (σ : AS) (t g : Int) : Int := if alV σ t g = 0 then (cntB (npB (bdF σ t.toNat g.toNat) (bpF σ t.toNat g.toNat) 10) 100 : Int) else alV σ t g
set_option maxHeartbeats 1000000 in
theorem C_nexts {d : Nat} {σ : AS} {t g : Int} : CSpec (d + 6) mX11_nexts [some (.inr (.inr 200)), some (.inl t), some (.inl g), none, none, none] σ (.inl (nxV σ t g)) σ := by
  intro h Q x w k
  have m := x.1.1
  unfold nxV at k
  simp only [rX11_nexts_0, rX11_nexts_1, rX11_nexts_2, rX11_nexts_3, Cs_K200 m, Cs_R200_0 m, Cs_R200_1 m, Cs_R200_2 m, Cs_R200_3 m, Cs_R200_4 m, Cs_R200_5 m, Cs_R200_6 m, Cs_K201 m, Cs_R201_0 m, Cs_R201_1 m, Cs_K202 m, Cs_K203 m, Cs_K211 m, Cs_R211_0 m, Cs_R211_1 m, Cs_K212 m, Cs_K213 m, Cs_K214 m, Cs_R214_0 m, Cs_R214_1 m, Cs_K215 m, Cs_K216 m, Cs_K217 m, Cs_R217_0 m, Cs_R217_1 m, Cs_K218 m, Cs_K219 m, Cs_K220 m, Cs_R220_0 m, Cs_K221 m, Cs_K262 m, Cs_K271 m, Cs_R271_0 m, Cs_R271_1 m, Cs_K272 m, Cs_K276 m, Cs_R272_0 m, Cs_R276_0 m, Cs_K273 m, Cs_R273_0 m, Cs_R273_1 m, Cs_K274 m, Cs_K275 m, Cs_K277 m, Cs_R277_0 m, Cs_R277_1 m, Cs_K278 m, Cs_K279 m, Cs_R262_0 m, Cs_K263 m, Cs_R263_0 m, Cs_K264 m, Cs_R262_1 m, Cs_K265 m, Cs_R265_0 m, Cs_K266 m, Cs_R262_2 m, Cs_K267 m, Cs_R267_0 m, Cs_K268 m, Cs_R262_3 m, Cs_K269 m, Cs_R269_0 m, Cs_K270 m, Int.toNat_natCast, Int.natCast_nonneg, true_and, and_true, and_self, if_true, if_false, or_true, true_or, or_false, false_or, ne_eq, not_true_eq_false, not_false_eq_true, Nat.reduceLeDiff, Nat.reduceEqDiff, Nat.reduceLT, Nat.reduceAdd, Nat.reduceMul, Nat.reduceSub, Int.reduceLT, Int.reduceLE, Int.reduceEq, Int.reduceToNat, Int.reduceAdd, Int.reduceSub, Int.reduceMul, Int.reduceNeg, Int.cast_ofNat_Int, false_and, and_false]
  refine S_cAlone (d := d + 3) x w ?_
  simp only [psh_some, rX11_nexts_6, rX11_nexts_7, rX11_nexts_8]
  by_cases h0 : alV σ t g = 0
  · rw [if_pos h0] at k ⊢
    obtain ⟨j, q, l, rfl, rfl, j4, qG, ns, el, l1, l12, zz⟩ := alV_0 h0
    simp only [Int.toNat_natCast] at k
    have j4' : (j : Int) < 4 := by omega
    have n0 := x.1.2.1
    have a2 : 200 ≤ 200 + hN h := by omega
    have q6 : q < 6 := q_6 qG w.1.2.2.2.1
    have x1 := x.nw 3 0 2
    have f1 := (Fa.refl (fun a => (211 ≤ a ∧ a ≤ 213) ∨ (217 ≤ a ∧ a ≤ 219)) h).nw 3 0 2
    have ns1 := NsOk.new h
    simp only [h0, rX11_nexts_13, rX11_nexts_16, rX11_nexts_17, rX3_init_0, rX3_init_1, rX3_init_4, psh_none, a2, Int.toNat_natCast, Int.natCast_nonneg, true_and, and_true, and_self, if_true, if_false, or_true, true_or, or_false, false_or, ne_eq, not_true_eq_false, not_false_eq_true, Nat.reduceLeDiff, Nat.reduceEqDiff, Nat.reduceLT, Nat.reduceAdd, Nat.reduceMul, Nat.reduceSub, Int.reduceLT, Int.reduceLE, Int.reduceEq, Int.reduceToNat, Int.reduceAdd, Int.reduceSub, Int.reduceMul, Int.reduceNeg, Int.cast_ofNat_Int, false_and, and_false]
    simp only [rX11_nexts_20, rX11_nexts_22, rX11_nexts_23]
    have bf : ∀ b, bdF σ j q b = alS (trZ σ j) (sA σ) (boB (stA (sA σ)) q (b : Int)) q l := fun b => by unfold bdF; rw [el]; rfl
    have pf : ∀ b, bpF σ j q b = bP (sA σ) (alB (sA σ) (boB (stA (sA σ)) q (b : Int)) q l) q := fun b => by unfold bpF; rw [el]; rfl
    refine wp_for (fun b e => WP (d + 6) mX11_nexts 25 [some (.inr (.inr 200)), some (.inl (j : Int)), some (.inl (q : Int)), some (.inl 0), some (.inr (.inr (200 + hN h))), some (.inl (b : Int))] [] e Q) (fun b e => CRep e σ ∧ Fa (fun a => (211 ≤ a ∧ a ≤ 213) ∨ (217 ≤ a ∧ a ≤ 219)) h e ∧ hN e = hN h + 1 ∧ hS e = hS h + 2 ∧ NsOk e (200 + hN h) (npB (bdF σ j q) (bpF σ j q) b)) 10 ?_ ?_ 0 (nw h 3 0 2) (by omega) ⟨x1, f1, hN_nw _ _ _ _, hS_nw _ _ _ _, ns1⟩
    · rintro b e hb ⟨xe, fe, eN, eS, nse⟩ kk
      have me := xe.1.1
      obtain ⟨r1, r2, r3, r4⟩ := Cs_tray me j4
      obtain ⟨y1, y2⟩ := xe.1.2.2.2.2.2.1 j j4
      obtain ⟨z1, z2, z3⟩ := y2 ns
      rw [el] at z2 z3
      obtain ⟨b9, bb9, i1, b31, b20⟩ := b_10 hb
      rw [rX11_nexts_25]
      simp only [rX11_nexts_27, rX11_nexts_29, rX11_nexts_32, rX11_nexts_33, rX11_nexts_34, rX11_nexts_37, rX11_nexts_38, rX11_nexts_39, rX11_nexts_40, rX11_nexts_42, Cs_K200 me, Cs_R200_0 me, Cs_R200_1 me, Cs_R200_2 me, Cs_R200_3 me, Cs_R200_4 me, Cs_R200_5 me, Cs_R200_6 me, Cs_K201 me, Cs_R201_0 me, Cs_R201_1 me, Cs_K202 me, Cs_K203 me, Cs_K211 me, Cs_R211_0 me, Cs_R211_1 me, Cs_K212 me, Cs_K213 me, Cs_K214 me, Cs_R214_0 me, Cs_R214_1 me, Cs_K215 me, Cs_K216 me, Cs_K217 me, Cs_R217_0 me, Cs_R217_1 me, Cs_K218 me, Cs_K219 me, Cs_K220 me, Cs_R220_0 me, Cs_K221 me, Cs_K262 me, Cs_K271 me, Cs_R271_0 me, Cs_R271_1 me, Cs_K272 me, Cs_K276 me, Cs_R272_0 me, Cs_R276_0 me, Cs_K273 me, Cs_R273_0 me, Cs_R273_1 me, Cs_K274 me, Cs_K275 me, Cs_K277 me, Cs_R277_0 me, Cs_R277_1 me, Cs_K278 me, Cs_K279 me, Cs_R262_0 me, Cs_K263 me, Cs_R263_0 me, Cs_K264 me, Cs_R262_1 me, Cs_K265 me, Cs_R265_0 me, Cs_K266 me, Cs_R262_2 me, Cs_K267 me, Cs_R267_0 me, Cs_K268 me, Cs_R262_3 me, Cs_K269 me, Cs_R269_0 me, Cs_K270 me, j4', r1, b9, Int.toNat_natCast, Int.natCast_nonneg, true_and, and_true, and_self, if_true, if_false, or_true, true_or, or_false, false_or, ne_eq, not_true_eq_false, not_false_eq_true, Nat.reduceLeDiff, Nat.reduceEqDiff, Nat.reduceLT, Nat.reduceAdd, Nat.reduceMul, Nat.reduceSub, Int.reduceLT, Int.reduceLE, Int.reduceEq, Int.reduceToNat, Int.reduceAdd, Int.reduceSub, Int.reduceMul, Int.reduceNeg, Int.cast_ofNat_Int, false_and, and_false]
      refine S_wentAlone (d := d) (z := trZ σ j) (xe.cp w) xe.1.2.2.2.1 w.2.1 qG bb9 j4 (l_12 l12) z2 z3 ?_
      intro e2 fe2 sa
      have xe2 := xe.dv fe2 (fun a k q => by unfold aPs at q; unfold scr; omega)
      have fe3 := fe.trans (fe2.fa (S := fun a => (211 ≤ a ∧ a ≤ 213) ∨ (217 ≤ a ∧ a ≤ 219)) (fun a k q => by unfold aPs at q; omega))
      have ns2 := nse.fr fe2 (fun k => by unfold aPs; omega)
      rw [← bf b] at sa ⊢
      simp only [psh_some, rX11_nexts_45]
      by_cases hf : bdF σ j q b = true
      · rw [if_pos hf, if_neg (by decide)]
        have st2 := sa hf
        have so2 := alB_ok w.1 (boB_ok (g := q) (n := (b : Int)) w.2.1 (Int.natCast_nonneg _) (Int.not_lt.1 b9)) q6 l
        have m2 := xe2.1.1
        simp only [rX11_nexts_48, rX11_nexts_49, rX11_nexts_52, rX11_nexts_53, rX11_nexts_56, rX11_nexts_57, rX11_nexts_60, rX11_nexts_61, rX11_nexts_62, rX11_nexts_65, rX11_nexts_68, rX11_nexts_69, rX11_nexts_72, rX11_nexts_75, Cs_K200 m2, Cs_R200_0 m2, Cs_R200_1 m2, Cs_R200_2 m2, Cs_R200_3 m2, Cs_R200_4 m2, Cs_R200_5 m2, Cs_R200_6 m2, Cs_K201 m2, Cs_R201_0 m2, Cs_R201_1 m2, Cs_K202 m2, Cs_K203 m2, Cs_K211 m2, Cs_R211_0 m2, Cs_R211_1 m2, Cs_K212 m2, Cs_K213 m2, Cs_K214 m2, Cs_R214_0 m2, Cs_R214_1 m2, Cs_K215 m2, Cs_K216 m2, Cs_K217 m2, Cs_R217_0 m2, Cs_R217_1 m2, Cs_K218 m2, Cs_K219 m2, Cs_K220 m2, Cs_R220_0 m2, Cs_K221 m2, Cs_K262 m2, Cs_K271 m2, Cs_R271_0 m2, Cs_R271_1 m2, Cs_K272 m2, Cs_K276 m2, Cs_R272_0 m2, Cs_R276_0 m2, Cs_K273 m2, Cs_R273_0 m2, Cs_R273_1 m2, Cs_K274 m2, Cs_K275 m2, Cs_K277 m2, Cs_R277_0 m2, Cs_R277_1 m2, Cs_K278 m2, Cs_K279 m2, Cs_R262_0 m2, Cs_K263 m2, Cs_R263_0 m2, Cs_K264 m2, Cs_R262_1 m2, Cs_K265 m2, Cs_R265_0 m2, Cs_K266 m2, Cs_R262_2 m2, Cs_K267 m2, Cs_R267_0 m2, Cs_K268 m2, Cs_R262_3 m2, Cs_K269 m2, Cs_R269_0 m2, Cs_K270 m2, Int.toNat_natCast, Int.natCast_nonneg, true_and, and_true, and_self, if_true, if_false, or_true, true_or, or_false, false_or, ne_eq, not_true_eq_false, not_false_eq_true, Nat.reduceLeDiff, Nat.reduceEqDiff, Nat.reduceLT, Nat.reduceAdd, Nat.reduceMul, Nat.reduceSub, Int.reduceLT, Int.reduceLE, Int.reduceEq, Int.reduceToNat, Int.reduceAdd, Int.reduceSub, Int.reduceMul, Int.reduceNeg, Int.cast_ofNat_Int, false_and, and_false]
        refine S_lookAt (d := d + 2) (xe2.cp w) (Or.inr rfl) st2 so2 q6 ?_
        intro e3 fe4 _ _ p3
        rw [← pf b] at p3
        have fe5 := fe3.trans (fe4.fa (S := fun a => (211 ≤ a ∧ a ≤ 213) ∨ (217 ≤ a ∧ a ≤ 219)) (fun a k q => by unfold vP at q; omega))
        have xe3 := xe2.dv fe4 (fun a k q => by unfold vP at q; unfold scr; omega)
        have ns3 := ns2.fr fe4 (fun k => by unfold vP; omega)
        have m3 := xe3.1.1
        have pin := (b_in (A := sA σ) w.1 so2 q6).2.2
        rw [← pf b] at pin
        obtain ⟨pn, hpn⟩ := Int.eq_ofNat_of_zero_le pin.1
        have p100 := p_99 hpn pin.2
        rw [hpn] at p3
        simp only [psh_none, rX11_nexts_78, rX11_nexts_80, rX11_nexts_81, rX11_nexts_84, rX11_nexts_87, Cs_K200 m3, Cs_R200_0 m3, Cs_R200_1 m3, Cs_R200_2 m3, Cs_R200_3 m3, Cs_R200_4 m3, Cs_R200_5 m3, Cs_R200_6 m3, Cs_K201 m3, Cs_R201_0 m3, Cs_R201_1 m3, Cs_K202 m3, Cs_K203 m3, Cs_K211 m3, Cs_R211_0 m3, Cs_R211_1 m3, Cs_K212 m3, Cs_K213 m3, Cs_K214 m3, Cs_R214_0 m3, Cs_R214_1 m3, Cs_K215 m3, Cs_K216 m3, Cs_K217 m3, Cs_R217_0 m3, Cs_R217_1 m3, Cs_K218 m3, Cs_K219 m3, Cs_K220 m3, Cs_R220_0 m3, Cs_K221 m3, Cs_K262 m3, Cs_K271 m3, Cs_R271_0 m3, Cs_R271_1 m3, Cs_K272 m3, Cs_K276 m3, Cs_R272_0 m3, Cs_R276_0 m3, Cs_K273 m3, Cs_R273_0 m3, Cs_R273_1 m3, Cs_K274 m3, Cs_K275 m3, Cs_K277 m3, Cs_R277_0 m3, Cs_R277_1 m3, Cs_K278 m3, Cs_K279 m3, Cs_R262_0 m3, Cs_K263 m3, Cs_R263_0 m3, Cs_K264 m3, Cs_R262_1 m3, Cs_K265 m3, Cs_R265_0 m3, Cs_K266 m3, Cs_R262_2 m3, Cs_K267 m3, Cs_R267_0 m3, Cs_K268 m3, Cs_R262_3 m3, Cs_K269 m3, Cs_R269_0 m3, Cs_K270 m3, p3, ns3.1, Int.toNat_natCast, Int.natCast_nonneg, true_and, and_true, and_self, if_true, if_false, or_true, true_or, or_false, false_or, ne_eq, not_true_eq_false, not_false_eq_true, Nat.reduceLeDiff, Nat.reduceEqDiff, Nat.reduceLT, Nat.reduceAdd, Nat.reduceMul, Nat.reduceSub, Int.reduceLT, Int.reduceLE, Int.reduceEq, Int.reduceToNat, Int.reduceAdd, Int.reduceSub, Int.reduceMul, Int.reduceNeg, Int.cast_ofNat_Int, false_and, and_false]
        refine S_nsAdd a2 ns3 p100.1 ?_
        intro e4 fe6 ns4
        simp only [psh_none, rX11_nexts_90, rX11_nexts_93, i1]
        refine kk e4 ⟨x.scf (fe5.old fe6 (Nat.le_refl _)) (fun a q => by unfold scr; omega) (m3.fr fe6), fe5.old fe6 (Nat.le_refl _), by rw [fe6.N, fe4.N, fe2.N]; exact eN, by rw [fe6.S, fe4.S, fe2.S]; exact eS, ns4.of (fun k _ => ?_)⟩
        · unfold addB
          show _ = (npB (bdF σ j q) (bpF σ j q) b k || (bdF σ j q b && decide ((k : Int) = bpF σ j q b)))
          rw [hf, hpn, Bool.true_and, n_eq]
      · rw [if_neg hf, if_pos (by trivial)]
        simp only [rX11_nexts_90, rX11_nexts_93, i1]
        refine kk e2 ⟨xe2, fe3, by rw [fe2.N]; exact eN, by rw [fe2.S]; exact eS, ns2.of (fun k _ => ?_)⟩
        show _ = (npB (bdF σ j q) (bpF σ j q) b k || (bdF σ j q b && decide ((k : Int) = bpF σ j q b)))
        rw [Bool.eq_false_iff.2 hf, Bool.false_and, Bool.or_false]
    · rintro e ⟨xe, fe, eN, eS, nse⟩
      rw [rX11_nexts_25]
      simp only [rX11_nexts_27, rX11_nexts_29, rX11_nexts_96, rX11_nexts_98, nse.1, Int.toNat_natCast, Int.natCast_nonneg, true_and, and_true, and_self, if_true, if_false, or_true, true_or, or_false, false_or, ne_eq, not_true_eq_false, not_false_eq_true, Nat.reduceLeDiff, Nat.reduceEqDiff, Nat.reduceLT, Nat.reduceAdd, Nat.reduceMul, Nat.reduceSub, Int.reduceLT, Int.reduceLE, Int.reduceEq, Int.reduceToNat, Int.reduceAdd, Int.reduceSub, Int.reduceMul, Int.reduceNeg, Int.cast_ofNat_Int, false_and, and_false]
      refine S_nsSize nse ?_
      simp only [psh_some, rX11_nexts_101]
      exact k e xe (Cfr.fa fe n0 (fun k _ => fe.R (by omega) (by omega) k) (fun a q => by omega) (by omega) (by omega))
  · rw [if_neg h0] at k ⊢
    simp only [rX11_nexts_11, rX11_nexts_12]
    exact k h x (Cfr.refl h)
/-! the reference -/
def iaP (a k : Nat) : Prop := lP a k ∨ (a = 294 ∧ k = 33)
theorem LdC_b {h : Hp} {A B : Nat → Int} (x : RS h A B) {g : Nat} (hg : g < 6) {C : Nat → Int} (sc : stOk C) (e1 : C (2 + g) = B (2 + g)) (e2 : C (8 + g) = B (8 + g)) : LdC h (putS A B) g (C 0).toNat (C 1).toNat (C (2 + g)) (C (8 + g)) := by
  obtain ⟨o1, o2, o3, o4, o5⟩ := sc
  obtain ⟨o6, o7, o8, o9⟩ := o5 g hg
  refine ⟨x.1, x.2.1, x.rp.2.2, ?_, ?_, o6, o7, o8, o9, hg, by omega, by omega⟩
  · rw [e1, show 35 + g = 33 + (2 + g) by omega, putS_at _ _ (by omega)]
  · rw [e2, show 41 + g = 33 + (8 + g) by omega, putS_at _ _ (by omega)]
theorem S_laysC {d : Nat} {Q : Option PV → Hp → Prop} {h : Hp} {A B : Nat → Int} (x : RS h A B) {g : Nat} (hg : g < 6) {C : Nat → Int} (sc : stOk C) (e1 : C (2 + g) = B (2 + g)) (e2 : C (8 + g) = B (8 + g))
    (k : ∀ h', Fp lP h h' → hI h' 294 19 = dvB A C g 1 → hI h' 294 20 = dvB A C g 0 → Q none h') :
    WP (d + 2) mX12_laysDive 0 [some (.inr (.inr 294)), some (.inl (g : Int)), some (.inl (C 1)), some (.inl (C 0)), none] [] h Q := by
  have L := LdC_b x hg sc e1 e2
  have q1 : C 1 = (((C 1).toNat : Nat) : Int) := (toN sc.2.2.1).symm
  have q0 : C 0 = (((C 0).toNat : Nat) : Int) := (toN sc.1).symm
  have pe := pdA_same x.2.2.1 (putS_same A B)
  have go := S_laysDive (d := d) (Q := Q) L (fun h' f a1 a2 a3 => by
    rw [dThr_E pe] at a2
    rw [dPst_E pe] at a3
    exact k h' f a2 a3)
  rw [← q1, ← q0] at go
  exact go
theorem RS.fr2 {h h' : Hp} {A B : Nat → Int} {P : Nat → Nat → Prop} (f : Fp P h h') (hp : ∀ k, ¬ P 295 k) (x : RS h A B) : RS h' A B := ⟨x.1.fr f, x.2.1.fr f hp, x.2.2⟩
theorem ia_no {a k : Nat} (h : a = 312 ∨ a = 313 ∨ a = 295) : ¬ iaP a k := by unfold iaP lP; omega
theorem mod_99 {z : Int} {b : Nat} (h : z = (b : Int)) (h9 : z ≤ 99) : b % 100 = b := by omega
theorem il_n {i l : Nat} (h : i < l) (hl : l ≤ 40) : (i : Int) < (l : Int) ∧ i < 40 ∧ w32 ((i : Int) + 1) = ((i + 1 : Nat) : Int) := ⟨by omega, by omega, w32_s (by omega)⟩
theorem S_isAlone {d : Nat} {Q : Option PV → Hp → Prop} {h : Hp} {A B : Nat → Int} (x : RS h A B) {g j l : Nat} (hg : g < 6) (hj : j < 4) (hl : l ≤ 40) {z : Nat → Int} (sz : hI h 312 j = (l : Int)) (nz : ∀ i, i < l → hJ h 313 (40 * j + i) = z i)
    (k : ∀ h', Fp iaP h h' → (alS z A B g l = true → hI h' 294 33 = bP A (alB A B g l) g) → Q (some (.inl (if alS z A B g l = true then 1 else 0))) h') :
    WP (d + 3) mX12_isAlone 0 [some (.inr (.inr 294)), some (.inl (j : Int)), some (.inl (g : Int)), none, none, none] [] h Q := by
  have m := x.1
  have j4 : (j : Int) < 4 := by omega
  have b0 := x.b (k := 0) (by omega)
  have b1 := x.b (k := 1) (by omega)
  have sok := alB_ok x.2.2.1 x.2.2.2 hg
  have e2 : ∀ n, alB A B g n (2 + g) = B (2 + g) := fun n => alB_k (by omega) n
  have e8 : ∀ n, alB A B g n (8 + g) = B (8 + g) := fun n => alB_k (by omega) n
  have nip : ∀ k, ¬ iaP 295 k := fun k => ia_no (Or.inr (Or.inr rfl))
  simp only [rX12_isAlone_0, rX12_isAlone_1, rX12_isAlone_4, rX12_isAlone_6, rX12_isAlone_7, rX12_isAlone_8, rX12_isAlone_9, rX12_isAlone_12, rX12_isAlone_14, rX12_isAlone_15, rX12_isAlone_17, rX12_isAlone_18, Md_K280 m, Md_R281 m, Md_K281 m, Md_R282 m, Md_K282 m, Md_R283 m, Md_K283 m, Md_R284 m, Md_K284 m, Md_R285 m, Md_K285 m, Md_R286 m, Md_K286 m, Md_R287 m, Md_K287 m, Md_R288 m, Md_K288 m, Md_R289 m, Md_K289 m, Md_R290 m, Md_K290 m, Md_R291 m, Md_K291 m, Md_R292 m, Md_K292 m, Md_R293 m, Md_K293 m, Md_R294 m, Md_K294 m, Md_R295 m, Md_K295 m, Md_R296 m, Md_K296 m, Md_R297 m, Md_K297 m, Md_R298 m, Md_K298 m, Md_R299 m, Md_K299 m, b0, b1, Int.toNat_natCast, Int.natCast_nonneg, true_and, and_true, and_self, if_true, if_false, or_true, true_or, or_false, false_or, ne_eq, not_true_eq_false, not_false_eq_true, Nat.reduceLeDiff, Nat.reduceEqDiff, Nat.reduceLT, Nat.reduceAdd, Nat.reduceMul, Nat.reduceSub, Int.reduceLT, Int.reduceLE, Int.reduceEq, Int.reduceToNat, Int.reduceAdd, Int.reduceSub, Int.reduceMul, Int.reduceNeg, Int.cast_ofNat_Int, false_and, and_false]
  refine wp_for (fun i e => WP (d + 3) mX12_isAlone 20 [some (.inr (.inr 294)), some (.inl (j : Int)), some (.inl (g : Int)), some (.inl (alB A B g i 1)), some (.inl (alB A B g i 0)), some (.inl (i : Int))] [] e Q) (fun i e => Fp iaP h e ∧ ∀ q, q < i → sees (z q) (alB A B g (q + 1) 0) = true) l ?_ ?_ 0 h (by omega) ⟨Fp.refl _ h, fun q hq => by omega⟩
  · rintro i e hi ⟨fe, ok⟩ kk
    have xe := x.fr2 fe nip
    have me := xe.1
    have sz' : hI e 312 j = (l : Int) := by rw [fe.I (ia_no (Or.inl rfl))]; exact sz
    obtain ⟨il, i40, i1⟩ := il_n hi hl
    rw [rX12_isAlone_20]
    simp only [rX12_isAlone_22, rX12_isAlone_23, rX12_isAlone_26, rX12_isAlone_27, rX12_isAlone_28, rX12_isAlone_31, rX12_isAlone_32, rX12_isAlone_33, rX12_isAlone_34, rX12_isAlone_36, Md_K280 me, Md_R281 me, Md_K281 me, Md_R282 me, Md_K282 me, Md_R283 me, Md_K283 me, Md_R284 me, Md_K284 me, Md_R285 me, Md_K285 me, Md_R286 me, Md_K286 me, Md_R287 me, Md_K287 me, Md_R288 me, Md_K288 me, Md_R289 me, Md_K289 me, Md_R290 me, Md_K290 me, Md_R291 me, Md_K291 me, Md_R292 me, Md_K292 me, Md_R293 me, Md_K293 me, Md_R294 me, Md_K294 me, Md_R295 me, Md_K295 me, Md_R296 me, Md_K296 me, Md_R297 me, Md_K297 me, Md_R298 me, Md_K298 me, Md_R299 me, Md_K299 me, j4, sz', il, Int.toNat_natCast, Int.natCast_nonneg, true_and, and_true, and_self, if_true, if_false, or_true, true_or, or_false, false_or, ne_eq, not_true_eq_false, not_false_eq_true, Nat.reduceLeDiff, Nat.reduceEqDiff, Nat.reduceLT, Nat.reduceAdd, Nat.reduceMul, Nat.reduceSub, Int.reduceLT, Int.reduceLE, Int.reduceEq, Int.reduceToNat, Int.reduceAdd, Int.reduceSub, Int.reduceMul, Int.reduceNeg, Int.cast_ofNat_Int, false_and, and_false]
    refine S_laysC xe hg (sok i) (e2 i) (e8 i) ?_
    intro e3 f3 a2 a3
    have fe3 := fe.trans (f3.mono (P' := iaP) (fun a k q => Or.inl q))
    have me3 := m.fr fe3
    have zi : hJ e3 313 (40 * j + i) = z i := by rw [fe3.J (ia_no (Or.inr (Or.inl rfl)))]; exact nz i hi
    have so := (sok (i + 1)).1
    have so9 := (sok (i + 1)).2.1
    obtain ⟨bd, hbd⟩ := Int.eq_ofNat_of_zero_le so
    have a2' : hI e3 294 19 = alB A B g (i + 1) 1 := a2
    have a3' : hI e3 294 20 = (bd : Int) := by rw [← hbd]; exact a3
    simp only [psh_none, rX12_isAlone_39, rX12_isAlone_40, rX12_isAlone_43, rX12_isAlone_44, rX12_isAlone_45, rX12_isAlone_48, rX12_isAlone_50, rX12_isAlone_51, rX12_isAlone_52, rX12_isAlone_54, rX12_isAlone_56, Md_K280 me3, Md_R281 me3, Md_K281 me3, Md_R282 me3, Md_K282 me3, Md_R283 me3, Md_K283 me3, Md_R284 me3, Md_K284 me3, Md_R285 me3, Md_K285 me3, Md_R286 me3, Md_K286 me3, Md_R287 me3, Md_K287 me3, Md_R288 me3, Md_K288 me3, Md_R289 me3, Md_K289 me3, Md_R290 me3, Md_K290 me3, Md_R291 me3, Md_K291 me3, Md_R292 me3, Md_K292 me3, Md_R293 me3, Md_K293 me3, Md_R294 me3, Md_K294 me3, Md_R295 me3, Md_K295 me3, Md_R296 me3, Md_K296 me3, Md_R297 me3, Md_K297 me3, Md_R298 me3, Md_K298 me3, Md_R299 me3, Md_K299 me3, a2', a3', S_isSeen me3 (s := bd) hj i40 zi, psh_some, Int.toNat_natCast, Int.natCast_nonneg, true_and, and_true, and_self, if_true, if_false, or_true, true_or, or_false, false_or, ne_eq, not_true_eq_false, not_false_eq_true, Nat.reduceLeDiff, Nat.reduceEqDiff, Nat.reduceLT, Nat.reduceAdd, Nat.reduceMul, Nat.reduceSub, Int.reduceLT, Int.reduceLE, Int.reduceEq, Int.reduceToNat, Int.reduceAdd, Int.reduceSub, Int.reduceMul, Int.reduceNeg, Int.cast_ofNat_Int, false_and, and_false]
    rw [mod_99 hbd so9, ← hbd]
    by_cases h1 : sees (z i) (alB A B g (i + 1) 0) = true
    · rw [if_pos h1]
      simp only [rX12_isAlone_59, rX12_isAlone_64, rX12_isAlone_67, i1, Int.toNat_natCast, Int.natCast_nonneg, true_and, and_true, and_self, if_true, if_false, or_true, true_or, or_false, false_or, ne_eq, not_true_eq_false, not_false_eq_true, Nat.reduceLeDiff, Nat.reduceEqDiff, Nat.reduceLT, Nat.reduceAdd, Nat.reduceMul, Nat.reduceSub, Int.reduceLT, Int.reduceLE, Int.reduceEq, Int.reduceToNat, Int.reduceAdd, Int.reduceSub, Int.reduceMul, Int.reduceNeg, Int.cast_ofNat_Int, false_and, and_false]
      refine kk e3 ⟨fe3, fun q hq => ?_⟩
      by_cases hqi : q = i
      · rw [hqi]; exact h1
      · exact ok q (lt_one hq hqi)
    · rw [if_neg h1]
      simp only [rX12_isAlone_59, rX12_isAlone_62, rX12_isAlone_63, Int.toNat_natCast, Int.natCast_nonneg, true_and, and_true, and_self, if_true, if_false, or_true, true_or, or_false, false_or, ne_eq, not_true_eq_false, not_false_eq_true, Nat.reduceLeDiff, Nat.reduceEqDiff, Nat.reduceLT, Nat.reduceAdd, Nat.reduceMul, Nat.reduceSub, Int.reduceLT, Int.reduceLE, Int.reduceEq, Int.reduceToNat, Int.reduceAdd, Int.reduceSub, Int.reduceMul, Int.reduceNeg, Int.cast_ofNat_Int, false_and, and_false]
      have k0 := k e3 fe3
      rw [alS_F hi (Bool.eq_false_iff.2 h1)] at k0
      exact k0 (fun q => absurd q (by decide))
  · rintro e ⟨fe, ok⟩
    have xe := x.fr2 fe nip
    have me := xe.1
    have sz' : hI e 312 j = (l : Int) := by rw [fe.I (ia_no (Or.inl rfl))]; exact sz
    rw [rX12_isAlone_20]
    simp only [rX12_isAlone_22, rX12_isAlone_23, rX12_isAlone_26, rX12_isAlone_27, rX12_isAlone_28, rX12_isAlone_70, rX12_isAlone_71, rX12_isAlone_72, rX12_isAlone_73, rX12_isAlone_75, Md_K280 me, Md_R281 me, Md_K281 me, Md_R282 me, Md_K282 me, Md_R283 me, Md_K283 me, Md_R284 me, Md_K284 me, Md_R285 me, Md_K285 me, Md_R286 me, Md_K286 me, Md_R287 me, Md_K287 me, Md_R288 me, Md_K288 me, Md_R289 me, Md_K289 me, Md_R290 me, Md_K290 me, Md_R291 me, Md_K291 me, Md_R292 me, Md_K292 me, Md_R293 me, Md_K293 me, Md_R294 me, Md_K294 me, Md_R295 me, Md_K295 me, Md_R296 me, Md_K296 me, Md_R297 me, Md_K297 me, Md_R298 me, Md_K298 me, Md_R299 me, Md_K299 me, j4, sz', Int.lt_irrefl, Int.toNat_natCast, Int.natCast_nonneg, true_and, and_true, and_self, if_true, if_false, or_true, true_or, or_false, false_or, ne_eq, not_true_eq_false, not_false_eq_true, Nat.reduceLeDiff, Nat.reduceEqDiff, Nat.reduceLT, Nat.reduceAdd, Nat.reduceMul, Nat.reduceSub, Int.reduceLT, Int.reduceLE, Int.reduceEq, Int.reduceToNat, Int.reduceAdd, Int.reduceSub, Int.reduceMul, Int.reduceNeg, Int.cast_ofNat_Int, false_and, and_false]
    refine S_laysC xe hg (sok l) (e2 l) (e8 l) ?_
    intro e3 f3 a2 a3
    have fe3 := (fe.trans (f3.mono (P' := iaP) (fun a k q => Or.inl q))).wI (a := 294) (k := 33) (Or.inr ⟨rfl, rfl⟩) (dvB A (alB A B g l) g 0)
    have me3 := xe.1.fr f3
    simp only [psh_none, rX12_isAlone_78, rX12_isAlone_79, rX12_isAlone_80, rX12_isAlone_83, rX12_isAlone_86, rX12_isAlone_87, hN_wI, hN_wJ, hN_wR, hS_wI, hS_wJ, hS_wR, hK_wI, hK_wJ, hK_wR, hI_wI, hI_wJ, hI_wR, hJ_wI, hJ_wJ, hJ_wR, hR_wI, hR_wJ, hR_wR, hN_nw, hS_nw, hK_nw, hI_nw, hJ_nw, hR_nw, psh_some, psh_none, Md_K280 me3, Md_R281 me3, Md_K281 me3, Md_R282 me3, Md_K282 me3, Md_R283 me3, Md_K283 me3, Md_R284 me3, Md_K284 me3, Md_R285 me3, Md_K285 me3, Md_R286 me3, Md_K286 me3, Md_R287 me3, Md_K287 me3, Md_R288 me3, Md_K288 me3, Md_R289 me3, Md_K289 me3, Md_R290 me3, Md_K290 me3, Md_R291 me3, Md_K291 me3, Md_R292 me3, Md_K292 me3, Md_R293 me3, Md_K293 me3, Md_R294 me3, Md_K294 me3, Md_R295 me3, Md_K295 me3, Md_R296 me3, Md_K296 me3, Md_R297 me3, Md_K297 me3, Md_R298 me3, Md_K298 me3, Md_R299 me3, Md_K299 me3, a3, Int.toNat_natCast, Int.natCast_nonneg, true_and, and_true, and_self, if_true, if_false, or_true, true_or, or_false, false_or, ne_eq, not_true_eq_false, not_false_eq_true, Nat.reduceLeDiff, Nat.reduceEqDiff, Nat.reduceLT, Nat.reduceAdd, Nat.reduceMul, Nat.reduceSub, Int.reduceLT, Int.reduceLE, Int.reduceEq, Int.reduceToNat, Int.reduceAdd, Int.reduceSub, Int.reduceMul, Int.reduceNeg, Int.cast_ofNat_Int, false_and, and_false]
    have k0 := k _ fe3
    rw [alS_T ok] at k0
    exact k0 (fun _ => by rw [hI_wI, if_pos ⟨rfl, rfl⟩]; rfl)
