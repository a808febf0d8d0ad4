/-! rows of numbers -/
theorem S_fillJ {d : Nat} {Q : Option PV → Hp → Prop} {h : Hp} {a n : Nat} {v : Int} (ha : 200 ≤ a) (hk : hK h a = (22, n)) (hn : n ≤ 100000)
    (k : ∀ h', Fp (fun b _ => b = a) h h' → (∀ j, j < n → hJ h' a j = v) → (∀ b j, hI h' b j = hI h b j) → Q none h') : WP d mJ7_fill_d0a16 0 [some (.inr (.inr a)), some (.inr (.inl v)), none, none, none] [] h Q := by
  simp only [rJ7_fill_d0a16_0, rJ7_fill_d0a16_1, rJ7_fill_d0a16_2, rJ7_fill_d0a16_3, rJ7_fill_d0a16_4, hk, Int.toNat_natCast, Int.natCast_nonneg, true_and, and_true, and_self, if_true, if_false, or_true, true_or, or_false, false_or, ne_eq, not_true_eq_false, not_false_eq_true, Nat.reduceLeDiff, Nat.reduceEqDiff, Nat.reduceLT, Nat.reduceAdd, Nat.reduceMul, Nat.reduceSub, Int.reduceLT, Int.reduceLE, Int.reduceEq, Int.reduceToNat, Int.reduceAdd, Int.reduceSub, Int.reduceMul, Int.reduceNeg, Int.cast_ofNat_Int, false_and, and_false]
  refine wp_for (fun i h' => WP d mJ7_fill_d0a16 6 [some (.inr (.inr a)), some (.inr (.inl v)), none, some (.inl (i : Int)), some (.inl (n : Int))] [] h' Q) (fun i h' => Fp (fun b _ => b = a) h h' ∧ (∀ j, j < i → hJ h' a j = v) ∧ ∀ b j, hI h' b j = hI h b j) n ?_ ?_ 0 h (by omega) ⟨Fp.refl _ h, fun j hj => by omega, fun _ _ => rfl⟩
  · rintro i h' hi ⟨f, e, g⟩ kk
    rw [rJ7_fill_d0a16_6]
    simp only [rJ7_fill_d0a16_7, rJ7_fill_d0a16_9, rJ7_fill_d0a16_12, rJ7_fill_d0a16_13, rJ7_fill_d0a16_14, rJ7_fill_d0a16_15, rJ7_fill_d0a16_16, rJ7_fill_d0a16_19, f.K, hk, ha, Int.toNat_natCast, Int.natCast_nonneg, true_and, and_true, and_self, if_true, if_false, or_true, true_or, or_false, false_or, ne_eq, not_true_eq_false, not_false_eq_true, Nat.reduceLeDiff, Nat.reduceEqDiff, Nat.reduceLT, Nat.reduceAdd, Nat.reduceMul, Nat.reduceSub, Int.reduceLT, Int.reduceLE, Int.reduceEq, Int.reduceToNat, Int.reduceAdd, Int.reduceSub, Int.reduceMul, Int.reduceNeg, Int.cast_ofNat_Int, false_and, and_false, show (i : Int) < (n : Int) by omega, w32_s (i := i) (by omega)]
    refine kk _ ⟨f.wJ (by exact rfl) _, fun j hj => ?_, g⟩
    rw [hJ_wJ]
    by_cases hji : j = i
    · rw [if_pos ⟨rfl, hji⟩]
    · rw [if_neg (by omega)]; exact e j (by omega)
  · rintro h' ⟨f, e, g⟩
    rw [rJ7_fill_d0a16_6]
    simp only [rJ7_fill_d0a16_7, rJ7_fill_d0a16_9, rJ7_fill_d0a16_22, Int.lt_irrefl, Int.toNat_natCast, Int.natCast_nonneg, true_and, and_true, and_self, if_true, if_false, or_true, true_or, or_false, false_or, ne_eq, not_true_eq_false, not_false_eq_true, Nat.reduceLeDiff, Nat.reduceEqDiff, Nat.reduceLT, Nat.reduceAdd, Nat.reduceMul, Nat.reduceSub, Int.reduceLT, Int.reduceLE, Int.reduceEq, Int.reduceToNat, Int.reduceAdd, Int.reduceSub, Int.reduceMul, Int.reduceNeg, Int.cast_ofNat_Int, false_and, and_false]
    exact k h' f e g
theorem S_fillI {d : Nat} {Q : Option PV → Hp → Prop} {h : Hp} {a n : Nat} {v : Int} (ha : 200 ≤ a) (hk : hK h a = (21, n)) (hn : n ≤ 100000)
    (k : ∀ h', Fp (fun b _ => b = a) h h' → (∀ j, j < n → hI h' a j = v) → Q none h') : WP d mJ7_fill_53178 0 [some (.inr (.inr a)), some (.inl v), none, none] [] h Q := by
  simp only [rJ7_fill_53178_0, rJ7_fill_53178_1, rJ7_fill_53178_2, rJ7_fill_53178_3, rJ7_fill_53178_4, hk, Int.toNat_natCast, Int.natCast_nonneg, true_and, and_true, and_self, if_true, if_false, or_true, true_or, or_false, false_or, ne_eq, not_true_eq_false, not_false_eq_true, Nat.reduceLeDiff, Nat.reduceEqDiff, Nat.reduceLT, Nat.reduceAdd, Nat.reduceMul, Nat.reduceSub, Int.reduceLT, Int.reduceLE, Int.reduceEq, Int.reduceToNat, Int.reduceAdd, Int.reduceSub, Int.reduceMul, Int.reduceNeg, Int.cast_ofNat_Int, false_and, and_false]
  refine wp_for (fun i h' => WP d mJ7_fill_53178 5 [some (.inr (.inr a)), some (.inl v), some (.inl (i : Int)), some (.inl (n : Int))] [] h' Q) (fun i h' => Fp (fun b _ => b = a) h h' ∧ (∀ j, j < i → hI h' a j = v)) n ?_ ?_ 0 h (by omega) ⟨Fp.refl _ h, fun j hj => by omega⟩
  · rintro i h' hi ⟨f, e⟩ kk
    rw [rJ7_fill_53178_5]
    simp only [rJ7_fill_53178_6, rJ7_fill_53178_7, rJ7_fill_53178_10, rJ7_fill_53178_11, rJ7_fill_53178_12, rJ7_fill_53178_13, rJ7_fill_53178_14, rJ7_fill_53178_17, f.K, hk, ha, Int.toNat_natCast, Int.natCast_nonneg, true_and, and_true, and_self, if_true, if_false, or_true, true_or, or_false, false_or, ne_eq, not_true_eq_false, not_false_eq_true, Nat.reduceLeDiff, Nat.reduceEqDiff, Nat.reduceLT, Nat.reduceAdd, Nat.reduceMul, Nat.reduceSub, Int.reduceLT, Int.reduceLE, Int.reduceEq, Int.reduceToNat, Int.reduceAdd, Int.reduceSub, Int.reduceMul, Int.reduceNeg, Int.cast_ofNat_Int, false_and, and_false, show (i : Int) < (n : Int) by omega, w32_s (i := i) (by omega)]
    refine kk _ ⟨f.wI (by exact rfl) _, fun j hj => ?_⟩
    rw [hI_wI]
    by_cases hji : j = i
    · rw [if_pos ⟨rfl, hji⟩]
    · rw [if_neg (by omega)]; exact e j (by omega)
  · rintro h' ⟨f, e⟩
    rw [rJ7_fill_53178_5]
    simp only [rJ7_fill_53178_6, rJ7_fill_53178_7, rJ7_fill_53178_20, Int.lt_irrefl, Int.toNat_natCast, Int.natCast_nonneg, true_and, and_true, and_self, if_true, if_false, or_true, true_or, or_false, false_or, ne_eq, not_true_eq_false, not_false_eq_true, Nat.reduceLeDiff, Nat.reduceEqDiff, Nat.reduceLT, Nat.reduceAdd, Nat.reduceMul, Nat.reduceSub, Int.reduceLT, Int.reduceLE, Int.reduceEq, Int.reduceToNat, Int.reduceAdd, Int.reduceSub, Int.reduceMul, Int.reduceNeg, Int.cast_ofNat_Int, false_and, and_false]
    exact k h' f e
theorem Cs_tray {h : Hp} (m : CsOk h) {t : Nat} (ht : t < 4) : hR h 262 t = 263 + 2 * t ∧ hK h (263 + 2 * t) = (10, 0) ∧ hR h (263 + 2 * t) 0 = 264 + 2 * t ∧ hK h (264 + 2 * t) = (22, 40) := by
  have : t = 0 ∨ t = 1 ∨ t = 2 ∨ t = 3 := by omega
  rcases this with rfl | rfl | rfl | rfl
  · exact ⟨Cs_R262_0 m, Cs_K263 m, Cs_R263_0 m, Cs_K264 m⟩
  · exact ⟨Cs_R262_1 m, Cs_K265 m, Cs_R265_0 m, Cs_K266 m⟩
  · exact ⟨Cs_R262_2 m, Cs_K267 m, Cs_R267_0 m, Cs_K268 m⟩
  · exact ⟨Cs_R262_3 m, Cs_K269 m, Cs_R269_0 m, Cs_K270 m⟩
def wT (σ : AS) (So M B : Nat → Int) : AS := (σ.1, σ.2.1, σ.2.2.1, σ.2.2.2.1, σ.2.2.2.2.1, σ.2.2.2.2.2.1, So, M, B)
def upI (f : Nat → Int) (k : Nat) (v : Int) : Nat → Int := fun j => if j = k then v else f j
theorem upI_eq (f : Nat → Int) (k : Nat) (v : Int) : upI f k v k = v := if_pos rfl
theorem upI_ne (f : Nat → Int) {k j : Nat} (v : Int) (h : j ≠ k) : upI f k v j = f j := if_neg h
theorem WF.t {σ : AS} (w : WF σ) {So M B : Nat → Int} (h : ∀ i, i < 4 → -1 ≤ So i ∧ So i ≤ 3 ∧ 0 ≤ M i ∧ M i ≤ 40) : WF (wT σ So M B) := ⟨w.1, w.2.1, w.2.2.1, w.2.2.2.1, w.2.2.2.2.1, w.2.2.2.2.2.1, w.2.2.2.2.2.2.1, w.2.2.2.2.2.2.2.1, h⟩
def tP (a k : Nat) : Prop := uP a k ∨ a = 311 ∨ a = 312 ∨ a = 313
theorem RRep.t {h h' : Hp} {σ : AS} (f : Fp tP h h') (x : RRep h σ) {So M B : Nat → Int} (e : ∀ i, i < 4 → hI h' 311 i = So i ∧ hI h' 312 i = M i) (g : ∀ k, k < 160 → hJ h' 313 k = B k) : RRep h' (wT σ So M B) := by
  obtain ⟨x1, x2, x3, x4, x5, x6, x7, x8, x9⟩ := x
  refine ⟨x1.fr f, fun k hk => ?_, fun i hi => ?_, ?_, fun k hk => ?_, ?_, ?_, e, g⟩
  · rw [f.I (by unfold tP uP; omega)]; exact x2 k hk
  · rw [f.I (by unfold tP uP; omega)]; exact x3 i hi
  · rw [f.I (by unfold tP uP; omega)]; exact x4
  · rw [f.I (by unfold tP uP; omega)]; exact x5 k hk
  · rw [f.I (by unfold tP uP; omega)]; exact x6
  · rw [f.I (by unfold tP uP; omega)]; exact x7
theorem tP_r {a k : Nat} (h : tP a k) : rfP a k := by unfold tP uP at h; unfold rfP; omega
def trP (a _k : Nat) : Prop := 263 ≤ a ∧ a ≤ 270
theorem CRep.t {h h' : Hp} {σ : AS} (f : Fp trP h h') (x : CRep h σ) {So M B : Nat → Int} (tr : TrayIs h' (wT σ So M B)) : CRep h' (wT σ So M B) := by
  have fa := f.fa (S := fun a => 263 ≤ a ∧ a ≤ 270) (fun a k q => q)
  refine ⟨?_, x.2.fa fa x.1.2.1 (fun a ha => by omega)⟩
  obtain ⟨⟨m, n, ⟨p1, p2⟩, s1, pa, tr', im', rd⟩, b, _⟩ := x
  have pc : ∀ q, PoolIn h q → ∀ a, PlCell h q a → a < 200 + hN h ∧ ¬ (263 ≤ a ∧ a ≤ 270) := fun q hq a ha => by
    obtain ⟨y1, y2, y3⟩ := hq.2 a ha
    exact ⟨y1, by omega⟩
  have e7 : hR h' 200 7 = hR h 200 7 := f.R _ _
  refine ⟨m.fr f, by rw [f.N]; exact n, ?_, s1.fa fa (by omega) (by omega) (by omega) (by omega), pa.fa fa n (fun a h1 h2 => by omega), tr, ?_, ?_⟩
  · rw [e7]
    exact ⟨(p1.fa fa (pc _ p2)).1, p2.fa fa n (by omega) (pc _ p2 _ (Or.inl ⟨by omega, by omega⟩)).2⟩
  · intro i hi
    have e1 : hR h' (272 + 11 * i) 1 = hR h (272 + 11 * i) 1 := f.R _ _
    obtain ⟨y1, y2⟩ := im' i hi
    refine ⟨by rw [f.I (by unfold trP; omega)]; exact y1, fun h1 => ?_⟩
    obtain ⟨z1, z2, z3⟩ := y2 h1
    rw [e1]
    exact ⟨(z1.fa fa (pc _ z2)).1, z2.fa fa n (by omega) (pc _ z2 _ (Or.inl ⟨by omega, by omega⟩)).2, z3.fa fa (by omega) (by omega) (by omega) (by omega)⟩
  · exact rd.fa fa n (by omega) (by omega)
theorem Cfr_t {h h' : Hp} (f : Fp trP h h') : Cfr h h' := Cfr.of f (fun a k q => by unfold trP at q; unfold cfP; omega)
def nuS (σ : AS) (t : Nat) (s n : Int) : AS := wT σ (upI (sSo σ) t s) (upI (sM σ) t n) (fun k => if 40 * t ≤ k ∧ k < 40 * t + n.toNat then 0 else sB σ k)
def nuV (t s n : Int) : Int := if (0 ≤ t ∧ t < 4) ∧ 0 ≤ s ∧ s ≤ 3 then (if 0 ≤ n ∧ n ≤ 40 then 0 else -3) else -2
theorem WF.nu {σ : AS} (w : WF σ) {t : Nat} {s n : Int} (hs : 0 ≤ s ∧ s ≤ 3) (hn : 0 ≤ n ∧ n ≤ 40) : WF (nuS σ t s n) := by
  refine w.t (fun i hi => ?_)
  have := w.2.2.2.2.2.2.2.2 i hi
  unfold upI
  split <;> omega
set_option maxHeartbeats 1000000 in
theorem C_numbers {d : Nat} {σ : AS} {t s n : Int} : CSpec (d + 2) mX11_numbers [some (.inr (.inr 200)), some (.inl t), some (.inl s), some (.inl n)] σ (.inl (nuV t s n)) (if nuV t s n = 0 then nuS σ t.toNat s n else σ) := by
  intro h Q x w k
  have m := x.1.1
  have no : nuV t s n ≠ 0 → Q (some (.inl (nuV t s n))) h := by
    intro hn
    simp only [if_neg hn] at k
    exact k h x (Cfr.refl h)
  unfold nuV at no k
  simp only [rX11_numbers_0, rX11_numbers_1, rX11_numbers_2, rX11_numbers_5, rX11_numbers_8, rX11_numbers_9, rX11_numbers_12, rX11_numbers_13, rX11_numbers_14, rX11_numbers_17, rX11_numbers_19, Cs_K200 m, Int.toNat_natCast, Int.natCast_nonneg, true_and, and_true, and_self, if_true, if_false, or_true, true_or, or_false, false_or, ne_eq, not_true_eq_false, not_false_eq_true, Nat.reduceLeDiff, Nat.reduceEqDiff, Nat.reduceLT, Nat.reduceAdd, Nat.reduceMul, Nat.reduceSub, Int.reduceLT, Int.reduceLE, Int.reduceEq, Int.reduceToNat, Int.reduceAdd, Int.reduceSub, Int.reduceMul, Int.reduceNeg, Int.cast_ofNat_Int, false_and, and_false, S_cTray m, psh_some]
  by_cases h1 : 0 ≤ t ∧ t < 4
  · rw [if_pos h1, if_neg (by decide)]
    by_cases h2 : 0 ≤ s ∧ s ≤ 3
    · rw [if_neg (by omega), if_neg (by omega)]
      rw [if_pos ⟨h1, h2⟩] at no
      simp only [if_pos (And.intro h1 h2)] at k
      simp only [rX11_numbers_20, rX11_numbers_21, rX11_numbers_24, rX11_numbers_25, rX11_numbers_27, rX11_numbers_30, rX11_numbers_32]
      by_cases h3 : 0 ≤ n ∧ n ≤ 40
      · simp only [if_pos h3, if_true] at k
        rw [if_neg (by omega), if_neg (by omega)]
        obtain ⟨i, rfl⟩ := Int.eq_ofNat_of_zero_le h1.1
        obtain ⟨c, rfl⟩ := Int.eq_ofNat_of_zero_le h3.1
        obtain ⟨r1, r2, r3, r4⟩ := Cs_tray m (t := i) (by omega)
        simp only [rX11_numbers_33, rX11_numbers_34, rX11_numbers_37, rX11_numbers_38, rX11_numbers_39, rX11_numbers_40, rX11_numbers_41, Cs_K200 m, Cs_R200_0 m, Cs_R200_1 m, Cs_R200_2 m, Cs_R200_3 m, Cs_R200_4 m, Cs_R200_5 m, Cs_R200_6 m, Cs_K201 m, Cs_R201_0 m, Cs_R201_1 m, Cs_K202 m, Cs_K203 m, Cs_K211 m, Cs_R211_0 m, Cs_R211_1 m, Cs_K212 m, Cs_K213 m, Cs_K214 m, Cs_R214_0 m, Cs_R214_1 m, Cs_K215 m, Cs_K216 m, Cs_K217 m, Cs_R217_0 m, Cs_R217_1 m, Cs_K218 m, Cs_K219 m, Cs_K220 m, Cs_R220_0 m, Cs_K221 m, Cs_K262 m, Cs_K271 m, Cs_R271_0 m, Cs_R271_1 m, Cs_K272 m, Cs_K276 m, Cs_R272_0 m, Cs_R276_0 m, Cs_K273 m, Cs_R273_0 m, Cs_R273_1 m, Cs_K274 m, Cs_K275 m, Cs_K277 m, Cs_R277_0 m, Cs_R277_1 m, Cs_K278 m, Cs_K279 m, Cs_R262_0 m, Cs_K263 m, Cs_R263_0 m, Cs_K264 m, Cs_R262_1 m, Cs_K265 m, Cs_R265_0 m, Cs_K266 m, Cs_R262_2 m, Cs_K267 m, Cs_R267_0 m, Cs_K268 m, Cs_R262_3 m, Cs_K269 m, Cs_R269_0 m, Cs_K270 m, Int.toNat_natCast, Int.natCast_nonneg, true_and, and_true, and_self, if_true, if_false, or_true, true_or, or_false, false_or, ne_eq, not_true_eq_false, not_false_eq_true, Nat.reduceLeDiff, Nat.reduceEqDiff, Nat.reduceLT, Nat.reduceAdd, Nat.reduceMul, Nat.reduceSub, Int.reduceLT, Int.reduceLE, Int.reduceEq, Int.reduceToNat, Int.reduceAdd, Int.reduceSub, Int.reduceMul, Int.reduceNeg, Int.cast_ofNat_Int, false_and, and_false, show (i : Int) < 4 by omega, r1, r2]
        simp only [rX10_begin_0, rX10_begin_1, rX10_begin_2, rX10_begin_5, rX10_begin_6, rX10_begin_7, rX10_begin_10, rX10_begin_11, rX10_begin_12, rX10_begin_15, rX10_begin_16, rX10_begin_19, rX10_begin_20, hN_wI, hN_wJ, hN_wR, hS_wI, hS_wJ, hS_wR, hK_wI, hK_wJ, hK_wR, hI_wI, hI_wJ, hI_wR, hJ_wI, hJ_wJ, hJ_wR, hR_wI, hR_wJ, hR_wR, hN_nw, hS_nw, hK_nw, hI_nw, hJ_nw, hR_nw, psh_some, psh_none, Int.toNat_natCast, Int.natCast_nonneg, true_and, and_true, and_self, if_true, if_false, or_true, true_or, or_false, false_or, ne_eq, not_true_eq_false, not_false_eq_true, Nat.reduceLeDiff, Nat.reduceEqDiff, Nat.reduceLT, Nat.reduceAdd, Nat.reduceMul, Nat.reduceSub, Int.reduceLT, Int.reduceLE, Int.reduceEq, Int.reduceToNat, Int.reduceAdd, Int.reduceSub, Int.reduceMul, Int.reduceNeg, Int.cast_ofNat_Int, false_and, and_false, r2, r3, show 200 ≤ 263 + 2 * i by omega]
        refine S_fillJ (n := 40) (by omega) (by simp only [hN_wI, hN_wJ, hN_wR, hS_wI, hS_wJ, hS_wR, hK_wI, hK_wJ, hK_wR, hI_wI, hI_wJ, hI_wR, hJ_wI, hJ_wJ, hJ_wR, hR_wI, hR_wJ, hR_wR, hN_nw, hS_nw, hK_nw, hI_nw, hJ_nw, hR_nw, psh_some, psh_none]; exact r4) (by omega) ?_
        intro h' f e g
        simp only [psh_none, rX10_begin_23, rX11_numbers_44, rX11_numbers_45]
        have f0 : Fp trP h (wI (wI (wI h (263 + 2 * i) 1 0) (263 + 2 * i) 2 s) (263 + 2 * i) 3 (c : Int)) := (((Fp.refl trP h).wI (by unfold trP; omega) _).wI (by unfold trP; omega) _).wI (by unfold trP; omega) _
        have fd := f0.trans (f.mono (fun a k q => by unfold trP; omega))
        refine k h' (x.t fd (fun j hj => ?_)) (Cfr_t fd)
        have tr := x.1.2.2.2.2.2.1 j hj
        show hI h' (263 + 2 * j) 1 = (if upI (sSo σ) i s j = -1 then 1 else 0) ∧ (upI (sSo σ) i s j ≠ -1 → hI h' (263 + 2 * j) 2 = upI (sSo σ) i s j ∧ hI h' (263 + 2 * j) 3 = upI (sM σ) i c j ∧ ∀ k, k < (upI (sM σ) i c j).toNat → hJ h' (264 + 2 * j) k = if 40 * i ≤ 40 * j + k ∧ 40 * j + k < 40 * i + (c : Int).toNat then 0 else sB σ (40 * j + k))
        by_cases hji : j = i
        · subst hji
          rw [upI_eq, upI_eq]
          have e1 : hI h' (263 + 2 * j) 1 = 0 := by rw [f.I (by omega), hI_wI, if_neg (by omega), hI_wI, if_neg (by omega), hI_wI, if_pos ⟨rfl, rfl⟩]
          have e2 : hI h' (263 + 2 * j) 2 = s := by rw [f.I (by omega), hI_wI, if_neg (by omega), hI_wI, if_pos ⟨rfl, rfl⟩]
          have e3 : hI h' (263 + 2 * j) 3 = (c : Int) := by rw [f.I (by omega), hI_wI, if_pos ⟨rfl, rfl⟩]
          refine ⟨by rw [e1, if_neg (by omega)], fun _ => ⟨e2, e3, fun q hq => ?_⟩⟩
          rw [e q (by omega), if_pos (by omega)]
        · rw [upI_ne _ _ hji, upI_ne _ _ hji]
          have e1 : ∀ q, hI h' (263 + 2 * j) q = hI h (263 + 2 * j) q := fun q => by rw [f.I (by omega)]; simp only [hN_wI, hN_wJ, hN_wR, hS_wI, hS_wJ, hS_wR, hK_wI, hK_wJ, hK_wR, hI_wI, hI_wJ, hI_wR, hJ_wI, hJ_wJ, hJ_wR, hR_wI, hR_wJ, hR_wR, hN_nw, hS_nw, hK_nw, hI_nw, hJ_nw, hR_nw, psh_some, psh_none]; rw [if_neg (by omega), if_neg (by omega), if_neg (by omega)]
          have e2 : ∀ q, hJ h' (264 + 2 * j) q = hJ h (264 + 2 * j) q := fun q => by rw [f.J (by omega)]; rfl
          rw [e1, e1, e1]
          refine ⟨tr.1, fun hn => ⟨(tr.2 hn).1, (tr.2 hn).2.1, fun q hq => ?_⟩⟩
          have hm := (w.2.2.2.2.2.2.2.2 j hj).2.2.2
          rw [e2, if_neg (by omega)]
          exact (tr.2 hn).2.2 q hq
      · rw [if_neg h3] at no
        have k0 := no (by decide)
        by_cases h4 : n < 0
        · rw [if_pos h4]; exact k0
        · rw [if_neg h4, if_pos (by omega)]; exact k0
    · rw [if_neg (fun q => h2 q.2)] at no
      have k0 := no (by decide)
      by_cases h4 : s < 0
      · rw [if_pos h4]; exact k0
      · rw [if_neg h4, if_pos (by omega)]; exact k0
  · rw [if_neg (fun q => h1 q.1)] at no
    rw [if_neg h1, if_pos (by trivial)]
    exact no (by decide)
set_option maxHeartbeats 1000000 in
theorem R_numbers {d : Nat} {σ : AS} {t s n : Int} : RSpec (d + 2) mX12_numbers [some (.inr (.inr 294)), some (.inl t), some (.inl s), some (.inl n), none] σ (.inl (nuV t s n)) (if nuV t s n = 0 then nuS σ t.toNat s n else σ) := by
  refine RSpec5.of ?_ (fun h Q hk => by simp only [rX12_numbers_0, rX12_numbers_1, rX12_numbers_2, hk, Int.toNat_natCast, Int.natCast_nonneg, true_and, and_true, and_self, if_true, if_false, or_true, true_or, or_false, false_or, ne_eq, not_true_eq_false, not_false_eq_true, Nat.reduceLeDiff, Nat.reduceEqDiff, Nat.reduceLT, Nat.reduceAdd, Nat.reduceMul, Nat.reduceSub, Int.reduceLT, Int.reduceLE, Int.reduceEq, Int.reduceToNat, Int.reduceAdd, Int.reduceSub, Int.reduceMul, Int.reduceNeg, Int.cast_ofNat_Int, false_and, and_false])
  intro h Q x w k
  have m := x.1
  have no : nuV t s n ≠ 0 → Q (some (.inl (nuV t s n))) h := by
    intro hn
    simp only [if_neg hn] at k
    exact k h x (Fp.refl _ h)
  unfold nuV at no k
  simp only [rX12_numbers_5, rX12_numbers_6, rX12_numbers_7, rX12_numbers_8, rX12_numbers_11, rX12_numbers_14, rX12_numbers_17, rX12_numbers_18, rX12_numbers_19, rX12_numbers_20, rX12_numbers_23, rX12_numbers_26, rX12_numbers_29, rX12_numbers_31, S_within, psh_some]
  by_cases h1 : 0 ≤ t ∧ t ≤ 3
  · rw [if_pos h1, if_neg (by decide)]
    by_cases h2 : 0 ≤ s ∧ s ≤ 3
    · rw [if_pos h2, if_neg (by decide)]
      rw [if_pos ⟨by omega, h2⟩] at no
      simp only [if_pos (show (0 ≤ t ∧ t < 4) ∧ 0 ≤ s ∧ s ≤ 3 by omega)] at k
      simp only [rX12_numbers_32, rX12_numbers_33, rX12_numbers_34, rX12_numbers_35, rX12_numbers_38, rX12_numbers_41, rX12_numbers_44, rX12_numbers_46, S_within, psh_some]
      by_cases h3 : 0 ≤ n ∧ n ≤ 40
      · simp only [if_pos h3, if_true] at k
        rw [if_pos h3, if_neg (by decide)]
        obtain ⟨i, rfl⟩ := Int.eq_ofNat_of_zero_le h1.1
        obtain ⟨c, rfl⟩ := Int.eq_ofNat_of_zero_le h3.1
        simp only [rX12_numbers_47, rX12_numbers_48, rX12_numbers_51, rX12_numbers_52, rX12_numbers_53, rX12_numbers_54, rX12_numbers_55, rX12_numbers_58, rX12_numbers_59, rX12_numbers_60, rX12_numbers_61, rX12_numbers_62, hN_wI, hN_wJ, hN_wR, hS_wI, hS_wJ, hS_wR, hK_wI, hK_wJ, hK_wR, hI_wI, hI_wJ, hI_wR, hJ_wI, hJ_wJ, hJ_wR, hR_wI, hR_wJ, hR_wR, hN_nw, hS_nw, hK_nw, hI_nw, hJ_nw, hR_nw, psh_some, psh_none, Md_K280 m, Md_R281 m, Md_K281 m, Md_R282 m, Md_K282 m, Md_R283 m, Md_K283 m, Md_R284 m, Md_K284 m, Md_R285 m, Md_K285 m, Md_R286 m, Md_K286 m, Md_R287 m, Md_K287 m, Md_R288 m, Md_K288 m, Md_R289 m, Md_K289 m, Md_R290 m, Md_K290 m, Md_R291 m, Md_K291 m, Md_R292 m, Md_K292 m, Md_R293 m, Md_K293 m, Md_R294 m, Md_K294 m, Md_R295 m, Md_K295 m, Md_R296 m, Md_K296 m, Md_R297 m, Md_K297 m, Md_R298 m, Md_K298 m, Md_R299 m, Md_K299 m, Int.toNat_natCast, Int.natCast_nonneg, true_and, and_true, and_self, if_true, if_false, or_true, true_or, or_false, false_or, ne_eq, not_true_eq_false, not_false_eq_true, Nat.reduceLeDiff, Nat.reduceEqDiff, Nat.reduceLT, Nat.reduceAdd, Nat.reduceMul, Nat.reduceSub, Int.reduceLT, Int.reduceLE, Int.reduceEq, Int.reduceToNat, Int.reduceAdd, Int.reduceSub, Int.reduceMul, Int.reduceNeg, Int.cast_ofNat_Int, false_and, and_false, show (i : Int) < 4 by omega]
        have f1 : Fp tP h (wI (wI h 311 i s) 312 i (c : Int)) := ((Fp.refl tP h).wI (by unfold tP; omega) _).wI (by unfold tP; omega) _
        refine wp_for (fun j h' => WP (d + 2) mX12_numbers 64 [some (.inr (.inr 294)), some (.inl (i : Int)), some (.inl s), some (.inl (c : Int)), some (.inl (j : Int))] [] h' Q) (fun j h' => Fp tP h h' ∧ (∀ a q, hI h' a q = hI (wI (wI h 311 i s) 312 i (c : Int)) a q) ∧ ∀ q, q < 160 → hJ h' 313 q = if 40 * i ≤ q ∧ q < 40 * i + j then 0 else sB σ q) c ?_ ?_ 0 _ (by omega) ⟨f1, fun _ _ => rfl, fun q hq => ?_⟩
        · rintro j h' hj ⟨f, e, g⟩ kk
          have m' := m.fr f
          have e1 : w32 (40 * (i : Int)) = ((40 * i : Nat) : Int) := by rw [w32_i (by omega) (by omega)]; omega
          have e3 : w32 (((40 * i : Nat) : Int) + (j : Int)) = ((40 * i + j : Nat) : Int) := w32_ll (by omega)
          rw [rX12_numbers_64]
          simp only [rX12_numbers_66, rX12_numbers_67, rX12_numbers_70, rX12_numbers_71, rX12_numbers_74, rX12_numbers_76, rX12_numbers_77, rX12_numbers_78, rX12_numbers_80, rX12_numbers_81, rX12_numbers_82, rX12_numbers_83, rX12_numbers_86, Md_K280 m', Md_R281 m', Md_K281 m', Md_R282 m', Md_K282 m', Md_R283 m', Md_K283 m', Md_R284 m', Md_K284 m', Md_R285 m', Md_K285 m', Md_R286 m', Md_K286 m', Md_R287 m', Md_K287 m', Md_R288 m', Md_K288 m', Md_R289 m', Md_K289 m', Md_R290 m', Md_K290 m', Md_R291 m', Md_K291 m', Md_R292 m', Md_K292 m', Md_R293 m', Md_K293 m', Md_R294 m', Md_K294 m', Md_R295 m', Md_K295 m', Md_R296 m', Md_K296 m', Md_R297 m', Md_K297 m', Md_R298 m', Md_K298 m', Md_R299 m', Md_K299 m', Int.toNat_natCast, Int.natCast_nonneg, true_and, and_true, and_self, if_true, if_false, or_true, true_or, or_false, false_or, ne_eq, not_true_eq_false, not_false_eq_true, Nat.reduceLeDiff, Nat.reduceEqDiff, Nat.reduceLT, Nat.reduceAdd, Nat.reduceMul, Nat.reduceSub, Int.reduceLT, Int.reduceLE, Int.reduceEq, Int.reduceToNat, Int.reduceAdd, Int.reduceSub, Int.reduceMul, Int.reduceNeg, Int.cast_ofNat_Int, false_and, and_false, show (j : Int) < (c : Int) by omega, e1, e3, w32_s (i := j) (by omega)]
          refine ⟨by omega, kk _ ⟨f.wJ (by unfold tP; omega) _, e, fun q hq => ?_⟩⟩
          rw [hJ_wJ]
          by_cases hqj : q = 40 * i + j
          · rw [if_pos ⟨rfl, hqj⟩, if_pos (by omega)]
          · rw [if_neg (by omega), g q hq]
            by_cases hb : 40 * i ≤ q ∧ q < 40 * i + j
            · rw [if_pos hb, if_pos (by omega)]
            · rw [if_neg hb, if_neg (by omega)]
        · rintro h' ⟨f, e, g⟩
          rw [rX12_numbers_64]
          simp only [rX12_numbers_66, rX12_numbers_67, rX12_numbers_89, rX12_numbers_90, Int.lt_irrefl, Int.toNat_natCast, Int.natCast_nonneg, true_and, and_true, and_self, if_true, if_false, or_true, true_or, or_false, false_or, ne_eq, not_true_eq_false, not_false_eq_true, Nat.reduceLeDiff, Nat.reduceEqDiff, Nat.reduceLT, Nat.reduceAdd, Nat.reduceMul, Nat.reduceSub, Int.reduceLT, Int.reduceLE, Int.reduceEq, Int.reduceToNat, Int.reduceAdd, Int.reduceSub, Int.reduceMul, Int.reduceNeg, Int.cast_ofNat_Int, false_and, and_false]
          refine k h' (x.t f (fun j hj => ?_) (fun q hq => ?_)) (f.mono (fun a k q => tP_r q))
          · have := x.2.2.2.2.2.2.2.1 j hj
            rw [e, e]
            simp only [hI_wI, true_and]
            rw [Int.toNat_natCast]
            unfold upI
            by_cases hji : j = i
            · rw [if_neg (by omega), if_pos (by omega), if_pos hji, if_pos (by omega), if_pos hji]; exact ⟨rfl, rfl⟩
            · rw [if_neg (by omega), if_neg (by omega), if_neg hji, if_neg (by omega), if_neg (by omega), if_neg hji]; exact this
          · rw [g q hq, Int.toNat_natCast, Int.toNat_natCast]
        · rw [if_neg (by omega)]
          exact x.2.2.2.2.2.2.2.2 q hq
      · rw [if_neg h3] at no
        rw [if_neg h3, if_pos (by trivial)]
        exact no (by decide)
    · rw [if_neg (fun q => h2 q.2)] at no
      rw [if_neg h2, if_pos (by trivial)]
      exact no (by decide)
  · rw [if_neg (fun q => by omega)] at no
    rw [if_neg h1, if_pos (by trivial)]
    exact no (by decide)
def cutS (v s : Int) : Int := if s = 0 then w8 (w32 v) else if s = 1 then w16 (w32 v) else if s = 2 then w32 v else v
def wrS (σ : AS) (t i : Nat) (v : Int) : AS := wT σ (sSo σ) (sM σ) (upI (sB σ) (40 * t + i) v)
def wrC (σ : AS) (t i : Int) : Int := if 0 ≤ t ∧ t < 4 then (if sSo σ t.toNat = -1 then -6 else if 0 ≤ i ∧ i < sM σ t.toNat then 0 else -7) else -2
theorem WF.wr {σ : AS} (w : WF σ) {t i : Nat} {v : Int} : WF (wrS σ t i v) := w.t w.2.2.2.2.2.2.2.2
theorem S_cut {d : Nat} {h : Hp} {Q : Option PV → Hp → Prop} {v s : Int} : WP d mX12_cut 0 [some (.inr (.inl v)), none, some (.inl s)] [] h Q = Q (some (.inr (.inl (cutS v s)))) h := by
  unfold cutS
  simp only [rX12_cut_0, rX12_cut_1, rX12_cut_4, rX12_cut_5, rX12_cut_6, rX12_cut_7, rX12_cut_8, rX12_cut_11, rX12_cut_12, rX12_cut_13, rX12_cut_16, rX12_cut_17, rX12_cut_18, rX12_cut_19, rX12_cut_20, rX12_cut_23, rX12_cut_24, rX12_cut_25, rX12_cut_28, rX12_cut_29, rX12_cut_30, rX12_cut_31, rX12_cut_34, rX12_cut_35]
  by_cases h0 : s = 0
  · rw [if_pos h0, if_pos h0]
  · rw [if_neg h0, if_neg h0]
    by_cases h1 : s = 1
    · rw [if_pos h1, if_pos h1]
    · rw [if_neg h1, if_neg h1]
      by_cases h2 : s = 2
      · rw [if_pos h2, if_pos h2]
      · rw [if_neg h2, if_neg h2]
/-- a number comes into a row of the class -/
theorem S_put {d : Nat} {Q : Option PV → Hp → Prop} {h : Hp} (m : CsOk h) {t i : Nat} (ht : t < 4) (hi : i < 40) {v s : Int} (hs : hI h (263 + 2 * t) 2 = s)
    (k : Q (some (.inr (.inl (cutS v s)))) (wJ h (264 + 2 * t) i (cutS v s))) : WP d mX10_put 0 [some (.inr (.inr (263 + 2 * t))), some (.inl (i : Int)), some (.inr (.inl v)), none] [] h Q := by
  obtain ⟨r1, r2, r3, r4⟩ := Cs_tray m ht
  have a2 : 200 ≤ 264 + 2 * t := by omega
  have i4 : (i : Int) < 40 := by omega
  unfold cutS at k
  simp only [rX10_put_0, rX10_put_1, rX10_put_4, r2, Int.toNat_natCast, Int.natCast_nonneg, true_and, and_true, and_self, if_true, if_false, or_true, true_or, or_false, false_or, ne_eq, not_true_eq_false, not_false_eq_true, Nat.reduceLeDiff, Nat.reduceEqDiff, Nat.reduceLT, Nat.reduceAdd, Nat.reduceMul, Nat.reduceSub, Int.reduceLT, Int.reduceLE, Int.reduceEq, Int.reduceToNat, Int.reduceAdd, Int.reduceSub, Int.reduceMul, Int.reduceNeg, Int.cast_ofNat_Int, false_and, and_false, hs]
  by_cases h0 : s = 0
  · simp only [if_pos h0] at k
    subst h0
    simp only [show tabT 4 66 0 2 [28, 41, 54] 0 = 32 from rfl, rX10_put_32, rX10_put_33, rX10_put_36, rX10_put_37, rX10_put_38, rX10_put_39, rX10_put_40, rX10_put_41, rX10_put_42, rX10_put_77, rX10_put_78, rX10_put_81, rX10_put_82, rX10_put_83, hN_wI, hN_wJ, hN_wR, hS_wI, hS_wJ, hS_wR, hK_wI, hK_wJ, hK_wR, hI_wI, hI_wJ, hI_wR, hJ_wI, hJ_wJ, hJ_wR, hR_wI, hR_wJ, hR_wR, hN_nw, hS_nw, hK_nw, hI_nw, hJ_nw, hR_nw, psh_some, psh_none, r2, r3, r4, a2, i4, Int.toNat_natCast, Int.natCast_nonneg, true_and, and_true, and_self, if_true, if_false, or_true, true_or, or_false, false_or, ne_eq, not_true_eq_false, not_false_eq_true, Nat.reduceLeDiff, Nat.reduceEqDiff, Nat.reduceLT, Nat.reduceAdd, Nat.reduceMul, Nat.reduceSub, Int.reduceLT, Int.reduceLE, Int.reduceEq, Int.reduceToNat, Int.reduceAdd, Int.reduceSub, Int.reduceMul, Int.reduceNeg, Int.cast_ofNat_Int, false_and, and_false]
    exact k
  simp only [if_neg h0] at k
  by_cases h1 : s = 1
  · simp only [if_pos h1] at k
    subst h1
    simp only [show tabT 4 66 0 2 [28, 41, 54] 1 = 45 from rfl, rX10_put_45, rX10_put_46, rX10_put_49, rX10_put_50, rX10_put_51, rX10_put_52, rX10_put_53, rX10_put_54, rX10_put_55, rX10_put_77, rX10_put_78, rX10_put_81, rX10_put_82, rX10_put_83, hN_wI, hN_wJ, hN_wR, hS_wI, hS_wJ, hS_wR, hK_wI, hK_wJ, hK_wR, hI_wI, hI_wJ, hI_wR, hJ_wI, hJ_wJ, hJ_wR, hR_wI, hR_wJ, hR_wR, hN_nw, hS_nw, hK_nw, hI_nw, hJ_nw, hR_nw, psh_some, psh_none, r2, r3, r4, a2, i4, Int.toNat_natCast, Int.natCast_nonneg, true_and, and_true, and_self, if_true, if_false, or_true, true_or, or_false, false_or, ne_eq, not_true_eq_false, not_false_eq_true, Nat.reduceLeDiff, Nat.reduceEqDiff, Nat.reduceLT, Nat.reduceAdd, Nat.reduceMul, Nat.reduceSub, Int.reduceLT, Int.reduceLE, Int.reduceEq, Int.reduceToNat, Int.reduceAdd, Int.reduceSub, Int.reduceMul, Int.reduceNeg, Int.cast_ofNat_Int, false_and, and_false]
    exact k
  simp only [if_neg h1] at k
  by_cases h2 : s = 2
  · simp only [if_pos h2] at k
    subst h2
    simp only [show tabT 4 66 0 2 [28, 41, 54] 2 = 58 from rfl, rX10_put_58, rX10_put_59, rX10_put_62, rX10_put_63, rX10_put_64, rX10_put_65, rX10_put_66, rX10_put_67, rX10_put_77, rX10_put_78, rX10_put_81, rX10_put_82, rX10_put_83, hN_wI, hN_wJ, hN_wR, hS_wI, hS_wJ, hS_wR, hK_wI, hK_wJ, hK_wR, hI_wI, hI_wJ, hI_wR, hJ_wI, hJ_wJ, hJ_wR, hR_wI, hR_wJ, hR_wR, hN_nw, hS_nw, hK_nw, hI_nw, hJ_nw, hR_nw, psh_some, psh_none, r2, r3, r4, a2, i4, Int.toNat_natCast, Int.natCast_nonneg, true_and, and_true, and_self, if_true, if_false, or_true, true_or, or_false, false_or, ne_eq, not_true_eq_false, not_false_eq_true, Nat.reduceLeDiff, Nat.reduceEqDiff, Nat.reduceLT, Nat.reduceAdd, Nat.reduceMul, Nat.reduceSub, Int.reduceLT, Int.reduceLE, Int.reduceEq, Int.reduceToNat, Int.reduceAdd, Int.reduceSub, Int.reduceMul, Int.reduceNeg, Int.cast_ofNat_Int, false_and, and_false]
    exact k
  simp only [if_neg h2] at k
  rw [tabT_out (by omega), show tgt 4 66 = 70 from rfl]
  simp only [rX10_put_70, rX10_put_71, rX10_put_74, rX10_put_75, rX10_put_76, rX10_put_77, rX10_put_78, rX10_put_81, rX10_put_82, rX10_put_83, hN_wI, hN_wJ, hN_wR, hS_wI, hS_wJ, hS_wR, hK_wI, hK_wJ, hK_wR, hI_wI, hI_wJ, hI_wR, hJ_wI, hJ_wJ, hJ_wR, hR_wI, hR_wJ, hR_wR, hN_nw, hS_nw, hK_nw, hI_nw, hJ_nw, hR_nw, psh_some, psh_none, r2, r3, r4, a2, i4, Int.toNat_natCast, Int.natCast_nonneg, true_and, and_true, and_self, if_true, if_false, or_true, true_or, or_false, false_or, ne_eq, not_true_eq_false, not_false_eq_true, Nat.reduceLeDiff, Nat.reduceEqDiff, Nat.reduceLT, Nat.reduceAdd, Nat.reduceMul, Nat.reduceSub, Int.reduceLT, Int.reduceLE, Int.reduceEq, Int.reduceToNat, Int.reduceAdd, Int.reduceSub, Int.reduceMul, Int.reduceNeg, Int.cast_ofNat_Int, false_and, and_false]
  exact k
theorem TrayIs.put {h : Hp} {σ : AS} (x : TrayIs h σ) (w : WF σ) {t i : Nat} (ht : t < 4) (hi : i < 40) (v : Int) : TrayIs (wJ h (264 + 2 * t) i v) (wrS σ t i v) := by
  intro j hj
  obtain ⟨y1, y2⟩ := x j hj
  refine ⟨y1, fun hn => ⟨(y2 hn).1, (y2 hn).2.1, fun q hq => ?_⟩⟩
  have hm := (w.2.2.2.2.2.2.2.2 j hj).2.2.2
  have hq' : q < (sM σ j).toNat := hq
  show hJ (wJ h (264 + 2 * t) i v) (264 + 2 * j) q = upI (sB σ) (40 * t + i) v (40 * j + q)
  unfold upI
  rw [hJ_wJ]
  by_cases hji : j = t ∧ q = i
  · rw [if_pos (by omega), if_pos (by omega)]
  · rw [if_neg (by omega), if_neg (by omega)]
    exact (y2 hn).2.2 q hq'
set_option maxHeartbeats 1000000 in
theorem C_write {d : Nat} {σ : AS} {t i v : Int} : CSpec (d + 2) mX11_write [some (.inr (.inr 200)), some (.inl t), some (.inl i), some (.inr (.inl v)), none] σ (.inr (.inl (if wrC σ t i = 0 then cutS v (sSo σ t.toNat) else wrC σ t i))) (if wrC σ t i = 0 then wrS σ t.toNat i.toNat (cutS v (sSo σ t.toNat)) else σ) := by
  intro h Q x w k
  have m := x.1.1
  have no : wrC σ t i ≠ 0 → Q (some (.inr (.inl (wrC σ t i)))) h := by
    intro hn
    simp only [if_neg hn] at k
    exact k h x (Cfr.refl h)
  unfold wrC at no k
  simp only [rX11_write_0, rX11_write_1, rX11_write_2, rX11_write_5, rX11_write_8, rX11_write_11, Cs_K200 m, Int.toNat_natCast, Int.natCast_nonneg, true_and, and_true, and_self, if_true, if_false, or_true, true_or, or_false, false_or, ne_eq, not_true_eq_false, not_false_eq_true, Nat.reduceLeDiff, Nat.reduceEqDiff, Nat.reduceLT, Nat.reduceAdd, Nat.reduceMul, Nat.reduceSub, Int.reduceLT, Int.reduceLE, Int.reduceEq, Int.reduceToNat, Int.reduceAdd, Int.reduceSub, Int.reduceMul, Int.reduceNeg, Int.cast_ofNat_Int, false_and, and_false, S_cTray m, psh_some]
  by_cases h1 : 0 ≤ t ∧ t < 4
  · rw [if_pos h1, if_neg (by decide)]
    rw [if_pos h1] at no
    simp only [if_pos h1] at k
    obtain ⟨j, rfl⟩ := Int.eq_ofNat_of_zero_le h1.1
    have j4 : j < 4 := by omega
    obtain ⟨r1, r2, r3, r4⟩ := Cs_tray m j4
    obtain ⟨y1, y2⟩ := x.1.2.2.2.2.2.1 j j4
    have hm := (w.2.2.2.2.2.2.2.2 j j4).2.2.2
    simp only [Int.toNat_natCast] at no k
    simp only [rX11_write_12, rX11_write_13, rX11_write_16, rX11_write_17, rX11_write_18, rX11_write_21, rX11_write_24, rX11_write_27, Cs_K200 m, Cs_R200_0 m, Cs_R200_1 m, Cs_R200_2 m, Cs_R200_3 m, Cs_R200_4 m, Cs_R200_5 m, Cs_R200_6 m, Cs_K201 m, Cs_R201_0 m, Cs_R201_1 m, Cs_K202 m, Cs_K203 m, Cs_K211 m, Cs_R211_0 m, Cs_R211_1 m, Cs_K212 m, Cs_K213 m, Cs_K214 m, Cs_R214_0 m, Cs_R214_1 m, Cs_K215 m, Cs_K216 m, Cs_K217 m, Cs_R217_0 m, Cs_R217_1 m, Cs_K218 m, Cs_K219 m, Cs_K220 m, Cs_R220_0 m, Cs_K221 m, Cs_K262 m, Cs_K271 m, Cs_R271_0 m, Cs_R271_1 m, Cs_K272 m, Cs_K276 m, Cs_R272_0 m, Cs_R276_0 m, Cs_K273 m, Cs_R273_0 m, Cs_R273_1 m, Cs_K274 m, Cs_K275 m, Cs_K277 m, Cs_R277_0 m, Cs_R277_1 m, Cs_K278 m, Cs_K279 m, Cs_R262_0 m, Cs_K263 m, Cs_R263_0 m, Cs_K264 m, Cs_R262_1 m, Cs_K265 m, Cs_R265_0 m, Cs_K266 m, Cs_R262_2 m, Cs_K267 m, Cs_R267_0 m, Cs_K268 m, Cs_R262_3 m, Cs_K269 m, Cs_R269_0 m, Cs_K270 m, Int.toNat_natCast, Int.natCast_nonneg, true_and, and_true, and_self, if_true, if_false, or_true, true_or, or_false, false_or, ne_eq, not_true_eq_false, not_false_eq_true, Nat.reduceLeDiff, Nat.reduceEqDiff, Nat.reduceLT, Nat.reduceAdd, Nat.reduceMul, Nat.reduceSub, Int.reduceLT, Int.reduceLE, Int.reduceEq, Int.reduceToNat, Int.reduceAdd, Int.reduceSub, Int.reduceMul, Int.reduceNeg, Int.cast_ofNat_Int, false_and, and_false, show (j : Int) < 4 by omega, r1, r2, y1]
    by_cases h2 : sSo σ j = -1
    · rw [if_pos h2] at no
      rw [if_pos h2, if_neg (by decide)]
      exact no (by decide)
    · rw [if_neg h2] at no
      simp only [if_neg h2] at k
      rw [if_neg h2, if_pos (by trivial)]
      obtain ⟨z1, z2, z3⟩ := y2 h2
      simp only [rX11_write_28, rX11_write_29, rX11_write_32, rX11_write_33, rX11_write_34, rX11_write_37, rX11_write_38, rX11_write_39, rX11_write_42, rX11_write_45, rX11_write_48, Cs_K200 m, Cs_R200_0 m, Cs_R200_1 m, Cs_R200_2 m, Cs_R200_3 m, Cs_R200_4 m, Cs_R200_5 m, Cs_R200_6 m, Cs_K201 m, Cs_R201_0 m, Cs_R201_1 m, Cs_K202 m, Cs_K203 m, Cs_K211 m, Cs_R211_0 m, Cs_R211_1 m, Cs_K212 m, Cs_K213 m, Cs_K214 m, Cs_R214_0 m, Cs_R214_1 m, Cs_K215 m, Cs_K216 m, Cs_K217 m, Cs_R217_0 m, Cs_R217_1 m, Cs_K218 m, Cs_K219 m, Cs_K220 m, Cs_R220_0 m, Cs_K221 m, Cs_K262 m, Cs_K271 m, Cs_R271_0 m, Cs_R271_1 m, Cs_K272 m, Cs_K276 m, Cs_R272_0 m, Cs_R276_0 m, Cs_K273 m, Cs_R273_0 m, Cs_R273_1 m, Cs_K274 m, Cs_K275 m, Cs_K277 m, Cs_R277_0 m, Cs_R277_1 m, Cs_K278 m, Cs_K279 m, Cs_R262_0 m, Cs_K263 m, Cs_R263_0 m, Cs_K264 m, Cs_R262_1 m, Cs_K265 m, Cs_R265_0 m, Cs_K266 m, Cs_R262_2 m, Cs_K267 m, Cs_R267_0 m, Cs_K268 m, Cs_R262_3 m, Cs_K269 m, Cs_R269_0 m, Cs_K270 m, Int.toNat_natCast, Int.natCast_nonneg, true_and, and_true, and_self, if_true, if_false, or_true, true_or, or_false, false_or, ne_eq, not_true_eq_false, not_false_eq_true, Nat.reduceLeDiff, Nat.reduceEqDiff, Nat.reduceLT, Nat.reduceAdd, Nat.reduceMul, Nat.reduceSub, Int.reduceLT, Int.reduceLE, Int.reduceEq, Int.reduceToNat, Int.reduceAdd, Int.reduceSub, Int.reduceMul, Int.reduceNeg, Int.cast_ofNat_Int, false_and, and_false, show (j : Int) < 4 by omega, r1, r2, z2]
      by_cases h3 : 0 ≤ i ∧ i < sM σ j
      · simp only [if_pos h3, if_true] at k
        rw [if_neg (by omega), if_pos h3.2]
        obtain ⟨q, rfl⟩ := Int.eq_ofNat_of_zero_le h3.1
        simp only [rX11_write_49, rX11_write_50, rX11_write_53, rX11_write_54, rX11_write_55, rX11_write_56, rX11_write_57, Cs_K200 m, Cs_R200_0 m, Cs_R200_1 m, Cs_R200_2 m, Cs_R200_3 m, Cs_R200_4 m, Cs_R200_5 m, Cs_R200_6 m, Cs_K201 m, Cs_R201_0 m, Cs_R201_1 m, Cs_K202 m, Cs_K203 m, Cs_K211 m, Cs_R211_0 m, Cs_R211_1 m, Cs_K212 m, Cs_K213 m, Cs_K214 m, Cs_R214_0 m, Cs_R214_1 m, Cs_K215 m, Cs_K216 m, Cs_K217 m, Cs_R217_0 m, Cs_R217_1 m, Cs_K218 m, Cs_K219 m, Cs_K220 m, Cs_R220_0 m, Cs_K221 m, Cs_K262 m, Cs_K271 m, Cs_R271_0 m, Cs_R271_1 m, Cs_K272 m, Cs_K276 m, Cs_R272_0 m, Cs_R276_0 m, Cs_K273 m, Cs_R273_0 m, Cs_R273_1 m, Cs_K274 m, Cs_K275 m, Cs_K277 m, Cs_R277_0 m, Cs_R277_1 m, Cs_K278 m, Cs_K279 m, Cs_R262_0 m, Cs_K263 m, Cs_R263_0 m, Cs_K264 m, Cs_R262_1 m, Cs_K265 m, Cs_R265_0 m, Cs_K266 m, Cs_R262_2 m, Cs_K267 m, Cs_R267_0 m, Cs_K268 m, Cs_R262_3 m, Cs_K269 m, Cs_R269_0 m, Cs_K270 m, Int.toNat_natCast, Int.natCast_nonneg, true_and, and_true, and_self, if_true, if_false, or_true, true_or, or_false, false_or, ne_eq, not_true_eq_false, not_false_eq_true, Nat.reduceLeDiff, Nat.reduceEqDiff, Nat.reduceLT, Nat.reduceAdd, Nat.reduceMul, Nat.reduceSub, Int.reduceLT, Int.reduceLE, Int.reduceEq, Int.reduceToNat, Int.reduceAdd, Int.reduceSub, Int.reduceMul, Int.reduceNeg, Int.cast_ofNat_Int, false_and, and_false, show (j : Int) < 4 by omega, r1, r2]
        refine S_put m j4 (by omega) z1 ?_
        simp only [psh_some, rX11_write_60]
        have f : Fp trP h (wJ h (264 + 2 * j) q (cutS v (sSo σ j))) := (Fp.refl trP h).wJ (by unfold trP; omega) _
        exact k _ (x.t f (x.1.2.2.2.2.2.1.put w j4 (by omega) _)) (Cfr_t f)
      · rw [if_neg h3] at no
        have k0 := no (by decide)
        by_cases h4 : i < 0
        · rw [if_pos h4]; exact k0
        · rw [if_neg h4, if_neg (by omega)]; exact k0
  · rw [if_neg h1] at no
    rw [if_neg h1, if_pos (by trivial)]
    exact no (by decide)
def noT (σ : AS) (t : Int) : Int := if 0 ≤ t ∧ t < 4 then (if sSo σ t.toNat = -1 then -6 else 0) else -2
theorem S_noTray {d : Nat} {Q : Option PV → Hp → Prop} {h : Hp} {σ : AS} (x : RRep h σ) {t : Int} : WP (d + 1) mX12_noTray 0 [some (.inr (.inr 294)), some (.inl t)] [] h Q = Q (some (.inl (noT σ t))) h := by
  have m := x.1
  unfold noT
  simp only [rX12_noTray_0, rX12_noTray_1, rX12_noTray_2, rX12_noTray_3, rX12_noTray_6, rX12_noTray_9, rX12_noTray_12, rX12_noTray_14, rX12_noTray_33, S_within, psh_some]
  by_cases h1 : 0 ≤ t ∧ t < 4
  · rw [if_pos (show 0 ≤ t ∧ t ≤ 3 by omega), if_neg (by decide), if_pos h1]
    obtain ⟨j, rfl⟩ := Int.eq_ofNat_of_zero_le h1.1
    have e := (x.2.2.2.2.2.2.2.1 j (by omega)).1
    simp only [rX12_noTray_17, rX12_noTray_18, rX12_noTray_21, rX12_noTray_22, rX12_noTray_23, rX12_noTray_24, rX12_noTray_27, rX12_noTray_29, rX12_noTray_32, rX12_noTray_33, Md_K280 m, Md_R281 m, Md_K281 m, Md_R282 m, Md_K282 m, Md_R283 m, Md_K283 m, Md_R284 m, Md_K284 m, Md_R285 m, Md_K285 m, Md_R286 m, Md_K286 m, Md_R287 m, Md_K287 m, Md_R288 m, Md_K288 m, Md_R289 m, Md_K289 m, Md_R290 m, Md_K290 m, Md_R291 m, Md_K291 m, Md_R292 m, Md_K292 m, Md_R293 m, Md_K293 m, Md_R294 m, Md_K294 m, Md_R295 m, Md_K295 m, Md_R296 m, Md_K296 m, Md_R297 m, Md_K297 m, Md_R298 m, Md_K298 m, Md_R299 m, Md_K299 m, Int.toNat_natCast, Int.natCast_nonneg, true_and, and_true, and_self, if_true, if_false, or_true, true_or, or_false, false_or, ne_eq, not_true_eq_false, not_false_eq_true, Nat.reduceLeDiff, Nat.reduceEqDiff, Nat.reduceLT, Nat.reduceAdd, Nat.reduceMul, Nat.reduceSub, Int.reduceLT, Int.reduceLE, Int.reduceEq, Int.reduceToNat, Int.reduceAdd, Int.reduceSub, Int.reduceMul, Int.reduceNeg, Int.cast_ofNat_Int, false_and, and_false, show (j : Int) < 4 by omega, e]
    by_cases h2 : sSo σ j = -1
    · rw [if_pos h2, if_pos h2]
    · rw [if_neg h2, if_neg h2]
  · rw [if_neg (show ¬ (0 ≤ t ∧ t ≤ 3) by omega), if_pos (by trivial), if_neg h1]
set_option maxHeartbeats 1000000 in
theorem R_write {d : Nat} {σ : AS} {t i v : Int} : RSpec (d + 2) mX12_write [some (.inr (.inr 294)), some (.inl t), some (.inl i), some (.inr (.inl v)), none, none] σ (.inr (.inl (if wrC σ t i = 0 then cutS v (sSo σ t.toNat) else wrC σ t i))) (if wrC σ t i = 0 then wrS σ t.toNat i.toNat (cutS v (sSo σ t.toNat)) else σ) := by
  refine RSpec5.of ?_ (fun h Q hk => by simp only [rX12_write_0, rX12_write_1, rX12_write_2, hk, Int.toNat_natCast, Int.natCast_nonneg, true_and, and_true, and_self, if_true, if_false, or_true, true_or, or_false, false_or, ne_eq, not_true_eq_false, not_false_eq_true, Nat.reduceLeDiff, Nat.reduceEqDiff, Nat.reduceLT, Nat.reduceAdd, Nat.reduceMul, Nat.reduceSub, Int.reduceLT, Int.reduceLE, Int.reduceEq, Int.reduceToNat, Int.reduceAdd, Int.reduceSub, Int.reduceMul, Int.reduceNeg, Int.cast_ofNat_Int, false_and, and_false])
  intro h Q x w k
  have m := x.1
  have no : wrC σ t i ≠ 0 → Q (some (.inr (.inl (wrC σ t i)))) h := by
    intro hn
    simp only [if_neg hn] at k
    exact k h x (Fp.refl _ h)
  unfold wrC at no k
  simp only [rX12_write_5, rX12_write_6, rX12_write_7, rX12_write_10, rX12_write_12, rX12_write_14, Md_K280 m, Md_R281 m, Md_K281 m, Md_R282 m, Md_K282 m, Md_R283 m, Md_K283 m, Md_R284 m, Md_K284 m, Md_R285 m, Md_K285 m, Md_R286 m, Md_K286 m, Md_R287 m, Md_K287 m, Md_R288 m, Md_K288 m, Md_R289 m, Md_K289 m, Md_R290 m, Md_K290 m, Md_R291 m, Md_K291 m, Md_R292 m, Md_K292 m, Md_R293 m, Md_K293 m, Md_R294 m, Md_K294 m, Md_R295 m, Md_K295 m, Md_R296 m, Md_K296 m, Md_R297 m, Md_K297 m, Md_R298 m, Md_K298 m, Md_R299 m, Md_K299 m, Int.toNat_natCast, Int.natCast_nonneg, true_and, and_true, and_self, if_true, if_false, or_true, true_or, or_false, false_or, ne_eq, not_true_eq_false, not_false_eq_true, Nat.reduceLeDiff, Nat.reduceEqDiff, Nat.reduceLT, Nat.reduceAdd, Nat.reduceMul, Nat.reduceSub, Int.reduceLT, Int.reduceLE, Int.reduceEq, Int.reduceToNat, Int.reduceAdd, Int.reduceSub, Int.reduceMul, Int.reduceNeg, Int.cast_ofNat_Int, false_and, and_false, S_noTray x, psh_some]
  unfold noT
  by_cases h1 : 0 ≤ t ∧ t < 4
  · rw [if_pos h1] at no
    simp only [if_pos h1] at k ⊢
    obtain ⟨j, rfl⟩ := Int.eq_ofNat_of_zero_le h1.1
    have j4 : j < 4 := by omega
    have hm := (w.2.2.2.2.2.2.2.2 j j4).2.2
    obtain ⟨e1, e2⟩ := x.2.2.2.2.2.2.2.1 j j4
    simp only [Int.toNat_natCast] at no k ⊢
    by_cases h2 : sSo σ j = -1
    · rw [if_pos h2] at no
      simp only [if_pos h2, rX12_write_17, rX12_write_19, rX12_write_20, Int.toNat_natCast, Int.natCast_nonneg, true_and, and_true, and_self, if_true, if_false, or_true, true_or, or_false, false_or, ne_eq, not_true_eq_false, not_false_eq_true, Nat.reduceLeDiff, Nat.reduceEqDiff, Nat.reduceLT, Nat.reduceAdd, Nat.reduceMul, Nat.reduceSub, Int.reduceLT, Int.reduceLE, Int.reduceEq, Int.reduceToNat, Int.reduceAdd, Int.reduceSub, Int.reduceMul, Int.reduceNeg, Int.cast_ofNat_Int, false_and, and_false]
      exact no (by decide)
    · rw [if_neg h2] at no
      simp only [if_neg h2] at k ⊢
      simp only [rX12_write_21, rX12_write_22, rX12_write_23, rX12_write_24, rX12_write_25, rX12_write_28, rX12_write_29, rX12_write_30, rX12_write_31, rX12_write_32, rX12_write_33, rX12_write_36, rX12_write_39, rX12_write_42, Md_K280 m, Md_R281 m, Md_K281 m, Md_R282 m, Md_K282 m, Md_R283 m, Md_K283 m, Md_R284 m, Md_K284 m, Md_R285 m, Md_K285 m, Md_R286 m, Md_K286 m, Md_R287 m, Md_K287 m, Md_R288 m, Md_K288 m, Md_R289 m, Md_K289 m, Md_R290 m, Md_K290 m, Md_R291 m, Md_K291 m, Md_R292 m, Md_K292 m, Md_R293 m, Md_K293 m, Md_R294 m, Md_K294 m, Md_R295 m, Md_K295 m, Md_R296 m, Md_K296 m, Md_R297 m, Md_K297 m, Md_R298 m, Md_K298 m, Md_R299 m, Md_K299 m, Int.toNat_natCast, Int.natCast_nonneg, true_and, and_true, and_self, if_true, if_false, or_true, true_or, or_false, false_or, ne_eq, not_true_eq_false, not_false_eq_true, Nat.reduceLeDiff, Nat.reduceEqDiff, Nat.reduceLT, Nat.reduceAdd, Nat.reduceMul, Nat.reduceSub, Int.reduceLT, Int.reduceLE, Int.reduceEq, Int.reduceToNat, Int.reduceAdd, Int.reduceSub, Int.reduceMul, Int.reduceNeg, Int.cast_ofNat_Int, false_and, and_false, show (j : Int) < 4 by omega, e2, w32_i (z := sM σ j - 1) (by omega) (by omega), S_within, psh_some]
      by_cases h3 : 0 ≤ i ∧ i < sM σ j
      · simp only [if_pos h3, if_true] at k
        rw [if_pos (show 0 ≤ i ∧ i ≤ sM σ j - 1 by omega), if_neg (by decide)]
        obtain ⟨q, rfl⟩ := Int.eq_ofNat_of_zero_le h3.1
        have l1 : w32 (40 * (j : Int)) = ((40 * j : Nat) : Int) := by rw [w32_i (by omega) (by omega)]; omega
        have l3 : w32 (((40 * j : Nat) : Int) + (q : Int)) = ((40 * j + q : Nat) : Int) := w32_ll (by omega)
        have l4 : ((40 * j + q : Nat) : Int) < 160 := by omega
        simp only [rX12_write_43, rX12_write_44, rX12_write_47, rX12_write_49, rX12_write_50, rX12_write_51, rX12_write_52, rX12_write_53, rX12_write_54, rX12_write_55, rX12_write_58, rX12_write_59, rX12_write_60, rX12_write_63, rX12_write_64, rX12_write_65, rX12_write_68, rX12_write_70, rX12_write_71, rX12_write_72, rX12_write_73, rX12_write_74, rX12_write_75, hN_wI, hN_wJ, hN_wR, hS_wI, hS_wJ, hS_wR, hK_wI, hK_wJ, hK_wR, hI_wI, hI_wJ, hI_wR, hJ_wI, hJ_wJ, hJ_wR, hR_wI, hR_wJ, hR_wR, hN_nw, hS_nw, hK_nw, hI_nw, hJ_nw, hR_nw, psh_some, psh_none, Md_K280 m, Md_R281 m, Md_K281 m, Md_R282 m, Md_K282 m, Md_R283 m, Md_K283 m, Md_R284 m, Md_K284 m, Md_R285 m, Md_K285 m, Md_R286 m, Md_K286 m, Md_R287 m, Md_K287 m, Md_R288 m, Md_K288 m, Md_R289 m, Md_K289 m, Md_R290 m, Md_K290 m, Md_R291 m, Md_K291 m, Md_R292 m, Md_K292 m, Md_R293 m, Md_K293 m, Md_R294 m, Md_K294 m, Md_R295 m, Md_K295 m, Md_R296 m, Md_K296 m, Md_R297 m, Md_K297 m, Md_R298 m, Md_K298 m, Md_R299 m, Md_K299 m, Int.toNat_natCast, Int.natCast_nonneg, true_and, and_true, and_self, if_true, if_false, or_true, true_or, or_false, false_or, ne_eq, not_true_eq_false, not_false_eq_true, Nat.reduceLeDiff, Nat.reduceEqDiff, Nat.reduceLT, Nat.reduceAdd, Nat.reduceMul, Nat.reduceSub, Int.reduceLT, Int.reduceLE, Int.reduceEq, Int.reduceToNat, Int.reduceAdd, Int.reduceSub, Int.reduceMul, Int.reduceNeg, Int.cast_ofNat_Int, false_and, and_false, show (j : Int) < 4 by omega, l1, l3, l4, e1, S_cut, psh_some]
        have f : Fp tP h (wJ h 313 (40 * j + q) (cutS v (sSo σ j))) := (Fp.refl tP h).wJ (by unfold tP; omega) _
        refine k _ (x.t f (fun a ha => x.2.2.2.2.2.2.2.1 a ha) (fun a ha => ?_)) (f.mono (fun a k q => tP_r q))
        rw [hJ_wJ, Int.toNat_natCast]
        unfold upI
        by_cases haq : a = 40 * j + q
        · rw [if_pos ⟨rfl, haq⟩, if_pos haq]
        · rw [if_neg (by omega), if_neg haq]; exact x.2.2.2.2.2.2.2.2 a ha
      · rw [if_neg h3] at no
        rw [if_neg (show ¬ (0 ≤ i ∧ i ≤ sM σ j - 1) by omega), if_pos (by trivial)]
        exact no (by decide)
  · rw [if_neg h1] at no
    simp only [if_neg h1, rX12_write_17, rX12_write_19, rX12_write_20, Int.toNat_natCast, Int.natCast_nonneg, true_and, and_true, and_self, if_true, if_false, or_true, true_or, or_false, false_or, ne_eq, not_true_eq_false, not_false_eq_true, Nat.reduceLeDiff, Nat.reduceEqDiff, Nat.reduceLT, Nat.reduceAdd, Nat.reduceMul, Nat.reduceSub, Int.reduceLT, Int.reduceLE, Int.reduceEq, Int.reduceToNat, Int.reduceAdd, Int.reduceSub, Int.reduceMul, Int.reduceNeg, Int.cast_ofNat_Int, false_and, and_false]
    exact no (by decide)
