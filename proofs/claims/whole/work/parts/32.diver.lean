/-! Diver: the pile, the laws, a dive -/
def DvOk (h : Hp) : Prop := hK h 211 = (0, 0) ∧ hR h 211 0 = 212 ∧ hR h 211 1 = 213 ∧ hK h 212 = (21, 6) ∧ hK h 213 = (21, 64)
/-- the pile, the last first -/
def Pl (h : Hp) (s : List Int) : Prop := hI h 211 2 = s.length ∧ ∀ i, i < s.length → hI h 213 (s.length - 1 - i) = s.getD i 0
theorem S_has {d : Nat} {h : Hp} {Q : Option PV → Hp → Prop} {b i : Nat} (hb : b < 2147483648) (hi : i < 31) : WP d mX11_has 0 [some (.inl b), some (.inl i)] [] h Q = Q (some (.inl (if b.testBit i then 1 else 0))) h := by
  simp only [rX11_has_0, rX11_has_1, rX11_has_2, rX11_has_3, rX11_has_4, rX11_has_5, rX11_has_8, rX11_has_9, rX11_has_12, rX11_has_13, has_n hb hi]
  by_cases ht : b.testBit i = true <;> simp [ht]
theorem S_kept {d : Nat} {h : Hp} {Q : Option PV → Hp → Prop} {n a b : Int} : WP d mX0_kept 0 [some (.inr (.inl n)), none, some (.inl a), some (.inl b)] [] h Q = Q (some (.inl (if n < a then a else if b < n then b else w32 n))) h := by
  simp only [rX0_kept_0, rX0_kept_1, rX0_kept_2, rX0_kept_3, rX0_kept_4, rX0_kept_7, rX0_kept_8, rX0_kept_11, rX0_kept_12, rX0_kept_13, rX0_kept_14, rX0_kept_15, rX0_kept_18, rX0_kept_19, rX0_kept_22, rX0_kept_23, rX0_kept_24, lcm_neg, lcm_pos]
  by_cases h1 : n < a <;> by_cases h2 : b < n <;> simp [h1, h2]
theorem kept_clamp {n a b : Int} (ha : -2147483648 ≤ a) (hb : b < 2147483648) : (if n < a then a else if b < n then b else w32 n) = clampI n a b := by
  unfold clampI
  by_cases h1 : n < a
  · simp [h1]
  · by_cases h2 : b < n
    · simp [h1, h2]
    · simp [h1, h2]
      exact w32_i (by omega) (by omega)
theorem S_joined {d : Nat} {h : Hp} {Q : Option PV → Hp → Prop} {c l r : Int} (hc : 3000 ≤ c ∧ c ≤ 3005 ∨ c = 3007 ∨ c = 3008) (hl : -1000000 ≤ l ∧ l ≤ 1000000) (hr : -1000000 ≤ r ∧ r ≤ 1000000) : WP (d + 1) mX0_joined 0 [some (.inl (c - 2998)), some (.inl l), some (.inl r)] [] h Q = Q (some (.inl (bin c l r))) h := by
  have m1 : l * r ≤ 1000000000000 := by
    have := Int.mul_le_mul_of_natAbs_le (x := l) (y := r) (s := 1000000) (t := 1000000) (by omega) (by omega)
    omega
  have m2 : -1000000000000 ≤ l * r := by
    have := Int.mul_le_mul_of_natAbs_le (x := -l) (y := r) (s := 1000000) (t := 1000000) (by omega) (by omega)
    rw [Int.neg_mul] at this
    omega
  have e1 : w64 (l + r) = l + r := w64_i (by omega) (by omega)
  have e2 : w64 (l - r) = l - r := w64_i (by omega) (by omega)
  have e3 : w64 (l * r) = l * r := w64_i (by omega) (by omega)
  have k1 : ∀ n : Int, (if n < -1000000 then -1000000 else if 1000000 < n then 1000000 else w32 n) = clampI n (-1000000) 1000000 := fun n => kept_clamp (by omega) (by omega)
  have hcs : c = 3000 ∨ c = 3001 ∨ c = 3002 ∨ c = 3003 ∨ c = 3004 ∨ c = 3005 ∨ c = 3007 ∨ c = 3008 := by omega
  rcases hcs with rfl | rfl | rfl | rfl | rfl | rfl | rfl | rfl
  · simp only [rX0_joined_0, rX0_joined_1, show (3000 - 2998 : Int) = 2 from rfl, show tabT 1 123 2 9 [47, 60, 73, 86, 97, 108, 123, 119] 2 = 48 from rfl, rX0_joined_48, rX0_joined_49, rX0_joined_50, rX0_joined_51, rX0_joined_52, rX0_joined_53, rX0_joined_55, rX0_joined_57, rX0_joined_60, S_kept, e1, psh_some, k1]
    simp [bin]
  · simp only [rX0_joined_0, rX0_joined_1, show (3001 - 2998 : Int) = 3 from rfl, show tabT 1 123 2 9 [47, 60, 73, 86, 97, 108, 123, 119] 3 = 61 from rfl, rX0_joined_61, rX0_joined_62, rX0_joined_63, rX0_joined_64, rX0_joined_65, rX0_joined_66, rX0_joined_68, rX0_joined_70, rX0_joined_73, S_kept, e2, psh_some, k1]
    simp [bin]
  · simp only [rX0_joined_0, rX0_joined_1, show (3002 - 2998 : Int) = 4 from rfl, show tabT 1 123 2 9 [47, 60, 73, 86, 97, 108, 123, 119] 4 = 74 from rfl, rX0_joined_74, rX0_joined_75, rX0_joined_76, rX0_joined_77, rX0_joined_78, rX0_joined_79, rX0_joined_81, rX0_joined_83, rX0_joined_86, S_kept, e3, psh_some, k1]
    simp [bin]
  · simp only [rX0_joined_0, rX0_joined_1, show (3003 - 2998 : Int) = 5 from rfl, show tabT 1 123 2 9 [47, 60, 73, 86, 97, 108, 123, 119] 5 = 87 from rfl, rX0_joined_87, rX0_joined_88, rX0_joined_89, rX0_joined_92, rX0_joined_93, rX0_joined_96, rX0_joined_97]
    by_cases hlr : l = r <;> simp [bin, hlr]
  · simp only [rX0_joined_0, rX0_joined_1, show (3004 - 2998 : Int) = 6 from rfl, show tabT 1 123 2 9 [47, 60, 73, 86, 97, 108, 123, 119] 6 = 98 from rfl, rX0_joined_98, rX0_joined_99, rX0_joined_100, rX0_joined_103, rX0_joined_104, rX0_joined_107, rX0_joined_108]
    by_cases hlr : l < r <;> simp [bin, hlr]
  · simp only [rX0_joined_0, rX0_joined_1, show (3005 - 2998 : Int) = 7 from rfl, show tabT 1 123 2 9 [47, 60, 73, 86, 97, 108, 123, 119] 7 = 109 from rfl, rX0_joined_109, rX0_joined_110, rX0_joined_111, rX0_joined_114, rX0_joined_115, rX0_joined_118, rX0_joined_119]
    by_cases hlr : r < l <;> simp [bin, hlr]
  · simp only [rX0_joined_0, rX0_joined_1, show (3007 - 2998 : Int) = 9 from rfl, show tabT 1 123 2 9 [47, 60, 73, 86, 97, 108, 123, 119] 9 = 120 from rfl, rX0_joined_120, rX0_joined_121, rX0_joined_122, rX0_joined_123]
    simp [bin]
  · simp only [rX0_joined_0, rX0_joined_1, show (3008 - 2998 : Int) = 10 from rfl, show tabT 1 123 2 9 [47, 60, 73, 86, 97, 108, 123, 119] 10 = 124 from rfl, rX0_joined_124, rX0_joined_125, rX0_joined_126, rX0_joined_127]
    simp [bin]
theorem S_push {d : Nat} {h : Hp} {Q : Option PV → Hp → Prop} {v : Int} {s : List Int} (hD : DvOk h) (hp : Pl h s) (hl : s.length < 64) : WP d mX0_push 0 [some (.inr (.inr 211)), some (.inl v)] [] h Q = Q none (wI (wI h 213 s.length v) 211 2 (s.length + 1)) := by
  obtain ⟨k1, r1, r2, k2, k3⟩ := hD
  have hw : w32 ((s.length : Int) + 1) = s.length + 1 := w32_i (by omega) (by omega)
  have hlt : (s.length : Int) < 64 := by omega
  simp only [rX0_push_0, rX0_push_1, rX0_push_4, rX0_push_6, rX0_push_9, rX0_push_10, rX0_push_13, rX0_push_14, rX0_push_17, rX0_push_18, rX0_push_19, rX0_push_20, rX0_push_21, rX0_push_24, rX0_push_25, rX0_push_26, rX0_push_29, hN_wI, hN_wJ, hN_wR, hS_wI, hS_wJ, hS_wR, hK_wI, hK_wJ, hK_wR, hI_wI, hI_wJ, hI_wR, hJ_wI, hJ_wJ, hJ_wR, hR_wI, hR_wJ, hR_wR, hN_nw, hS_nw, hK_nw, hI_nw, hJ_nw, hR_nw, psh_some, psh_none, k1, k3, r2, hp.1]
  simp [hlt, hw]
theorem S_pop {d : Nat} {h : Hp} {Q : Option PV → Hp → Prop} {v : Int} {s : List Int} (hD : DvOk h) (hp : Pl h (v :: s)) (hl : s.length < 64) : WP d mX0_pop 0 [some (.inr (.inr 211))] [] h Q = Q (some (.inl v)) (wI h 211 2 s.length) := by
  obtain ⟨k1, r1, r2, k2, k3⟩ := hD
  have h1 : hI h 211 2 = (s.length : Int) + 1 := by have := hp.1; simpa using this
  have h2 : hI h 213 s.length = v := by have := hp.2 0 (by simp); simpa using this
  have hw : w32 ((s.length : Int) + 1 - 1) = s.length := by rw [w32_i (by omega) (by omega)]; omega
  have hlt : (s.length : Int) < 64 := by omega
  have hpos : (0 : Int) < (s.length : Int) + 1 := by omega
  simp only [rX0_pop_0, rX0_pop_1, rX0_pop_4, rX0_pop_7, rX0_pop_8, rX0_pop_9, rX0_pop_10, rX0_pop_11, rX0_pop_14, rX0_pop_15, rX0_pop_16, rX0_pop_19, rX0_pop_20, rX0_pop_23, rX0_pop_24, rX0_pop_27, rX0_pop_28, hN_wI, hN_wJ, hN_wR, hS_wI, hS_wJ, hS_wR, hK_wI, hK_wJ, hK_wR, hI_wI, hI_wJ, hI_wR, hJ_wI, hJ_wJ, hJ_wR, hR_wI, hR_wJ, hR_wR, hN_nw, hS_nw, hK_nw, hI_nw, hJ_nw, hR_nw, psh_some, psh_none, k1, k3, r2, h1, hw]
  simp [hlt, hpos, h2]
theorem Pl_push {h : Hp} {s : List Int} {v : Int} (hp : Pl h s) : Pl (wI (wI h 213 s.length v) 211 2 (s.length + 1)) (v :: s) := by
  refine ⟨by simp [hI_wI], fun i hi => ?_⟩
  have hi' : i < s.length + 1 := by simpa using hi
  simp only [hI_wI, List.length_cons]
  cases i with
  | zero => simp
  | succ i =>
    have := hp.2 i (by omega)
    rw [if_neg (by omega), if_neg (by omega)]
    rw [show s.length + 1 - 1 - (i + 1) = s.length - 1 - i by omega, this]
    simp
theorem Pl_pop {h : Hp} {s : List Int} {v : Int} (hp : Pl h (v :: s)) : Pl (wI h 211 2 s.length) s := by
  refine ⟨by simp [hI_wI], fun i hi => ?_⟩
  have := hp.2 (i + 1) (by simp; omega)
  simp only [hI_wI]
  rw [if_neg (by omega)]
  simp only [List.length_cons] at this
  rw [show s.length + 1 - 1 - (i + 1) = s.length - 1 - i by omega] at this
  simpa using this
