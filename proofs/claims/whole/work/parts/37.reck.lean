theorem w32_la {l : Nat} (c : Int) (n : Nat) (h : c + (l : Int) = (n : Int)) (hn : n < 2147483648) : w32 (c + (l : Int)) = (n : Int) := by
  rw [h, w32_i (by omega) (by omega)]
theorem w32_al {l : Nat} (c : Int) (n : Nat) (h : (l : Int) + c = (n : Int)) (hn : n < 2147483648) : w32 ((l : Int) + c) = (n : Int) := by
  rw [h, w32_i (by omega) (by omega)]
theorem w32_sl {l : Nat} (c : Int) (n : Nat) (h : (l : Int) - c = (n : Int)) (hn : n < 2147483648) : w32 ((l : Int) - c) = (n : Int) := by
  rw [h, w32_i (by omega) (by omega)]
theorem w32_ll {l m : Nat} (h : l + m < 2147483648) : w32 ((l : Int) + (m : Int)) = ((l + m : Nat) : Int) := by
  rw [w32_i (by omega) (by omega)]; omega
theorem S_between {d : Nat} {h : Hp} {Q : Option PV → Hp → Prop} {c l r : Int} (hc : 3000 ≤ c ∧ c ≤ 3005 ∨ c = 3007 ∨ c = 3008) (hl : -1000000 ≤ l ∧ l ≤ 1000000) (hr : -1000000 ≤ r ∧ r ≤ 1000000) : WP d mX12_between 0 [some (.inl c), some (.inl l), some (.inl r), none, none] [] h Q = Q (some (.inl (bin c l r))) h := by
  have m1 : l * r ≤ 1000000000000 := by
    have := Int.mul_le_mul_of_natAbs_le (x := l) (y := r) (s := 1000000) (t := 1000000) (by omega) (by omega)
    omega
  have m2 : -1000000000000 ≤ l * r := by
    have := Int.mul_le_mul_of_natAbs_le (x := -l) (y := r) (s := 1000000) (t := 1000000) (by omega) (by omega)
    rw [Int.neg_mul] at this
    omega
  have e1 : w64 (l + r) = l + r := w64_i (by omega) (by omega)
  have e2 : w64 (l - r) = l - r := w64_i (by omega) (by omega)
  have e3 : w64 (l * r) = l * r := w64_i (by omega) (by omega)
  have cl : ∀ v : Int, (if 1000000 < v then Q (some (.inl (w32 1000000))) h else if v < -1000000 then Q (some (.inl (w32 (-1000000)))) h else Q (some (.inl (w32 v))) h) = Q (some (.inl (clampI v (-1000000) 1000000))) h := by
    intro v
    unfold clampI
    by_cases h1 : 1000000 < v
    · rw [if_pos h1, if_neg (by omega), if_pos h1]; rfl
    · rw [if_neg h1]
      by_cases h2 : v < -1000000
      · rw [if_pos h2, if_pos h2]; rfl
      · rw [if_neg h2, if_neg h2, if_neg h1, w32_i (by omega) (by omega)]
  have hcs : c = 3000 ∨ c = 3001 ∨ c = 3002 ∨ c = 3003 ∨ c = 3004 ∨ c = 3005 ∨ c = 3007 ∨ c = 3008 := by omega
  rcases hcs with rfl | rfl | rfl | rfl | rfl | rfl | rfl | rfl
  · simp only [rX12_between_0, rX12_between_1, show tabT 1 80 3003 3008 [39, 50, 61, 80, 72, 76] 3000 = 81 from rfl, rX12_between_81, rX12_between_82, rX12_between_85, rX12_between_88, rX12_between_89, rX12_between_90, rX12_between_91, rX12_between_92, rX12_between_93, rX12_between_96, rX12_between_97, rX12_between_100, rX12_between_103, rX12_between_104, rX12_between_105, rX12_between_106, rX12_between_107, rX12_between_108, rX12_between_111, rX12_between_112, rX12_between_113, rX12_between_114, rX12_between_115, rX12_between_116, rX12_between_117, rX12_between_118, rX12_between_121, rX12_between_122, rX12_between_125, rX12_between_128, rX12_between_131, rX12_between_132, rX12_between_135, rX12_between_136, rX12_between_139, rX12_between_142, rX12_between_145, rX12_between_146, rX12_between_147, e1, lcm_pos, lcm_neg, Int.toNat_natCast, Int.natCast_nonneg, true_and, and_true, and_self, if_true, if_false, or_true, true_or, or_false, false_or, ne_eq, not_true_eq_false, not_false_eq_true, Nat.reduceLeDiff, Nat.reduceEqDiff, Nat.reduceLT, Nat.reduceAdd, Nat.reduceMul, Nat.reduceSub, Int.reduceLT, Int.reduceLE, Int.reduceEq, Int.reduceToNat, Int.reduceAdd, Int.reduceSub, Int.reduceMul, Int.reduceNeg, Int.cast_ofNat_Int, false_and, and_false, cl]
    simp [bin]
  · simp only [rX12_between_0, rX12_between_1, show tabT 1 80 3003 3008 [39, 50, 61, 80, 72, 76] 3001 = 81 from rfl, rX12_between_81, rX12_between_82, rX12_between_85, rX12_between_88, rX12_between_89, rX12_between_90, rX12_between_91, rX12_between_92, rX12_between_93, rX12_between_96, rX12_between_97, rX12_between_100, rX12_between_103, rX12_between_104, rX12_between_105, rX12_between_106, rX12_between_107, rX12_between_108, rX12_between_111, rX12_between_112, rX12_between_113, rX12_between_114, rX12_between_115, rX12_between_116, rX12_between_117, rX12_between_118, rX12_between_121, rX12_between_122, rX12_between_125, rX12_between_128, rX12_between_131, rX12_between_132, rX12_between_135, rX12_between_136, rX12_between_139, rX12_between_142, rX12_between_145, rX12_between_146, rX12_between_147, e2, lcm_pos, lcm_neg, Int.toNat_natCast, Int.natCast_nonneg, true_and, and_true, and_self, if_true, if_false, or_true, true_or, or_false, false_or, ne_eq, not_true_eq_false, not_false_eq_true, Nat.reduceLeDiff, Nat.reduceEqDiff, Nat.reduceLT, Nat.reduceAdd, Nat.reduceMul, Nat.reduceSub, Int.reduceLT, Int.reduceLE, Int.reduceEq, Int.reduceToNat, Int.reduceAdd, Int.reduceSub, Int.reduceMul, Int.reduceNeg, Int.cast_ofNat_Int, false_and, and_false, cl]
    simp [bin]
  · simp only [rX12_between_0, rX12_between_1, show tabT 1 80 3003 3008 [39, 50, 61, 80, 72, 76] 3002 = 81 from rfl, rX12_between_81, rX12_between_82, rX12_between_85, rX12_between_88, rX12_between_89, rX12_between_90, rX12_between_91, rX12_between_92, rX12_between_93, rX12_between_96, rX12_between_97, rX12_between_100, rX12_between_103, rX12_between_104, rX12_between_105, rX12_between_106, rX12_between_107, rX12_between_108, rX12_between_111, rX12_between_112, rX12_between_113, rX12_between_114, rX12_between_115, rX12_between_116, rX12_between_117, rX12_between_118, rX12_between_121, rX12_between_122, rX12_between_125, rX12_between_128, rX12_between_131, rX12_between_132, rX12_between_135, rX12_between_136, rX12_between_139, rX12_between_142, rX12_between_145, rX12_between_146, rX12_between_147, e3, lcm_pos, lcm_neg, Int.toNat_natCast, Int.natCast_nonneg, true_and, and_true, and_self, if_true, if_false, or_true, true_or, or_false, false_or, ne_eq, not_true_eq_false, not_false_eq_true, Nat.reduceLeDiff, Nat.reduceEqDiff, Nat.reduceLT, Nat.reduceAdd, Nat.reduceMul, Nat.reduceSub, Int.reduceLT, Int.reduceLE, Int.reduceEq, Int.reduceToNat, Int.reduceAdd, Int.reduceSub, Int.reduceMul, Int.reduceNeg, Int.cast_ofNat_Int, false_and, and_false, cl]
    simp [bin]
  · simp only [rX12_between_0, rX12_between_1, show tabT 1 80 3003 3008 [39, 50, 61, 80, 72, 76] 3003 = 40 from rfl, rX12_between_40, rX12_between_41, rX12_between_42, rX12_between_45, rX12_between_46, rX12_between_49, rX12_between_50, rX12_between_51, rX12_between_52, rX12_between_53, rX12_between_56, rX12_between_57, rX12_between_60, rX12_between_61, rX12_between_62, rX12_between_63, rX12_between_64, rX12_between_67, rX12_between_68, rX12_between_71, rX12_between_72, rX12_between_73, rX12_between_74, rX12_between_75, rX12_between_76, rX12_between_77, rX12_between_78, rX12_between_79, rX12_between_80]
    by_cases hlr : l = r <;> simp [bin, hlr]
  · simp only [rX12_between_0, rX12_between_1, show tabT 1 80 3003 3008 [39, 50, 61, 80, 72, 76] 3004 = 51 from rfl, rX12_between_40, rX12_between_41, rX12_between_42, rX12_between_45, rX12_between_46, rX12_between_49, rX12_between_50, rX12_between_51, rX12_between_52, rX12_between_53, rX12_between_56, rX12_between_57, rX12_between_60, rX12_between_61, rX12_between_62, rX12_between_63, rX12_between_64, rX12_between_67, rX12_between_68, rX12_between_71, rX12_between_72, rX12_between_73, rX12_between_74, rX12_between_75, rX12_between_76, rX12_between_77, rX12_between_78, rX12_between_79, rX12_between_80]
    by_cases hlr : l < r <;> simp [bin, hlr]
  · simp only [rX12_between_0, rX12_between_1, show tabT 1 80 3003 3008 [39, 50, 61, 80, 72, 76] 3005 = 62 from rfl, rX12_between_40, rX12_between_41, rX12_between_42, rX12_between_45, rX12_between_46, rX12_between_49, rX12_between_50, rX12_between_51, rX12_between_52, rX12_between_53, rX12_between_56, rX12_between_57, rX12_between_60, rX12_between_61, rX12_between_62, rX12_between_63, rX12_between_64, rX12_between_67, rX12_between_68, rX12_between_71, rX12_between_72, rX12_between_73, rX12_between_74, rX12_between_75, rX12_between_76, rX12_between_77, rX12_between_78, rX12_between_79, rX12_between_80]
    by_cases hlr : r < l <;> simp [bin, hlr]
  · simp only [rX12_between_0, rX12_between_1, show tabT 1 80 3003 3008 [39, 50, 61, 80, 72, 76] 3007 = 73 from rfl, rX12_between_40, rX12_between_41, rX12_between_42, rX12_between_45, rX12_between_46, rX12_between_49, rX12_between_50, rX12_between_51, rX12_between_52, rX12_between_53, rX12_between_56, rX12_between_57, rX12_between_60, rX12_between_61, rX12_between_62, rX12_between_63, rX12_between_64, rX12_between_67, rX12_between_68, rX12_between_71, rX12_between_72, rX12_between_73, rX12_between_74, rX12_between_75, rX12_between_76, rX12_between_77, rX12_between_78, rX12_between_79, rX12_between_80]
    simp [bin]
  · simp only [rX12_between_0, rX12_between_1, show tabT 1 80 3003 3008 [39, 50, 61, 80, 72, 76] 3008 = 77 from rfl, rX12_between_40, rX12_between_41, rX12_between_42, rX12_between_45, rX12_between_46, rX12_between_49, rX12_between_50, rX12_between_51, rX12_between_52, rX12_between_53, rX12_between_56, rX12_between_57, rX12_between_60, rX12_between_61, rX12_between_62, rX12_between_63, rX12_between_64, rX12_between_67, rX12_between_68, rX12_between_71, rX12_between_72, rX12_between_73, rX12_between_74, rX12_between_75, rX12_between_76, rX12_between_77, rX12_between_78, rX12_between_79, rX12_between_80]
    simp [bin]
/-- the reference's pile, the last first -/
def PlM (h : Hp) (s : List Int) : Prop := ∀ i, i < s.length → hI h 299 (s.length - 1 - i) = s.getD i 0
theorem PlM_put {h : Hp} {s : List Int} {v : Int} (hp : PlM h s) : PlM (wI h 299 s.length v) (v :: s) := by
  intro i hi
  have hi' : i < s.length + 1 := by simpa using hi
  simp only [hI_wI, List.length_cons]
  cases i with
  | zero => simp
  | succ i =>
    have := hp i (by omega)
    rw [if_neg (by omega)]
    rw [show s.length + 1 - 1 - (i + 1) = s.length - 1 - i by omega, this]
    simp
theorem PlM_pop {h : Hp} {s : List Int} {v : Int} (hp : PlM h (v :: s)) : PlM h s ∧ hI h 299 s.length = v := by
  refine ⟨fun i hi => ?_, ?_⟩
  · have := hp (i + 1) (by simp; omega)
    simp only [List.length_cons] at this
    rw [show s.length + 1 - 1 - (i + 1) = s.length - 1 - i by omega] at this
    simpa using this
  · have := hp 0 (by simp)
    simpa using this
def rP (a _k : Nat) : Prop := a = 299
def RkC (h : Hp) (l w fr : Nat) (cs : List Int) (env : Nat → Int) : Prop := MdOk h ∧ hI h 295 (7 + l) = (cs.length : Int) ∧ hI h 295 (5 + l) = (fr : Int) ∧ fr + cs.length ≤ 900 ∧ (∀ j, j < cs.length → hI h 295 (189 + fr + j) = cs.getD j 0) ∧ ∀ j, j < w → hI h 300 j = env j
theorem RkC.fr {h h' : Hp} {l w fr : Nat} {cs : List Int} {env : Nat → Int} (f : Fp rP h h') (x : RkC h l w fr cs env) : RkC h' l w fr cs env := by
  obtain ⟨x1, x2, x3, x4, x5, x6⟩ := x
  refine ⟨x1.fr f, by rw [f.I (by unfold rP; omega)]; exact x2, by rw [f.I (by unfold rP; omega)]; exact x3, x4, fun j hj => ?_, fun j hj => ?_⟩
  · rw [f.I (by unfold rP; omega)]; exact x5 j hj
  · rw [f.I (by unfold rP; omega)]; exact x6 j hj
theorem reck_step {d : Nat} {Q : Option PV → Hp → Prop} {l w fr i : Nat} {c : Int} {cs : List Int} {env : Nat → Int} (hw : w ≤ 6) (hl2 : l < 2) {h : Hp} {s : List Int} {ts ts' : List Bool} {x4 : Option PV} (hi : i < cs.length) (hc : cs.getD i 0 = c) (L : RkC h l w fr cs env) (hp : PlM h s) (hv : VM ts s) (hlen : ts.length ≤ 64) (ht : tstep w c ts = some ts')
    (k : ∀ h' y4, Fp rP h h' → PlM h' (cstep env c s) → WP (d + 1) mX12_reckons 4 [some (.inr (.inr 294)), some (.inl (l : Int)), some (.inl ((cstep env c s).length : Int)), some (.inl ((i + 1 : Nat) : Int)), y4] [] h' Q) :
    WP (d + 1) mX12_reckons 4 [some (.inr (.inr 294)), some (.inl (l : Int)), some (.inl (s.length : Int)), some (.inl (i : Int)), x4] [] h Q := by
  obtain ⟨m, x2, x3, x4', x5, x6⟩ := id L
  have hlaw : hI h 295 (189 + fr + i) = c := by rw [x5 i hi, hc]
  have hlt : (i : Int) < (cs.length : Int) := by omega
  have hsl := VM_len hv
  have b1 : ((7 + l : Nat) : Int) < 3267 := by omega
  have b2 : ((5 + l : Nat) : Int) < 3267 := by omega
  have b3 : ((189 + fr + i : Nat) : Int) < 3267 := by omega
  rcases tstep_cases hw ht with ⟨c0, c1, tl, rfl⟩ | ⟨b, b2', t, hcc, rfl, rfl⟩ | ⟨t, rfl, rfl, rfl⟩ | ⟨t, rfl, rfl, rfl⟩
  · have q1 : c < 3000 := by omega
    have b4 : (s.length : Int) < 900 := by omega
    by_cases hc1 : c < 1000
    · have ec : cstep env c s = c :: s := by unfold cstep; rw [if_pos hc1]
      rw [rX12_reckons_4]
      simp only [rX12_reckons_5, rX12_reckons_6, rX12_reckons_9, rX12_reckons_11, rX12_reckons_12, rX12_reckons_13, rX12_reckons_14, rX12_reckons_17, rX12_reckons_18, rX12_reckons_21, rX12_reckons_24, rX12_reckons_25, rX12_reckons_28, rX12_reckons_29, rX12_reckons_30, rX12_reckons_31, rX12_reckons_32, rX12_reckons_33, rX12_reckons_34, rX12_reckons_35, rX12_reckons_36, rX12_reckons_38, rX12_reckons_40, rX12_reckons_43, rX12_reckons_46, rX12_reckons_47, rX12_reckons_50, rX12_reckons_51, rX12_reckons_53, rX12_reckons_56, rX12_reckons_59, rX12_reckons_61, rX12_reckons_64, rX12_reckons_65, rX12_reckons_68, rX12_reckons_70, rX12_reckons_73, rX12_reckons_74, rX12_reckons_75, rX12_reckons_76, rX12_reckons_79, rX12_reckons_82, rX12_reckons_84, rX12_reckons_87, rX12_reckons_90, rX12_reckons_91, rX12_reckons_94, rX12_reckons_95, rX12_reckons_96, rX12_reckons_97, rX12_reckons_98, rX12_reckons_99, rX12_reckons_102, rX12_reckons_103, rX12_reckons_104, rX12_reckons_105, rX12_reckons_106, rX12_reckons_107, rX12_reckons_108, rX12_reckons_111, rX12_reckons_113, rX12_reckons_116, rX12_reckons_119, rX12_reckons_122, rX12_reckons_123, rX12_reckons_126, rX12_reckons_127, rX12_reckons_128, rX12_reckons_129, rX12_reckons_130, rX12_reckons_133, rX12_reckons_134, rX12_reckons_135, rX12_reckons_136, rX12_reckons_137, rX12_reckons_138, rX12_reckons_141, rX12_reckons_142, rX12_reckons_145, rX12_reckons_146, rX12_reckons_147, rX12_reckons_150, rX12_reckons_151, rX12_reckons_154, rX12_reckons_155, rX12_reckons_156, rX12_reckons_157, rX12_reckons_158, rX12_reckons_159, rX12_reckons_162, rX12_reckons_165, rX12_reckons_166, rX12_reckons_169, rX12_reckons_170, rX12_reckons_171, rX12_reckons_172, rX12_reckons_174, rX12_reckons_175, rX12_reckons_178, rX12_reckons_179, rX12_reckons_180, rX12_reckons_181, rX12_reckons_182, rX12_reckons_183, rX12_reckons_186, rX12_reckons_187, rX12_reckons_188, rX12_reckons_191, rX12_reckons_192, rX12_reckons_195, Int.toNat_natCast, Int.natCast_nonneg, true_and, and_true, and_self, if_true, if_false, or_true, true_or, or_false, false_or, ne_eq, not_true_eq_false, not_false_eq_true, Nat.reduceLeDiff, Nat.reduceEqDiff, Nat.reduceLT, Nat.reduceAdd, Nat.reduceMul, Nat.reduceSub, Int.reduceLT, Int.reduceLE, Int.reduceEq, Int.reduceToNat, Int.reduceAdd, Int.reduceSub, Int.reduceMul, Int.reduceNeg, Int.cast_ofNat_Int, false_and, and_false, Md_K280 m, Md_R281 m, Md_K281 m, Md_R282 m, Md_K282 m, Md_R283 m, Md_K283 m, Md_R284 m, Md_K284 m, Md_R285 m, Md_K285 m, Md_R286 m, Md_K286 m, Md_R287 m, Md_K287 m, Md_R288 m, Md_K288 m, Md_R289 m, Md_K289 m, Md_R290 m, Md_K290 m, Md_R291 m, Md_K291 m, Md_R292 m, Md_K292 m, Md_R293 m, Md_K293 m, Md_R294 m, Md_K294 m, Md_R295 m, Md_K295 m, Md_R296 m, Md_K296 m, Md_R297 m, Md_K297 m, Md_R298 m, Md_K298 m, Md_R299 m, Md_K299 m, w32_la (l := l) 7 (7 + l) (by omega) (by omega), w32_la (l := l) 5 (5 + l) (by omega) (by omega), w32_la (l := fr) 189 (189 + fr) (by omega) (by omega), w32_ll (l := 189 + fr) (m := i) (by omega), b1, b2, b3, b4, x2, x3, hlt, hlaw, q1, hc1, w32_s (i := i) (by omega), w32_s (i := s.length) (by omega)]
      have := k (wI h 299 s.length c) (some (.inl c)) ((Fp.refl rP h).wI rfl c) (by rw [ec]; exact PlM_put hp)
      rw [ec] at this
      exact this
    · obtain ⟨n, rfl⟩ : ∃ n : Nat, c = ((n + 1000 : Nat) : Int) := ⟨(c - 1000).toNat, by omega⟩
      have ec : cstep env ((n + 1000 : Nat) : Int) s = env n :: s := by unfold cstep; rw [if_neg hc1, if_pos (by omega), show (((n + 1000 : Nat) : Int) - 1000).toNat = n by omega]
      have n6 : (n : Int) < 6 := by omega
      have kn := x6 n (by omega)
      rw [rX12_reckons_4]
      simp only [rX12_reckons_5, rX12_reckons_6, rX12_reckons_9, rX12_reckons_11, rX12_reckons_12, rX12_reckons_13, rX12_reckons_14, rX12_reckons_17, rX12_reckons_18, rX12_reckons_21, rX12_reckons_24, rX12_reckons_25, rX12_reckons_28, rX12_reckons_29, rX12_reckons_30, rX12_reckons_31, rX12_reckons_32, rX12_reckons_33, rX12_reckons_34, rX12_reckons_35, rX12_reckons_36, rX12_reckons_38, rX12_reckons_40, rX12_reckons_43, rX12_reckons_46, rX12_reckons_47, rX12_reckons_50, rX12_reckons_51, rX12_reckons_53, rX12_reckons_56, rX12_reckons_59, rX12_reckons_61, rX12_reckons_64, rX12_reckons_65, rX12_reckons_68, rX12_reckons_70, rX12_reckons_73, rX12_reckons_74, rX12_reckons_75, rX12_reckons_76, rX12_reckons_79, rX12_reckons_82, rX12_reckons_84, rX12_reckons_87, rX12_reckons_90, rX12_reckons_91, rX12_reckons_94, rX12_reckons_95, rX12_reckons_96, rX12_reckons_97, rX12_reckons_98, rX12_reckons_99, rX12_reckons_102, rX12_reckons_103, rX12_reckons_104, rX12_reckons_105, rX12_reckons_106, rX12_reckons_107, rX12_reckons_108, rX12_reckons_111, rX12_reckons_113, rX12_reckons_116, rX12_reckons_119, rX12_reckons_122, rX12_reckons_123, rX12_reckons_126, rX12_reckons_127, rX12_reckons_128, rX12_reckons_129, rX12_reckons_130, rX12_reckons_133, rX12_reckons_134, rX12_reckons_135, rX12_reckons_136, rX12_reckons_137, rX12_reckons_138, rX12_reckons_141, rX12_reckons_142, rX12_reckons_145, rX12_reckons_146, rX12_reckons_147, rX12_reckons_150, rX12_reckons_151, rX12_reckons_154, rX12_reckons_155, rX12_reckons_156, rX12_reckons_157, rX12_reckons_158, rX12_reckons_159, rX12_reckons_162, rX12_reckons_165, rX12_reckons_166, rX12_reckons_169, rX12_reckons_170, rX12_reckons_171, rX12_reckons_172, rX12_reckons_174, rX12_reckons_175, rX12_reckons_178, rX12_reckons_179, rX12_reckons_180, rX12_reckons_181, rX12_reckons_182, rX12_reckons_183, rX12_reckons_186, rX12_reckons_187, rX12_reckons_188, rX12_reckons_191, rX12_reckons_192, rX12_reckons_195, Int.toNat_natCast, Int.natCast_nonneg, true_and, and_true, and_self, if_true, if_false, or_true, true_or, or_false, false_or, ne_eq, not_true_eq_false, not_false_eq_true, Nat.reduceLeDiff, Nat.reduceEqDiff, Nat.reduceLT, Nat.reduceAdd, Nat.reduceMul, Nat.reduceSub, Int.reduceLT, Int.reduceLE, Int.reduceEq, Int.reduceToNat, Int.reduceAdd, Int.reduceSub, Int.reduceMul, Int.reduceNeg, Int.cast_ofNat_Int, false_and, and_false, Md_K280 m, Md_R281 m, Md_K281 m, Md_R282 m, Md_K282 m, Md_R283 m, Md_K283 m, Md_R284 m, Md_K284 m, Md_R285 m, Md_K285 m, Md_R286 m, Md_K286 m, Md_R287 m, Md_K287 m, Md_R288 m, Md_K288 m, Md_R289 m, Md_K289 m, Md_R290 m, Md_K290 m, Md_R291 m, Md_K291 m, Md_R292 m, Md_K292 m, Md_R293 m, Md_K293 m, Md_R294 m, Md_K294 m, Md_R295 m, Md_K295 m, Md_R296 m, Md_K296 m, Md_R297 m, Md_K297 m, Md_R298 m, Md_K298 m, Md_R299 m, Md_K299 m, w32_la (l := l) 7 (7 + l) (by omega) (by omega), w32_la (l := l) 5 (5 + l) (by omega) (by omega), w32_la (l := fr) 189 (189 + fr) (by omega) (by omega), w32_ll (l := 189 + fr) (m := i) (by omega), b1, b2, b3, b4, x2, x3, hlt, hlaw, q1, hc1, w32_s (i := i) (by omega), w32_s (i := s.length) (by omega), w32_sl (l := n + 1000) 1000 n (by omega) (by omega), n6, kn]
      have := k (wI h 299 s.length (env n)) (some (.inl ((n + 1000 : Nat) : Int))) ((Fp.refl rP h).wI rfl _) (by rw [ec]; exact PlM_put hp)
      rw [ec] at this
      exact this
  · obtain ⟨r, s1, rfl, hr, hv1⟩ := VM1 hv
    obtain ⟨l', s2, rfl, hl, hv2⟩ := VM1 hv1
    have ec : cstep env c (r :: l' :: s2) = bin c l' r :: s2 := by
      unfold cstep
      rw [if_neg (by omega), if_neg (by omega), if_neg (by omega), if_neg (by omega)]
      simp
    simp only [List.length_cons] at hlen hsl
    obtain ⟨p1, v1⟩ := PlM_pop hp
    obtain ⟨p2, v2⟩ := PlM_pop p1
    simp only [List.length_cons] at v1
    have q1 : ¬ (c < 3000) := by omega
    have q2 : ¬ (c = 3006) := by omega
    have q3 : ¬ (c = 3009) := by omega
    have b4 : (s2.length : Int) < 900 := by omega
    have b5 : ((s2.length + 1 : Nat) : Int) < 900 := by omega
    rw [rX12_reckons_4]
    simp only [rX12_reckons_5, rX12_reckons_6, rX12_reckons_9, rX12_reckons_11, rX12_reckons_12, rX12_reckons_13, rX12_reckons_14, rX12_reckons_17, rX12_reckons_18, rX12_reckons_21, rX12_reckons_24, rX12_reckons_25, rX12_reckons_28, rX12_reckons_29, rX12_reckons_30, rX12_reckons_31, rX12_reckons_32, rX12_reckons_33, rX12_reckons_34, rX12_reckons_35, rX12_reckons_36, rX12_reckons_38, rX12_reckons_40, rX12_reckons_43, rX12_reckons_46, rX12_reckons_47, rX12_reckons_50, rX12_reckons_51, rX12_reckons_53, rX12_reckons_56, rX12_reckons_59, rX12_reckons_61, rX12_reckons_64, rX12_reckons_65, rX12_reckons_68, rX12_reckons_70, rX12_reckons_73, rX12_reckons_74, rX12_reckons_75, rX12_reckons_76, rX12_reckons_79, rX12_reckons_82, rX12_reckons_84, rX12_reckons_87, rX12_reckons_90, rX12_reckons_91, rX12_reckons_94, rX12_reckons_95, rX12_reckons_96, rX12_reckons_97, rX12_reckons_98, rX12_reckons_99, rX12_reckons_102, rX12_reckons_103, rX12_reckons_104, rX12_reckons_105, rX12_reckons_106, rX12_reckons_107, rX12_reckons_108, rX12_reckons_111, rX12_reckons_113, rX12_reckons_116, rX12_reckons_119, rX12_reckons_122, rX12_reckons_123, rX12_reckons_126, rX12_reckons_127, rX12_reckons_128, rX12_reckons_129, rX12_reckons_130, rX12_reckons_133, rX12_reckons_134, rX12_reckons_135, rX12_reckons_136, rX12_reckons_137, rX12_reckons_138, rX12_reckons_141, rX12_reckons_142, rX12_reckons_145, rX12_reckons_146, rX12_reckons_147, rX12_reckons_150, rX12_reckons_151, rX12_reckons_154, rX12_reckons_155, rX12_reckons_156, rX12_reckons_157, rX12_reckons_158, rX12_reckons_159, rX12_reckons_162, rX12_reckons_165, rX12_reckons_166, rX12_reckons_169, rX12_reckons_170, rX12_reckons_171, rX12_reckons_172, rX12_reckons_174, rX12_reckons_175, rX12_reckons_178, rX12_reckons_179, rX12_reckons_180, rX12_reckons_181, rX12_reckons_182, rX12_reckons_183, rX12_reckons_186, rX12_reckons_187, rX12_reckons_188, rX12_reckons_191, rX12_reckons_192, rX12_reckons_195, Int.toNat_natCast, Int.natCast_nonneg, true_and, and_true, and_self, if_true, if_false, or_true, true_or, or_false, false_or, ne_eq, not_true_eq_false, not_false_eq_true, Nat.reduceLeDiff, Nat.reduceEqDiff, Nat.reduceLT, Nat.reduceAdd, Nat.reduceMul, Nat.reduceSub, Int.reduceLT, Int.reduceLE, Int.reduceEq, Int.reduceToNat, Int.reduceAdd, Int.reduceSub, Int.reduceMul, Int.reduceNeg, Int.cast_ofNat_Int, false_and, and_false, Md_K280 m, Md_R281 m, Md_K281 m, Md_R282 m, Md_K282 m, Md_R283 m, Md_K283 m, Md_R284 m, Md_K284 m, Md_R285 m, Md_K285 m, Md_R286 m, Md_K286 m, Md_R287 m, Md_K287 m, Md_R288 m, Md_K288 m, Md_R289 m, Md_K289 m, Md_R290 m, Md_K290 m, Md_R291 m, Md_K291 m, Md_R292 m, Md_K292 m, Md_R293 m, Md_K293 m, Md_R294 m, Md_K294 m, Md_R295 m, Md_K295 m, Md_R296 m, Md_K296 m, Md_R297 m, Md_K297 m, Md_R298 m, Md_K298 m, Md_R299 m, Md_K299 m, w32_la (l := l) 7 (7 + l) (by omega) (by omega), w32_la (l := l) 5 (5 + l) (by omega) (by omega), w32_la (l := fr) 189 (189 + fr) (by omega) (by omega), w32_ll (l := 189 + fr) (m := i) (by omega), b1, b2, b3, x2, x3, hlt, hlaw, q1, q2, q3, w32_s (i := i) (by omega), List.length_cons, w32_al (l := s2.length + 1 + 1) (-1) (s2.length + 1) (by omega) (by omega), w32_sl (l := s2.length + 1) 1 s2.length (by omega) (by omega), b4, b5, v1, v2, S_between hcc ⟨hl.1, hl.2.1⟩ ⟨hr.1, hr.2.1⟩, psh_some]
    have := k (wI h 299 s2.length (bin c l' r)) (some (.inl c)) ((Fp.refl rP h).wI rfl _) (by rw [ec]; exact PlM_put p2)
    rw [ec] at this
    exact this
  · obtain ⟨r, s1, rfl, hr, hv1⟩ := VM1 hv
    have ec : cstep env 3006 (r :: s1) = (1 - r) :: s1 := by
      unfold cstep
      rw [if_neg (by omega), if_neg (by omega), if_pos rfl]
      simp
    simp only [List.length_cons] at hlen hsl
    obtain ⟨p1, v1⟩ := PlM_pop hp
    have b4 : (s1.length : Int) < 900 := by omega
    have := hr.1
    have := hr.2.1
    rw [rX12_reckons_4]
    simp only [rX12_reckons_5, rX12_reckons_6, rX12_reckons_9, rX12_reckons_11, rX12_reckons_12, rX12_reckons_13, rX12_reckons_14, rX12_reckons_17, rX12_reckons_18, rX12_reckons_21, rX12_reckons_24, rX12_reckons_25, rX12_reckons_28, rX12_reckons_29, rX12_reckons_30, rX12_reckons_31, rX12_reckons_32, rX12_reckons_33, rX12_reckons_34, rX12_reckons_35, rX12_reckons_36, rX12_reckons_38, rX12_reckons_40, rX12_reckons_43, rX12_reckons_46, rX12_reckons_47, rX12_reckons_50, rX12_reckons_51, rX12_reckons_53, rX12_reckons_56, rX12_reckons_59, rX12_reckons_61, rX12_reckons_64, rX12_reckons_65, rX12_reckons_68, rX12_reckons_70, rX12_reckons_73, rX12_reckons_74, rX12_reckons_75, rX12_reckons_76, rX12_reckons_79, rX12_reckons_82, rX12_reckons_84, rX12_reckons_87, rX12_reckons_90, rX12_reckons_91, rX12_reckons_94, rX12_reckons_95, rX12_reckons_96, rX12_reckons_97, rX12_reckons_98, rX12_reckons_99, rX12_reckons_102, rX12_reckons_103, rX12_reckons_104, rX12_reckons_105, rX12_reckons_106, rX12_reckons_107, rX12_reckons_108, rX12_reckons_111, rX12_reckons_113, rX12_reckons_116, rX12_reckons_119, rX12_reckons_122, rX12_reckons_123, rX12_reckons_126, rX12_reckons_127, rX12_reckons_128, rX12_reckons_129, rX12_reckons_130, rX12_reckons_133, rX12_reckons_134, rX12_reckons_135, rX12_reckons_136, rX12_reckons_137, rX12_reckons_138, rX12_reckons_141, rX12_reckons_142, rX12_reckons_145, rX12_reckons_146, rX12_reckons_147, rX12_reckons_150, rX12_reckons_151, rX12_reckons_154, rX12_reckons_155, rX12_reckons_156, rX12_reckons_157, rX12_reckons_158, rX12_reckons_159, rX12_reckons_162, rX12_reckons_165, rX12_reckons_166, rX12_reckons_169, rX12_reckons_170, rX12_reckons_171, rX12_reckons_172, rX12_reckons_174, rX12_reckons_175, rX12_reckons_178, rX12_reckons_179, rX12_reckons_180, rX12_reckons_181, rX12_reckons_182, rX12_reckons_183, rX12_reckons_186, rX12_reckons_187, rX12_reckons_188, rX12_reckons_191, rX12_reckons_192, rX12_reckons_195, Int.toNat_natCast, Int.natCast_nonneg, true_and, and_true, and_self, if_true, if_false, or_true, true_or, or_false, false_or, ne_eq, not_true_eq_false, not_false_eq_true, Nat.reduceLeDiff, Nat.reduceEqDiff, Nat.reduceLT, Nat.reduceAdd, Nat.reduceMul, Nat.reduceSub, Int.reduceLT, Int.reduceLE, Int.reduceEq, Int.reduceToNat, Int.reduceAdd, Int.reduceSub, Int.reduceMul, Int.reduceNeg, Int.cast_ofNat_Int, false_and, and_false, Md_K280 m, Md_R281 m, Md_K281 m, Md_R282 m, Md_K282 m, Md_R283 m, Md_K283 m, Md_R284 m, Md_K284 m, Md_R285 m, Md_K285 m, Md_R286 m, Md_K286 m, Md_R287 m, Md_K287 m, Md_R288 m, Md_K288 m, Md_R289 m, Md_K289 m, Md_R290 m, Md_K290 m, Md_R291 m, Md_K291 m, Md_R292 m, Md_K292 m, Md_R293 m, Md_K293 m, Md_R294 m, Md_K294 m, Md_R295 m, Md_K295 m, Md_R296 m, Md_K296 m, Md_R297 m, Md_K297 m, Md_R298 m, Md_K298 m, Md_R299 m, Md_K299 m, w32_la (l := l) 7 (7 + l) (by omega) (by omega), w32_la (l := l) 5 (5 + l) (by omega) (by omega), w32_la (l := fr) 189 (189 + fr) (by omega) (by omega), w32_ll (l := 189 + fr) (m := i) (by omega), b1, b2, b3, x2, x3, hlt, hlaw, w32_s (i := i) (by omega), List.length_cons, w32_sl (l := s1.length + 1) 1 s1.length (by omega) (by omega), b4, v1, w32_i (z := 1 - r) (by omega) (by omega)]
    have := k (wI h 299 s1.length (1 - r)) (some (.inl 3006)) ((Fp.refl rP h).wI rfl _) (by rw [ec]; exact PlM_put p1)
    rw [ec] at this
    exact this
  · obtain ⟨r, s1, rfl, hr, hv1⟩ := VM1 hv
    obtain ⟨l', s2, rfl, hl, hv2⟩ := VM1 hv1
    obtain ⟨q, s3, rfl, hq, hv3⟩ := VM1 hv2
    have ec : cstep env 3009 (r :: l' :: q :: s3) = (if q = 1 then l' else r) :: s3 := by
      unfold cstep
      rw [if_neg (by omega), if_neg (by omega), if_neg (by omega), if_pos rfl]
      simp
    simp only [List.length_cons] at hlen hsl
    obtain ⟨p1, v1⟩ := PlM_pop hp
    obtain ⟨p2, v2⟩ := PlM_pop p1
    obtain ⟨p3, v3⟩ := PlM_pop p2
    simp only [List.length_cons] at v1 v2
    have b4 : (s3.length : Int) < 900 := by omega
    have b5 : ((s3.length + 1 : Nat) : Int) < 900 := by omega
    have b6 : ((s3.length + 1 + 1 : Nat) : Int) < 900 := by omega
    rw [rX12_reckons_4]
    simp only [rX12_reckons_5, rX12_reckons_6, rX12_reckons_9, rX12_reckons_11, rX12_reckons_12, rX12_reckons_13, rX12_reckons_14, rX12_reckons_17, rX12_reckons_18, rX12_reckons_21, rX12_reckons_24, rX12_reckons_25, rX12_reckons_28, rX12_reckons_29, rX12_reckons_30, rX12_reckons_31, rX12_reckons_32, rX12_reckons_33, rX12_reckons_34, rX12_reckons_35, rX12_reckons_36, rX12_reckons_38, rX12_reckons_40, rX12_reckons_43, rX12_reckons_46, rX12_reckons_47, rX12_reckons_50, rX12_reckons_51, rX12_reckons_53, rX12_reckons_56, rX12_reckons_59, rX12_reckons_61, rX12_reckons_64, rX12_reckons_65, rX12_reckons_68, rX12_reckons_70, rX12_reckons_73, rX12_reckons_74, rX12_reckons_75, rX12_reckons_76, rX12_reckons_79, rX12_reckons_82, rX12_reckons_84, rX12_reckons_87, rX12_reckons_90, rX12_reckons_91, rX12_reckons_94, rX12_reckons_95, rX12_reckons_96, rX12_reckons_97, rX12_reckons_98, rX12_reckons_99, rX12_reckons_102, rX12_reckons_103, rX12_reckons_104, rX12_reckons_105, rX12_reckons_106, rX12_reckons_107, rX12_reckons_108, rX12_reckons_111, rX12_reckons_113, rX12_reckons_116, rX12_reckons_119, rX12_reckons_122, rX12_reckons_123, rX12_reckons_126, rX12_reckons_127, rX12_reckons_128, rX12_reckons_129, rX12_reckons_130, rX12_reckons_133, rX12_reckons_134, rX12_reckons_135, rX12_reckons_136, rX12_reckons_137, rX12_reckons_138, rX12_reckons_141, rX12_reckons_142, rX12_reckons_145, rX12_reckons_146, rX12_reckons_147, rX12_reckons_150, rX12_reckons_151, rX12_reckons_154, rX12_reckons_155, rX12_reckons_156, rX12_reckons_157, rX12_reckons_158, rX12_reckons_159, rX12_reckons_162, rX12_reckons_165, rX12_reckons_166, rX12_reckons_169, rX12_reckons_170, rX12_reckons_171, rX12_reckons_172, rX12_reckons_174, rX12_reckons_175, rX12_reckons_178, rX12_reckons_179, rX12_reckons_180, rX12_reckons_181, rX12_reckons_182, rX12_reckons_183, rX12_reckons_186, rX12_reckons_187, rX12_reckons_188, rX12_reckons_191, rX12_reckons_192, rX12_reckons_195, Int.toNat_natCast, Int.natCast_nonneg, true_and, and_true, and_self, if_true, if_false, or_true, true_or, or_false, false_or, ne_eq, not_true_eq_false, not_false_eq_true, Nat.reduceLeDiff, Nat.reduceEqDiff, Nat.reduceLT, Nat.reduceAdd, Nat.reduceMul, Nat.reduceSub, Int.reduceLT, Int.reduceLE, Int.reduceEq, Int.reduceToNat, Int.reduceAdd, Int.reduceSub, Int.reduceMul, Int.reduceNeg, Int.cast_ofNat_Int, false_and, and_false, Md_K280 m, Md_R281 m, Md_K281 m, Md_R282 m, Md_K282 m, Md_R283 m, Md_K283 m, Md_R284 m, Md_K284 m, Md_R285 m, Md_K285 m, Md_R286 m, Md_K286 m, Md_R287 m, Md_K287 m, Md_R288 m, Md_K288 m, Md_R289 m, Md_K289 m, Md_R290 m, Md_K290 m, Md_R291 m, Md_K291 m, Md_R292 m, Md_K292 m, Md_R293 m, Md_K293 m, Md_R294 m, Md_K294 m, Md_R295 m, Md_K295 m, Md_R296 m, Md_K296 m, Md_R297 m, Md_K297 m, Md_R298 m, Md_K298 m, Md_R299 m, Md_K299 m, w32_la (l := l) 7 (7 + l) (by omega) (by omega), w32_la (l := l) 5 (5 + l) (by omega) (by omega), w32_la (l := fr) 189 (189 + fr) (by omega) (by omega), w32_ll (l := 189 + fr) (m := i) (by omega), b1, b2, b3, x2, x3, hlt, hlaw, w32_s (i := i) (by omega), List.length_cons, w32_al (l := s3.length + 1 + 1 + 1) (-2) (s3.length + 1) (by omega) (by omega), w32_sl (l := s3.length + 1) 1 s3.length (by omega) (by omega), w32_s (i := s3.length + 1) (by omega), b4, b5, b6, v1, v2, v3]
    have := fun v => k (wI h 299 s3.length v) (some (.inl 3009)) ((Fp.refl rP h).wI rfl _)
    rw [ec] at this
    by_cases hq1 : q = 1
    · rw [if_pos hq1] at this ⊢
      exact this _ (PlM_put p3)
    · rw [if_neg hq1] at this ⊢
      exact this _ (PlM_put p3)
theorem reck_loop {d : Nat} {Q : Option PV → Hp → Prop} {l w fr : Nat} (hw : w ≤ 6) (hl2 : l < 2) {cs : List Int} {env : Nat → Int} (he : envOk w env) {h0 : Hp} (k : ∀ h', Fp rP h0 h' → Q (some (.inl (lawv env cs))) h') : ∀ (rest pre : List Int) (h : Hp) (s : List Int) (ts : List Bool) (x4 : Option PV), cs = pre ++ rest → RkC h l w fr cs env → Fp rP h0 h → PlM h s → VM ts s → ts.length ≤ 64 → trun w rest ts = some [false] → crun env cs [] = crun env rest s →
    WP (d + 1) mX12_reckons 4 [some (.inr (.inr 294)), some (.inl (l : Int)), some (.inl (s.length : Int)), some (.inl (pre.length : Int)), x4] [] h Q := by
  intro rest
  induction rest with
  | nil =>
    intro pre h s ts x4 hcs L f hp hv hlen ht hc
    obtain ⟨m, x2, x3, x4', x5, x6⟩ := id L
    have hpl : (pre.length : Int) = (cs.length : Int) := by rw [hcs]; simp
    have b1 : ((7 + l : Nat) : Int) < 3267 := by omega
    cases ht
    obtain ⟨v, s', rfl, hv1, hv2⟩ := VM1 hv
    have hs' : s' = [] := by
      cases s' with
      | nil => rfl
      | cons a b => exact hv2.elim
    subst hs'
    have v0 : hI h 299 0 = v := (PlM_pop hp).2
    rw [rX12_reckons_4]
    simp only [rX12_reckons_5, rX12_reckons_6, rX12_reckons_9, rX12_reckons_11, rX12_reckons_12, rX12_reckons_13, rX12_reckons_14, Int.toNat_natCast, Int.natCast_nonneg, true_and, and_true, and_self, if_true, if_false, or_true, true_or, or_false, false_or, ne_eq, not_true_eq_false, not_false_eq_true, Nat.reduceLeDiff, Nat.reduceEqDiff, Nat.reduceLT, Nat.reduceAdd, Nat.reduceMul, Nat.reduceSub, Int.reduceLT, Int.reduceLE, Int.reduceEq, Int.reduceToNat, Int.reduceAdd, Int.reduceSub, Int.reduceMul, Int.reduceNeg, Int.cast_ofNat_Int, false_and, and_false, Md_K280 m, Md_R281 m, Md_K281 m, Md_R282 m, Md_K282 m, Md_R283 m, Md_K283 m, Md_R284 m, Md_K284 m, Md_R285 m, Md_K285 m, Md_R286 m, Md_K286 m, Md_R287 m, Md_K287 m, Md_R288 m, Md_K288 m, Md_R289 m, Md_K289 m, Md_R290 m, Md_K290 m, Md_R291 m, Md_K291 m, Md_R292 m, Md_K292 m, Md_R293 m, Md_K293 m, Md_R294 m, Md_K294 m, Md_R295 m, Md_K295 m, Md_R296 m, Md_K296 m, Md_R297 m, Md_K297 m, Md_R298 m, Md_K298 m, Md_R299 m, Md_K299 m, w32_la (l := l) 7 (7 + l) (by omega) (by omega), b1, x2]
    rw [hpl]
    simp only [Int.lt_irrefl, Int.toNat_natCast, Int.natCast_nonneg, true_and, and_true, and_self, if_true, if_false, or_true, true_or, or_false, false_or, ne_eq, not_true_eq_false, not_false_eq_true, Nat.reduceLeDiff, Nat.reduceEqDiff, Nat.reduceLT, Nat.reduceAdd, Nat.reduceMul, Nat.reduceSub, Int.reduceLT, Int.reduceLE, Int.reduceEq, Int.reduceToNat, Int.reduceAdd, Int.reduceSub, Int.reduceMul, Int.reduceNeg, Int.cast_ofNat_Int, false_and, and_false, rX12_reckons_198, rX12_reckons_199, rX12_reckons_202, rX12_reckons_203, rX12_reckons_204, rX12_reckons_207, rX12_reckons_208, rX12_reckons_211, rX12_reckons_212, rX12_reckons_215, rX12_reckons_216, rX12_reckons_217, rX12_reckons_219, rX12_reckons_222, rX12_reckons_224, rX12_reckons_227, rX12_reckons_228, rX12_reckons_231, rX12_reckons_232, rX12_reckons_233, Md_K280 m, Md_R281 m, Md_K281 m, Md_R282 m, Md_K282 m, Md_R283 m, Md_K283 m, Md_R284 m, Md_K284 m, Md_R285 m, Md_K285 m, Md_R286 m, Md_K286 m, Md_R287 m, Md_K287 m, Md_R288 m, Md_K288 m, Md_R289 m, Md_K289 m, Md_R290 m, Md_K290 m, Md_R291 m, Md_K291 m, Md_R292 m, Md_K292 m, Md_R293 m, Md_K293 m, Md_R294 m, Md_K294 m, Md_R295 m, Md_K295 m, Md_R296 m, Md_K296 m, Md_R297 m, Md_K297 m, Md_R298 m, Md_K298 m, Md_R299 m, Md_K299 m, v0]
    have := k h f
    unfold lawv at this
    rw [hc] at this
    simp only [crun, List.getD_cons_zero] at this
    unfold clampI at this
    by_cases h1 : v < 0
    · rw [if_pos h1] at this ⊢; exact this
    · rw [if_neg h1] at this ⊢
      by_cases h2 : 99 < v
      · rw [if_pos h2] at this ⊢; exact this
      · rw [if_neg h2] at this ⊢; exact this
  | cons c rest ih =>
    intro pre h s ts x4 hcs L f hp hv hlen ht hc
    simp only [trun] at ht
    cases hts : tstep w c ts with
    | none => rw [hts] at ht; cases ht
    | some ts' =>
      rw [hts] at ht
      have hv' := cstep_ok hw he hts hv
      have hl' : ts'.length ≤ 64 := by
        rcases tstep_cases hw hts with ⟨_, _, tl, rfl⟩ | ⟨b, b2, t, _, rfl, rfl⟩ | ⟨t, _, rfl, rfl⟩ | ⟨t, _, rfl, rfl⟩ <;> simp at hlen ⊢ <;> omega
      refine reck_step hw hl2 (by rw [hcs]; simp) (by rw [hcs]; simp) L hp hv hlen hts ?_
      intro h' y4 f' hp'
      have := ih (pre ++ [c]) h' (cstep env c s) ts' y4 (by rw [hcs]; simp) (L.fr f') (f.trans f') hp' hv' hl' ht (by rw [hc]; rfl)
      simpa using this
theorem S_reckons {d : Nat} {Q : Option PV → Hp → Prop} {l w fr : Nat} {cs : List Int} {env : Nat → Int} {h : Hp} (hw : w ≤ 6) (hl2 : l < 2) (he : envOk w env) (L : RkC h l w fr cs env) (ht : trun w cs [] = some [false]) (k : ∀ h', Fp rP h h' → Q (some (.inl (lawv env cs))) h') :
    WP (d + 1) mX12_reckons 0 [some (.inr (.inr 294)), some (.inl (l : Int)), none, none, none] [] h Q := by
  simp only [rX12_reckons_0, rX12_reckons_1, rX12_reckons_2, rX12_reckons_3]
  exact reck_loop hw hl2 he k cs [] h [] [] none rfl L (Fp.refl _ _) (fun i hi => by simp at hi) True.intro (by simp) ht rfl
