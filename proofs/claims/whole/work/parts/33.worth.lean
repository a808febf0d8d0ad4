theorem and15 (n : Nat) (h : n < 2147483648) : iand n 15 = ((n % 16 : Nat) : Int) := by
  rw [show (15 : Int) = ((15 : Nat) : Int) from rfl, iand_n h, show (15 : Nat) = 2 ^ 4 - 1 from rfl, Nat.and_two_pow_sub_one_eq_mod]
theorem shr4 (n : Nat) (h : n < 2147483648) : ishr n 4 = ((n / 16 : Nat) : Int) := by
  rw [show (4 : Int) = ((4 : Nat) : Int) from rfl, ishr_n h (by omega)]
theorem enc_num {c : Int} (h0 : 0 ≤ c) (h1 : c < 1000) : iand (enc c) 15 = 0 ∧ ishr (enc c) 4 = c := by
  obtain ⟨n, rfl⟩ : ∃ n : Nat, c = n := ⟨c.toNat, by omega⟩
  have e : enc (n : Int) = ((n * 16 : Nat) : Int) := by unfold enc; rw [if_pos h1]; omega
  rw [e, and15 _ (by omega), shr4 _ (by omega)]
  constructor <;> omega
theorem enc_word {c : Int} (h0 : 1000 ≤ c) (h1 : c < 1006) : iand (enc c) 15 = 1 ∧ ishr (enc c) 4 = c - 1000 := by
  obtain ⟨n, rfl⟩ : ∃ n : Nat, c = ((n + 1000 : Nat) : Int) := ⟨(c - 1000).toNat, by omega⟩
  have e : enc ((n + 1000 : Nat) : Int) = ((n * 16 + 1 : Nat) : Int) := by unfold enc; rw [if_neg (by omega), if_pos (by omega)]; omega
  rw [e, and15 _ (by omega), shr4 _ (by omega)]
  constructor <;> omega
theorem enc_op {c : Int} (h0 : 3000 ≤ c) (h1 : c ≤ 3009) : iand (enc c) 15 = c - 2998 ∧ ishr (enc c) 4 = 0 := by
  obtain ⟨n, rfl⟩ : ∃ n : Nat, c = ((n + 3000 : Nat) : Int) := ⟨(c - 3000).toNat, by omega⟩
  have e : enc ((n + 3000 : Nat) : Int) = ((n + 2 : Nat) : Int) := by unfold enc; rw [if_neg (by omega), if_neg (by omega)]; omega
  rw [e, and15 _ (by omega), shr4 _ (by omega)]
  constructor <;> omega
/-- where working out a law may write -/
def wP (a k : Nat) : Prop := a = 213 ∨ (a = 211 ∧ k = 2)
/-- a law's row of steps at A, what a dive knows -/
def LwAt (h : Hp) (A w : Nat) (cs : List Int) (env : Nat → Int) : Prop := DvOk h ∧ A ≠ 211 ∧ A ≠ 213 ∧ hK h A = (21, cs.length) ∧ cs.length ≤ 900 ∧ (∀ j, j < cs.length → hI h A j = enc (cs.getD j 0)) ∧ ∀ j, j < w → hI h 212 j = env j
theorem LwAt.step {h h' : Hp} {A w : Nat} {cs : List Int} {env : Nat → Int} (l : LwAt h A w cs env) (f : Fp wP h h') : LwAt h' A w cs env := by
  obtain ⟨⟨k1, r1, r2, k2, k3⟩, a1, a2, k4, n1, s1, s2⟩ := l
  refine ⟨⟨by rw [f.K]; exact k1, by rw [f.R]; exact r1, by rw [f.R]; exact r2, by rw [f.K]; exact k2, by rw [f.K]; exact k3⟩, a1, a2, by rw [f.K]; exact k4, n1, fun j hj => ?_, fun j hj => ?_⟩
  · rw [f.I (by unfold wP; omega)]; exact s1 j hj
  · rw [f.I (by unfold wP; omega)]; exact s2 j hj
theorem f_push (h : Hp) (n : Nat) (v w : Int) : Fp wP h (wI (wI h 213 n v) 211 2 w) := ((Fp.refl wP h).wI (a := 213) (k := n) (Or.inl rfl) v).wI (Or.inr ⟨rfl, rfl⟩) w
theorem f_pop (h : Hp) (w : Int) : Fp wP h (wI h 211 2 w) := (Fp.refl wP h).wI (Or.inr ⟨rfl, rfl⟩) w
theorem tstep_cases {w : Nat} {c : Int} {ts ts' : List Bool} (hw : w ≤ 6) (h : tstep w c ts = some ts') : (0 ≤ c ∧ c < 1000 + (w : Int) ∧ ts.length < 64 ∧ ts' = false :: ts) ∨ (∃ b b2 t, (3000 ≤ c ∧ c ≤ 3005 ∨ c = 3007 ∨ c = 3008) ∧ ts = b :: b :: t ∧ ts' = b2 :: t) ∨ (∃ t, c = 3006 ∧ ts = true :: t ∧ ts' = true :: t) ∨ (∃ t, c = 3009 ∧ ts = false :: false :: true :: t ∧ ts' = false :: t) := by
  unfold tstep at h
  split at h
  · split at h
    · cases h; exact Or.inl ⟨by omega, by omega, by omega, rfl⟩
    · cases h
  · split at h
    · split at h
      · cases h; exact Or.inr (Or.inl ⟨_, _, _, Or.inl (by omega), rfl, rfl⟩)
      · cases h
    · split at h
      · split at h
        · cases h; exact Or.inr (Or.inl ⟨_, _, _, Or.inl (by omega), rfl, rfl⟩)
        · cases h
      · split at h
        · split at h
          · cases h; exact Or.inr (Or.inr (Or.inl ⟨_, by omega, rfl, rfl⟩))
          · cases h
        · split at h
          · split at h
            · cases h; exact Or.inr (Or.inl ⟨_, _, _, Or.inr (by omega), rfl, rfl⟩)
            · cases h
          · split at h
            · split at h
              · cases h; exact Or.inr (Or.inr (Or.inr ⟨_, by omega, rfl, rfl⟩))
              · cases h
            · cases h
set_option maxHeartbeats 4000000 in
theorem worth_step {d : Nat} {Q : Option PV → Hp → Prop} {A w i : Nat} {c : Int} {cs : List Int} {env : Nat → Int} (hw : w ≤ 6) {h : Hp} {s : List Int} {ts ts' : List Bool} {x3 x4 x5 x6 : Option PV} (hi : i < cs.length) (hc : cs.getD i 0 = c) (L : LwAt h A w cs env) (hp : Pl h s) (hv : VM ts s) (hlen : ts.length ≤ 64) (ht : tstep w c ts = some ts')
    (k : ∀ h' y3 y4 y5 y6, Fp wP h h' → Pl h' (cstep env c s) → WP (d + 2) mX0_worth 7 [some (.inr (.inr 211)), some (.inr (.inr A)), some (.inl ((i + 1 : Nat) : Int)), y3, y4, y5, y6] [] h' Q) :
    WP (d + 2) mX0_worth 7 [some (.inr (.inr 211)), some (.inr (.inr A)), some (.inl (i : Int)), x3, x4, x5, x6] [] h Q := by
  have hk := L.2.2.2.1
  have n9 := L.2.2.2.2.1
  have hlaw : hI h A i = enc c := by rw [L.2.2.2.2.2.1 i hi, hc]
  have hlt : (i : Int) < (cs.length : Int) := by omega
  have hi1 : w32 ((i : Int) + 1) = ((i + 1 : Nat) : Int) := by rw [w32_i (by omega) (by omega)]; omega
  have k211 := L.1.1
  have r212 := L.1.2.1
  have k212 := L.1.2.2.2.1
  have hsl := VM_len hv
  rcases tstep_cases hw ht with ⟨c0, c1, tl, rfl⟩ | ⟨b, b2, t, hcc, rfl, rfl⟩ | ⟨t, rfl, rfl, rfl⟩ | ⟨t, rfl, rfl, rfl⟩
  · by_cases hc1 : c < 1000
    · have e := enc_num c0 hc1
      have ec : cstep env c s = c :: s := by unfold cstep; rw [if_pos hc1]
      rw [rX0_worth_7]
      simp only [rX0_worth_8, rX0_worth_9, rX0_worth_10, rX0_worth_13, rX0_worth_14, rX0_worth_15, rX0_worth_16, rX0_worth_18, rX0_worth_19, rX0_worth_20, rX0_worth_21, rX0_worth_22, rX0_worth_23, rX0_worth_24, rX0_worth_25, rX0_worth_27, rX0_worth_28, rX0_worth_31, rX0_worth_32, rX0_worth_34, rX0_worth_37, rX0_worth_40, rX0_worth_41, rX0_worth_42, rX0_worth_45, rX0_worth_46, rX0_worth_48, rX0_worth_51, rX0_worth_53, rX0_worth_55, rX0_worth_58, rX0_worth_59, rX0_worth_62, rX0_worth_64, rX0_worth_65, rX0_worth_68, rX0_worth_69, rX0_worth_72, rX0_worth_75, rX0_worth_76, rX0_worth_78, rX0_worth_81, rX0_worth_82, rX0_worth_83, rX0_worth_84, rX0_worth_87, rX0_worth_88, rX0_worth_91, rX0_worth_94, rX0_worth_95, rX0_worth_98, rX0_worth_100, rX0_worth_101, rX0_worth_104, rX0_worth_106, rX0_worth_107, rX0_worth_108, rX0_worth_110, rX0_worth_113, rX0_worth_114, rX0_worth_117, rX0_worth_120, rX0_worth_122, rX0_worth_125, rX0_worth_127, rX0_worth_130, rX0_worth_131, rX0_worth_133, rX0_worth_135, rX0_worth_138, rX0_worth_141, rX0_worth_144, hk, hlaw, hlt, e.1, e.2, Int.toNat_natCast, Int.natCast_nonneg, true_and, and_true, and_self, if_true, if_false, or_true, true_or, or_false, false_or, ne_eq, not_true_eq_false, not_false_eq_true, k211, S_push L.1 hp (by omega), psh_none, hi1]
      refine ⟨by decide, ?_⟩
      exact k _ _ _ _ _ (f_push h _ _ _) (by rw [ec]; exact Pl_push hp)
    · have e := enc_word (c := c) (by omega) (by omega)
      obtain ⟨n, rfl⟩ : ∃ n : Nat, c = ((n + 1000 : Nat) : Int) := ⟨(c - 1000).toNat, by omega⟩
      have ec : cstep env ((n + 1000 : Nat) : Int) s = env n :: s := by unfold cstep; rw [if_neg hc1, if_pos (by omega), show (((n + 1000 : Nat) : Int) - 1000).toNat = n by omega]
      have e2 : ishr (enc ((n + 1000 : Nat) : Int)) 4 = (n : Int) := by rw [e.2]; omega
      have n6 : (n : Int) < 6 := by omega
      have nn : ¬ ((n : Int) < 0) := by omega
      have kn := L.2.2.2.2.2.2 n (by omega)
      rw [rX0_worth_7]
      simp only [rX0_worth_8, rX0_worth_9, rX0_worth_10, rX0_worth_13, rX0_worth_14, rX0_worth_15, rX0_worth_16, rX0_worth_18, rX0_worth_19, rX0_worth_20, rX0_worth_21, rX0_worth_22, rX0_worth_23, rX0_worth_24, rX0_worth_25, rX0_worth_27, rX0_worth_28, rX0_worth_31, rX0_worth_32, rX0_worth_34, rX0_worth_37, rX0_worth_40, rX0_worth_41, rX0_worth_42, rX0_worth_45, rX0_worth_46, rX0_worth_48, rX0_worth_51, rX0_worth_53, rX0_worth_55, rX0_worth_58, rX0_worth_59, rX0_worth_62, rX0_worth_64, rX0_worth_65, rX0_worth_68, rX0_worth_69, rX0_worth_72, rX0_worth_75, rX0_worth_76, rX0_worth_78, rX0_worth_81, rX0_worth_82, rX0_worth_83, rX0_worth_84, rX0_worth_87, rX0_worth_88, rX0_worth_91, rX0_worth_94, rX0_worth_95, rX0_worth_98, rX0_worth_100, rX0_worth_101, rX0_worth_104, rX0_worth_106, rX0_worth_107, rX0_worth_108, rX0_worth_110, rX0_worth_113, rX0_worth_114, rX0_worth_117, rX0_worth_120, rX0_worth_122, rX0_worth_125, rX0_worth_127, rX0_worth_130, rX0_worth_131, rX0_worth_133, rX0_worth_135, rX0_worth_138, rX0_worth_141, rX0_worth_144, hk, hlaw, hlt, e.1, e2, n6, nn, Int.toNat_natCast, Int.natCast_nonneg, true_and, and_true, and_self, if_true, if_false, or_true, true_or, or_false, false_or, ne_eq, not_true_eq_false, not_false_eq_true, k211, k212, r212, kn, S_push L.1 hp (by omega), psh_none, hi1]
      refine ⟨by decide, ?_⟩
      simp only [show ((1:Int) = 0) = False from by simp, if_false]
      refine ⟨by omega, ?_⟩
      exact k _ _ _ _ _ (f_push h _ _ _) (by rw [ec]; exact Pl_push hp)
  · obtain ⟨r, s1, rfl, hr, hv1⟩ := VM1 hv
    obtain ⟨l, s2, rfl, hl, hv2⟩ := VM1 hv1
    have e := enc_op (c := c) (by omega) (by omega)
    have ec : cstep env c (r :: l :: s2) = bin c l r :: s2 := by
      unfold cstep
      rw [if_neg (by omega), if_neg (by omega), if_neg (by omega), if_neg (by omega)]
      simp
    simp only [List.length_cons] at hlen hsl
    have L1 := L.step (f_pop h ((l :: s2).length : Nat))
    have L2 := L1.step (f_pop _ (s2.length : Nat))
    have p1 := Pl_pop hp
    have p2 := Pl_pop p1
    have q1 : (c - 2998 = 0) = False := by simp; omega
    have q2 : (c - 2998 = 1) = False := by simp; omega
    have q3 : (c - 2998 = 8) = False := by simp; omega
    have q4 : (c - 2998 = 11) = False := by simp; omega
    rw [rX0_worth_7]
    simp only [rX0_worth_8, rX0_worth_9, rX0_worth_10, rX0_worth_13, rX0_worth_14, rX0_worth_15, rX0_worth_16, rX0_worth_18, rX0_worth_19, rX0_worth_20, rX0_worth_21, rX0_worth_22, rX0_worth_23, rX0_worth_24, rX0_worth_25, rX0_worth_27, rX0_worth_28, rX0_worth_31, rX0_worth_32, rX0_worth_34, rX0_worth_37, rX0_worth_40, rX0_worth_41, rX0_worth_42, rX0_worth_45, rX0_worth_46, rX0_worth_48, rX0_worth_51, rX0_worth_53, rX0_worth_55, rX0_worth_58, rX0_worth_59, rX0_worth_62, rX0_worth_64, rX0_worth_65, rX0_worth_68, rX0_worth_69, rX0_worth_72, rX0_worth_75, rX0_worth_76, rX0_worth_78, rX0_worth_81, rX0_worth_82, rX0_worth_83, rX0_worth_84, rX0_worth_87, rX0_worth_88, rX0_worth_91, rX0_worth_94, rX0_worth_95, rX0_worth_98, rX0_worth_100, rX0_worth_101, rX0_worth_104, rX0_worth_106, rX0_worth_107, rX0_worth_108, rX0_worth_110, rX0_worth_113, rX0_worth_114, rX0_worth_117, rX0_worth_120, rX0_worth_122, rX0_worth_125, rX0_worth_127, rX0_worth_130, rX0_worth_131, rX0_worth_133, rX0_worth_135, rX0_worth_138, rX0_worth_141, rX0_worth_144, hk, hlaw, hlt, e.1, e.2, q1, q2, q3, q4, Int.toNat_natCast, Int.natCast_nonneg, true_and, and_true, and_self, if_true, if_false, or_true, true_or, or_false, false_or, ne_eq, not_true_eq_false, not_false_eq_true, k211, S_pop L.1 hp (by simp; omega), S_pop L1.1 p1 (by omega), S_push L2.1 p2 (by omega), S_joined hcc ⟨hl.1, hl.2.1⟩ ⟨hr.1, hr.2.1⟩, psh_some, psh_none, hi1, hK_wI]
    refine ⟨by decide, ?_⟩
    exact k _ _ _ _ _ ((f_pop h _).trans ((f_pop _ _).trans (f_push _ _ _ _))) (by rw [ec]; exact Pl_push p2)
  · obtain ⟨r, s1, rfl, hr, hv1⟩ := VM1 hv
    have e := enc_op (c := 3006) (by omega) (by omega)
    have ec : cstep env 3006 (r :: s1) = (1 - r) :: s1 := by
      unfold cstep
      rw [if_neg (by omega), if_neg (by omega), if_pos rfl]
      simp
    simp only [List.length_cons] at hlen hsl
    have L1 := L.step (f_pop h (s1.length : Nat))
    have p1 := Pl_pop hp
    have hr1 : w32 (1 - r) = 1 - r := w32_i (by have := hr.1; have := hr.2.1; omega) (by have := hr.1; have := hr.2.1; omega)
    rw [rX0_worth_7]
    simp only [rX0_worth_8, rX0_worth_9, rX0_worth_10, rX0_worth_13, rX0_worth_14, rX0_worth_15, rX0_worth_16, rX0_worth_18, rX0_worth_19, rX0_worth_20, rX0_worth_21, rX0_worth_22, rX0_worth_23, rX0_worth_24, rX0_worth_25, rX0_worth_27, rX0_worth_28, rX0_worth_31, rX0_worth_32, rX0_worth_34, rX0_worth_37, rX0_worth_40, rX0_worth_41, rX0_worth_42, rX0_worth_45, rX0_worth_46, rX0_worth_48, rX0_worth_51, rX0_worth_53, rX0_worth_55, rX0_worth_58, rX0_worth_59, rX0_worth_62, rX0_worth_64, rX0_worth_65, rX0_worth_68, rX0_worth_69, rX0_worth_72, rX0_worth_75, rX0_worth_76, rX0_worth_78, rX0_worth_81, rX0_worth_82, rX0_worth_83, rX0_worth_84, rX0_worth_87, rX0_worth_88, rX0_worth_91, rX0_worth_94, rX0_worth_95, rX0_worth_98, rX0_worth_100, rX0_worth_101, rX0_worth_104, rX0_worth_106, rX0_worth_107, rX0_worth_108, rX0_worth_110, rX0_worth_113, rX0_worth_114, rX0_worth_117, rX0_worth_120, rX0_worth_122, rX0_worth_125, rX0_worth_127, rX0_worth_130, rX0_worth_131, rX0_worth_133, rX0_worth_135, rX0_worth_138, rX0_worth_141, rX0_worth_144, hk, hlaw, hlt, e.1, e.2, Int.toNat_natCast, Int.natCast_nonneg, true_and, and_true, and_self, if_true, if_false, or_true, true_or, or_false, false_or, ne_eq, not_true_eq_false, not_false_eq_true, k211, S_pop L.1 hp (by omega), S_push L1.1 p1 (by omega), psh_some, psh_none, hi1, hK_wI, hr1]
    refine ⟨by decide, ?_⟩
    exact k _ _ _ _ _ ((f_pop h _).trans (f_push _ _ _ _)) (by rw [ec]; exact Pl_push p1)
  · obtain ⟨r, s1, rfl, hr, hv1⟩ := VM1 hv
    obtain ⟨l, s2, rfl, hl, hv2⟩ := VM1 hv1
    obtain ⟨q, s3, rfl, hq, hv3⟩ := VM1 hv2
    have e := enc_op (c := 3009) (by omega) (by omega)
    have ec : cstep env 3009 (r :: l :: q :: s3) = (if q = 1 then l else r) :: s3 := by
      unfold cstep
      rw [if_neg (by omega), if_neg (by omega), if_neg (by omega), if_pos rfl]
      simp
    simp only [List.length_cons] at hlen hsl
    have L1 := L.step (f_pop h ((l :: q :: s3).length : Nat))
    have L2 := L1.step (f_pop _ ((q :: s3).length : Nat))
    have L3 := L2.step (f_pop _ (s3.length : Nat))
    have p1 := Pl_pop hp
    have p2 := Pl_pop p1
    have p3 := Pl_pop p2
    have hq01 := hq.2.2 rfl
    rw [rX0_worth_7]
    simp only [rX0_worth_8, rX0_worth_9, rX0_worth_10, rX0_worth_13, rX0_worth_14, rX0_worth_15, rX0_worth_16, rX0_worth_18, rX0_worth_19, rX0_worth_20, rX0_worth_21, rX0_worth_22, rX0_worth_23, rX0_worth_24, rX0_worth_25, rX0_worth_27, rX0_worth_28, rX0_worth_31, rX0_worth_32, rX0_worth_34, rX0_worth_37, rX0_worth_40, rX0_worth_41, rX0_worth_42, rX0_worth_45, rX0_worth_46, rX0_worth_48, rX0_worth_51, rX0_worth_53, rX0_worth_55, rX0_worth_58, rX0_worth_59, rX0_worth_62, rX0_worth_64, rX0_worth_65, rX0_worth_68, rX0_worth_69, rX0_worth_72, rX0_worth_75, rX0_worth_76, rX0_worth_78, rX0_worth_81, rX0_worth_82, rX0_worth_83, rX0_worth_84, rX0_worth_87, rX0_worth_88, rX0_worth_91, rX0_worth_94, rX0_worth_95, rX0_worth_98, rX0_worth_100, rX0_worth_101, rX0_worth_104, rX0_worth_106, rX0_worth_107, rX0_worth_108, rX0_worth_110, rX0_worth_113, rX0_worth_114, rX0_worth_117, rX0_worth_120, rX0_worth_122, rX0_worth_125, rX0_worth_127, rX0_worth_130, rX0_worth_131, rX0_worth_133, rX0_worth_135, rX0_worth_138, rX0_worth_141, rX0_worth_144, hk, hlaw, hlt, e.1, e.2, Int.toNat_natCast, Int.natCast_nonneg, true_and, and_true, and_self, if_true, if_false, or_true, true_or, or_false, false_or, ne_eq, not_true_eq_false, not_false_eq_true, k211, S_pop L.1 hp (by simp; omega), S_pop L1.1 p1 (by simp; omega), S_pop L2.1 p2 (by omega), S_push L3.1 p3 (by omega), psh_some, psh_none, hi1, hK_wI]
    refine ⟨by decide, ?_⟩
    have fr := fun v => ((f_pop h ((l :: q :: s3).length : Nat)).trans ((f_pop _ ((q :: s3).length : Nat)).trans ((f_pop _ (s3.length : Nat)).trans (f_push _ s3.length v (s3.length + 1)))))
    rcases hq01 with rfl | rfl
    · simp only [if_true]
      exact k _ _ _ _ _ (fr _) (by rw [ec]; exact Pl_push p3)
    · simp only [show ((1:Int) = 0) = False from by simp, if_false]
      exact k _ _ _ _ _ (fr _) (by rw [ec]; exact Pl_push p3)
theorem worth_loop {d : Nat} {Q : Option PV → Hp → Prop} {A w : Nat} (hw : w ≤ 6) {cs : List Int} {env : Nat → Int} (he : envOk w env) {h0 : Hp} (k : ∀ h', Fp wP h0 h' → Q (some (.inl ((crun env cs []).getD 0 0))) h') : ∀ (rest pre : List Int) (h : Hp) (s : List Int) (ts : List Bool) (x3 x4 x5 x6 : Option PV), cs = pre ++ rest → LwAt h A w cs env → Fp wP h0 h → Pl h s → VM ts s → ts.length ≤ 64 → trun w rest ts = some [false] → crun env cs [] = crun env rest s →
    WP (d + 2) mX0_worth 7 [some (.inr (.inr 211)), some (.inr (.inr A)), some (.inl (pre.length : Int)), x3, x4, x5, x6] [] h Q := by
  intro rest
  induction rest with
  | nil =>
    intro pre h s ts x3 x4 x5 x6 hcs L f hp hv hlen ht hc
    have hk := L.2.2.2.1
    have hpl : (pre.length : Int) = (cs.length : Int) := by rw [hcs]; simp
    cases ht
    obtain ⟨v, s', rfl, hv1, hv2⟩ := VM1 hv
    have hs' : s' = [] := by
      cases s' with
      | nil => rfl
      | cons a b => exact hv2.elim
    subst hs'
    rw [rX0_worth_7]
    simp only [rX0_worth_8, rX0_worth_9, rX0_worth_10, hk]
    rw [hpl]
    simp only [Int.lt_irrefl, if_false, rX0_worth_147, rX0_worth_148, rX0_worth_151, L.1.1, S_pop L.1 hp (by simp), psh_some]
    rw [hc] at k
    simp only [crun, List.getD_cons_zero] at k
    refine ⟨by decide, ?_⟩
    exact ⟨trivial, k _ (f.trans (f_pop h _))⟩
  | cons c rest ih =>
    intro pre h s ts x3 x4 x5 x6 hcs L f hp hv hlen ht hc
    simp only [trun] at ht
    cases hts : tstep w c ts with
    | none => rw [hts] at ht; cases ht
    | some ts' =>
      rw [hts] at ht
      have hv' := cstep_ok hw he hts hv
      have hl' : ts'.length ≤ 64 := by
        rcases tstep_cases hw hts with ⟨_, _, tl, rfl⟩ | ⟨b, b2, t, _, rfl, rfl⟩ | ⟨t, _, rfl, rfl⟩ | ⟨t, _, rfl, rfl⟩ <;> simp at hlen ⊢ <;> omega
      refine worth_step hw (by rw [hcs]; simp) (by rw [hcs]; simp) L hp hv hlen hts ?_
      intro h' y3 y4 y5 y6 f' hp'
      have := ih (pre ++ [c]) h' (cstep env c s) ts' y3 y4 y5 y6 (by rw [hcs]; simp) (L.step f') (f.trans f') hp' hv' hl' ht (by rw [hc]; rfl)
      simpa using this
theorem S_worth {d : Nat} {Q : Option PV → Hp → Prop} {A w : Nat} {cs : List Int} {env : Nat → Int} {h : Hp} (hw : w ≤ 6) (he : envOk w env) (L : LwAt h A w cs env) (ht : trun w cs [] = some [false]) (k : ∀ h', Fp wP h h' → Q (some (.inl ((crun env cs []).getD 0 0))) h') :
    WP (d + 2) mX0_worth 0 [some (.inr (.inr 211)), some (.inr (.inr A)), none, none, none, none, none] [] h Q := by
  simp only [rX0_worth_0, rX0_worth_1, rX0_worth_2, rX0_worth_5, rX0_worth_6, L.1.1, true_and]
  refine ⟨by decide, ?_⟩
  have f1 := f_pop h 0
  exact worth_loop hw he k cs [] _ [] [] none none none none rfl (L.step f1) f1 ⟨by simp [hI_wI], fun i hi => by simp at hi⟩ True.intro (by simp) ht rfl
