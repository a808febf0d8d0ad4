/-! chances: the greatest number that divides both -/
theorem tmod_nn (a b : Nat) : (a : Int).tmod (b : Int) = ((a % b : Nat) : Int) := rfl
theorem tdiv_nn (a b : Nat) : (a : Int).tdiv (b : Int) = ((a / b : Nat) : Int) := rfl
theorem half_lt {b r k : Nat} (hr : r < b) (hr0 : r ≠ 0) (hb : b < 2 ^ (k + 1)) : b % r < 2 ^ k := by
  have h1 := Nat.mod_lt b (Nat.pos_of_ne_zero hr0)
  have h2 := Nat.mod_add_div b r
  have h3 : 1 ≤ b / r := Nat.div_pos (Nat.le_of_lt hr) (Nat.pos_of_ne_zero hr0)
  have h4 : r * 1 ≤ r * (b / r) := Nat.mul_le_mul_left r h3
  rw [Nat.pow_succ] at hb
  omega
theorem gcd_s (a b : Nat) : Nat.gcd b (a % b) = Nat.gcd a b := by
  rw [Nat.gcd_comm b, ← Nat.gcd_rec, Nat.gcd_comm]
theorem S_common {h : Hp} : ∀ (k d a b : Nat) (Q : Option PV → Hp → Prop), b < 2 ^ k → WP (d + 2 * k) mX12_common 0 [some (.inr (.inl (a : Int))), none, some (.inr (.inl (b : Int))), none] [] h Q = Q (some (.inr (.inl (Nat.gcd a b : Int)))) h := by
  have zero : ∀ (d a : Nat) (Q : Option PV → Hp → Prop), WP d mX12_common 0 [some (.inr (.inl (a : Int))), none, some (.inr (.inl ((0 : Nat) : Int))), none] [] h Q = Q (some (.inr (.inl (Nat.gcd a 0 : Int)))) h := by
    intro d a Q
    rw [Nat.gcd_zero_right]
    simp only [rX12_common_0, rX12_common_1, rX12_common_2, rX12_common_3, rX12_common_6, rX12_common_7, rX12_common_17, lcm_zero, Int.natCast_zero, if_true]
  have step : ∀ (d a b : Nat) (Q : Option PV → Hp → Prop), b ≠ 0 → WP (d + 1) mX12_common 0 [some (.inr (.inl (a : Int))), none, some (.inr (.inl (b : Int))), none] [] h Q = WP d mX12_common 0 [some (.inr (.inl (b : Int))), none, some (.inr (.inl ((a % b : Nat) : Int))), none] [] h (fun r h' => WP (d + 1) mX12_common 17 [some (.inr (.inl (a : Int))), none, some (.inr (.inl (b : Int))), none] (psh r []) h' Q) := by
    intro d a b Q hb
    have bz : ¬ ((b : Int) = 0) := by omega
    rw [rX12_common_0, rX12_common_1, rX12_common_2, rX12_common_3, if_neg (by rw [lcm_zero]; exact bz), rX12_common_10, rX12_common_11, rX12_common_12, rX12_common_13, tmod_nn, rX12_common_14]
    exact propext ⟨fun q => q.2, fun q => ⟨bz, q⟩⟩
  intro k
  induction k with
  | zero =>
    intro d a b Q hb
    have : b = 0 := by simpa using hb
    subst this
    exact zero _ a Q
  | succ k ih =>
    intro d a b Q hb
    by_cases b0 : b = 0
    · subst b0; exact zero _ a Q
    · rw [show d + 2 * (k + 1) = (d + 2 * k + 1) + 1 by omega, step _ a b Q b0, ← gcd_s a b]
      by_cases r0 : a % b = 0
      · rw [r0, zero]
        simp only [psh_some, rX12_common_17]
      · have rl := Nat.mod_lt a (Nat.pos_of_ne_zero b0)
        rw [step _ b (a % b) _ r0, ih d (a % b) (b % (a % b)) _ (half_lt rl r0 hb), gcd_s b (a % b)]
        simp only [psh_some, rX12_common_17]
theorem S_shared {d : Nat} {Q : Option PV → Hp → Prop} {h : Hp} {x0 x1 x2 x3 : Option PV} : ∀ (k i a b : Nat) (x9 x10 : Option PV), b < 2 ^ k → i + 2 * k < 99 → WP d mX11_greatestShared 9 [x0, x1, x2, x3, some (.inr (.inl (a : Int))), none, some (.inr (.inl (b : Int))), none, some (.inl (i : Int)), x9, x10] [] h Q = Q (some (.inr (.inl (Nat.gcd a b : Int)))) h := by
  have zero : ∀ (i a : Nat) (x9 x10 : Option PV), i < 100 → WP d mX11_greatestShared 9 [x0, x1, x2, x3, some (.inr (.inl (a : Int))), none, some (.inr (.inl ((0 : Nat) : Int))), none, some (.inl (i : Int)), x9, x10] [] h Q = Q (some (.inr (.inl (Nat.gcd a 0 : Int)))) h := by
    intro i a x9 x10 hi
    have i1 : (i : Int) < 100 := by omega
    rw [Nat.gcd_zero_right, rX11_greatestShared_9]
    simp only [rX11_greatestShared_11, rX11_greatestShared_13, rX11_greatestShared_16, rX11_greatestShared_18, rX11_greatestShared_19, rX11_greatestShared_20, rX11_greatestShared_44, rX11_greatestShared_46, lcm_zero, Int.natCast_zero, i1, if_true]
  have step : ∀ (i a b : Nat) (x9 x10 : Option PV), i < 100 → b ≠ 0 → WP d mX11_greatestShared 9 [x0, x1, x2, x3, some (.inr (.inl (a : Int))), none, some (.inr (.inl (b : Int))), none, some (.inl (i : Int)), x9, x10] [] h Q = WP d mX11_greatestShared 9 [x0, x1, x2, x3, some (.inr (.inl (b : Int))), none, some (.inr (.inl ((a % b : Nat) : Int))), none, some (.inl ((i + 1 : Nat) : Int)), some (.inr (.inl ((a % b : Nat) : Int))), none] [] h Q := by
    intro i a b x9 x10 hi hb
    have i1 : (i : Int) < 100 := by omega
    have bz : ¬ ((b : Int) = 0) := by omega
    have i2 : w32 ((i : Int) + 1) = ((i + 1 : Nat) : Int) := w32_s (by omega)
    rw [rX11_greatestShared_9]
    simp only [rX11_greatestShared_11, rX11_greatestShared_13, rX11_greatestShared_16, rX11_greatestShared_18, rX11_greatestShared_19, rX11_greatestShared_20, rX11_greatestShared_23, rX11_greatestShared_25, rX11_greatestShared_27, rX11_greatestShared_28, rX11_greatestShared_30, rX11_greatestShared_32, rX11_greatestShared_34, rX11_greatestShared_36, rX11_greatestShared_38, rX11_greatestShared_41, lcm_zero, i1, bz, i2, tmod_nn, ne_eq, not_false_eq_true, if_true, if_false, true_and]
  intro k
  induction k with
  | zero =>
    intro i a b x9 x10 hb hi
    have : b = 0 := by simpa using hb
    subst this
    exact zero i a _ _ (by omega)
  | succ k ih =>
    intro i a b x9 x10 hb hi
    by_cases b0 : b = 0
    · subst b0; exact zero i a _ _ (by omega)
    · rw [step i a b _ _ (by omega) b0, ← gcd_s a b]
      by_cases r0 : a % b = 0
      · rw [r0]; exact zero (i + 1) b _ _ (by omega)
      · rw [step (i + 1) b (a % b) _ _ (by omega) r0, ← gcd_s b (a % b)]
        exact ih (i + 1 + 1) (a % b) (b % (a % b)) _ _ (half_lt (Nat.mod_lt a (Nat.pos_of_ne_zero b0)) r0 hb) (by omega)
theorem S_greatestShared {d : Nat} {Q : Option PV → Hp → Prop} {h : Hp} {a b : Nat} (hb : b < 2 ^ 35) : WP d mX11_greatestShared 0 [some (.inr (.inl (a : Int))), none, some (.inr (.inl (b : Int))), none, none, none, none, none, none, none, none] [] h Q = Q (some (.inr (.inl (Nat.gcd a b : Int)))) h := by
  simp only [rX11_greatestShared_0, rX11_greatestShared_1, rX11_greatestShared_3, rX11_greatestShared_4, rX11_greatestShared_6, rX11_greatestShared_7]
  exact S_shared 35 0 a b _ _ hb (by decide)
/-- odds -/
def wO (σ : AS) : Nat → Nat := fun g => (sA σ (27 + g)).toNat
theorem wO_s {σ : AS} (w : WF σ) : ∀ n, n ≤ 6 → (smW (wO σ) n : Int) = sumG (sA σ) n ∧ smW (wO σ) n ≤ 54 := by
  have h1 : ∀ n, n ≤ 6 → (smW (wO σ) n : Int) = sumG (sA σ) n := by
    intro n
    induction n with
    | zero => intro _; rfl
    | succ n ih =>
      intro hn
      show ((smW (wO σ) n + (sA σ (27 + n)).toNat : Nat) : Int) = sumG (sA σ) n + sA σ (27 + n)
      have i := ih (by omega)
      have p := (w.1.2.2.2.2.2.2.2 n (by omega)).1
      omega
  intro n hn
  have := h1 n hn
  have s := (sumG_in w.1 n hn).2
  exact ⟨this, by omega⟩
def nO (σ : AS) (n : Nat) : Nat := if smW (wO σ) (GA σ) = 0 then 0 else n
def chD (σ : AS) (n : Nat) : Nat → Nat := spN (fA σ) (wO σ) (fun _ => okZ (-1)) (LA σ) (GA σ) n
theorem pow54 {σ : AS} (w : WF σ) {n : Nat} (hn : n ≤ 6) : smW (wO σ) (GA σ) ^ n < 2 ^ 35 := Nat.lt_of_le_of_lt (pow_b (wO_s w (GA σ) (G_6 w)).2 (by decide) hn) (by decide)
theorem nO_le {σ : AS} {n : Nat} (hn : n ≤ 6) : nO σ n ≤ 6 := by unfold nO; split <;> omega
theorem pos_n {σ : AS} {n : Nat} : 0 < smW (wO σ) (GA σ) ^ nO σ n := by
  unfold nO
  by_cases h : smW (wO σ) (GA σ) = 0
  · rw [if_pos h, Nat.pow_zero]; exact Nat.one_pos
  · rw [if_neg h]; exact Nat.pow_pos (Nat.pos_of_ne_zero h)
theorem okT (t : Nat) : okZ (-1) t = true := by rw [okZ_1]
/-- all the chances are so many -/
theorem chD_s {σ : AS} (ok : lsOk (LA σ)) (hf : ∀ g p, g < GA σ → p < (LA σ).length → fA σ g ((LA σ).getD p 0) ∈ LA σ) (n : Nat) : smL (LA σ) (chD σ n) (LA σ).length = smW (wO σ) (GA σ) ^ n := (smL_spN ok hf n).2 (fun _ t => okT t)
theorem S_spreadByOdds {d : Nat} {Q : Option PV → Hp → Prop} {h0 h : Hp} {σ : AS} (w : WF σ) {ta se n : Nat} (x : TW h0 h (sA σ) (fA σ) (2 ^ GA σ - 1) (LA σ) ta se) (hn : n ≤ 6)
    (k : ∀ h', TW h0 h' (sA σ) (fA σ) (2 ^ GA σ - 1) (LA σ) ta se → TC h' ta (LA σ) (chD σ (nO σ n)) → Q none h') :
    WP (d + 6) mX9_spreadByOdds 0 [some (.inr (.inr ta)), some (.inl (n : Int))] [] h Q := by
  obtain ⟨K0, _⟩ := x.2.2.2.1.ks
  simp only [rX9_spreadByOdds_0, rX9_spreadByOdds_1, K0, Int.toNat_natCast, Int.natCast_nonneg, true_and, and_true, and_self, if_true, if_false, or_true, true_or, or_false, false_or, ne_eq, not_true_eq_false, not_false_eq_true, Nat.reduceLeDiff, Nat.reduceEqDiff, Nat.reduceLT, Nat.reduceAdd, Nat.reduceMul, Nat.reduceSub, Int.reduceLT, Int.reduceLE, Int.reduceEq, Int.reduceToNat, Int.reduceAdd, Int.reduceSub, Int.reduceMul, Int.reduceNeg, Int.cast_ofNat_Int, false_and, and_false]
  refine S_seeNothing (d := d + 4) x ?_
  intro h1 x1 f1 z1
  obtain ⟨K01, R0, R1, R2, R3, R4, K1, K2, _⟩ := x1.2.2.2.1.ks
  have KS := x1.2.2.2.2.1.2.1.1
  obtain ⟨pp, p0, pl, nd, nd6, p2, pk, pG, pr5, pk6, po⟩ := x1.2.2.2.2.1.2.2.2.2.2.2.1
  have t3 := x1.2.2.2.2.2.2.2.1
  have g1 : 200 ≤ ta + 1 := by omega
  have gp : 200 ≤ pp + 6 := by omega
  simp only [psh_none, rX9_spreadByOdds_4, rX9_spreadByOdds_5, rX9_spreadByOdds_8, rX9_spreadByOdds_11, rX9_spreadByOdds_14, rX9_spreadByOdds_15, rX9_spreadByOdds_16, rX9_spreadByOdds_19, rX9_spreadByOdds_20, rX9_spreadByOdds_22, K01, R0, R1, KS, K1, p0, pk, pr5, pk6, g1, gp, Int.toNat_natCast, Int.natCast_nonneg, true_and, and_true, and_self, if_true, if_false, or_true, true_or, or_false, false_or, ne_eq, not_true_eq_false, not_false_eq_true, Nat.reduceLeDiff, Nat.reduceEqDiff, Nat.reduceLT, Nat.reduceAdd, Nat.reduceMul, Nat.reduceSub, Int.reduceLT, Int.reduceLE, Int.reduceEq, Int.reduceToNat, Int.reduceAdd, Int.reduceSub, Int.reduceMul, Int.reduceNeg, Int.cast_ofNat_Int, false_and, and_false]
  have f2 : Fp (fun b _ => b = ta + 1) h1 (cpI h1 (pp + 6) 0 (ta + 1) 0 6) := (Fp.refl (fun b _ => b = ta + 1) h1).cp _ _ _ _ (fun j _ _ => rfl)
  have w2 : ∀ g, g < 6 → hI (cpI h1 (pp + 6) 0 (ta + 1) 0 6) (ta + 1) g = sA σ (27 + g) := fun g hg => by
    rw [hI_cp, if_pos ⟨rfl, Nat.zero_le _, by omega⟩, show 0 + (g - 0) = g by omega]; exact po g hg
  generalize cpI h1 (pp + 6) 0 (ta + 1) 0 6 = h2 at f2 w2 ⊢
  have x2 := x1.fp f2 (fun b _ q => q ▸ t2_ta.2.1)
  obtain ⟨K02, R02, _⟩ := x2.2.2.2.1.ks
  have KS2 := x2.2.2.2.2.1.2.1.1
  obtain ⟨pp2, q0, ql, _, _, q2, qk, qG, qr5, qk6, qo⟩ := x2.2.2.2.2.1.2.2.2.2.2.2.1
  have z2 : ∀ i, i < 12 → hI h2 (ta + 2) i = -1 := fun i hi => by rw [f2.I t12_ne]; exact z1 i hi
  have G6 := G_6 w
  simp only [rX9_spreadByOdds_25, rX9_spreadByOdds_26, rX9_spreadByOdds_27, rX9_spreadByOdds_30, rX9_spreadByOdds_33, K02, R02, KS2, q0, qk, Int.toNat_natCast, Int.natCast_nonneg, true_and, and_true, and_self, if_true, if_false, or_true, true_or, or_false, false_or, ne_eq, not_true_eq_false, not_false_eq_true, Nat.reduceLeDiff, Nat.reduceEqDiff, Nat.reduceLT, Nat.reduceAdd, Nat.reduceMul, Nat.reduceSub, Int.reduceLT, Int.reduceLE, Int.reduceEq, Int.reduceToNat, Int.reduceAdd, Int.reduceSub, Int.reduceMul, Int.reduceNeg, Int.cast_ofNat_Int, false_and, and_false]
  refine S_allOdds (d := d + 5) w.1 qk qr5 qk6 qG qo ?_
  have es := (wO_s w (GA σ) G6).1
  have es' : (smW (wO σ) (GA σ) : Int) = sumG (sA σ) (sA σ 2).toNat := es
  rw [← es']
  have ew : ∀ g, g < GA σ → hI h2 (ta + 1) g = (wO σ g : Int) := fun g hg => by
    rw [w2 g (Nat.lt_of_lt_of_le hg G6)]
    exact (toN (w.1.2.2.2.2.2.2.2 g (Nat.lt_of_lt_of_le hg G6)).1).symm
  have bd : ∀ m, m ≤ 6 → smW (wO σ) (GA σ) ^ m < 9223372036854775808 := fun m hm => Nat.lt_trans (pow54 w hm) (by decide)
  have fin : ∀ m, m = nO σ n → WP (d + 5 + 1) mX9_spreadByOdds 44 [some (.inr (.inr ta)), some (.inl (n : Int))] [.inl (m : Int), .inr (.inr ta)] h2 Q := by
    intro m hm
    have m6 : m ≤ 6 := by rw [hm]; exact nO_le hn
    simp only [rX9_spreadByOdds_44, K02, Int.toNat_natCast, Int.natCast_nonneg, true_and, and_true, and_self, if_true, if_false, or_true, true_or, or_false, false_or, ne_eq, not_true_eq_false, not_false_eq_true, Nat.reduceLeDiff, Nat.reduceEqDiff, Nat.reduceLT, Nat.reduceAdd, Nat.reduceMul, Nat.reduceSub, Int.reduceLT, Int.reduceLE, Int.reduceEq, Int.reduceToNat, Int.reduceAdd, Int.reduceSub, Int.reduceMul, Int.reduceNeg, Int.cast_ofNat_Int, false_and, and_false]
    refine S_spread (z := fun _ => -1) (W := wO σ) x2 (GA_e w) (Nat.le_trans m6 (by decide)) z2 ew (x2.2.2.2.2.1.mem (GA_e w)) (fun q hq => bd q (Nat.le_trans hq m6)) ?_
    intro h3 x3 t3
    simp only [psh_none, rX9_spreadByOdds_47]
    rw [hm] at t3
    exact k h3 x3 t3
  simp only [psh_some, rX9_spreadByOdds_36]
  by_cases hz : smW (wO σ) (GA σ) = 0
  · have g0 := fin 0 (by unfold nO; rw [if_pos hz])
    rw [if_pos (by omega)]
    simp only [rX9_spreadByOdds_39, rX9_spreadByOdds_40]
    exact g0
  · have g0 := fin n (by unfold nO; rw [if_neg hz])
    rw [if_neg (by omega)]
    simp only [rX9_spreadByOdds_43]
    exact g0
/-- a chance's two numbers -/
def cAb (σ : AS) (t n : Nat) : Nat := smT (LA σ) (chD σ (nO σ n)) t (LA σ).length
def cBe (σ : AS) (n : Nat) : Nat := smW (wO σ) (GA σ) ^ nO σ n
theorem cAb_le {σ : AS} (ok : lsOk (LA σ)) (hf : ∀ g p, g < GA σ → p < (LA σ).length → fA σ g ((LA σ).getD p 0) ∈ LA σ) (t n : Nat) : cAb σ t n ≤ cBe σ n := by
  have := smT_le (L := LA σ) (D := chD σ (nO σ n)) (t := t) (LA σ).length
  rw [chD_s ok hf] at this
  exact this
def chV (σ : AS) (t n wh : Int) : Int := if (0 ≤ t ∧ t < sA σ 1) ∧ 0 ≤ wh ∧ wh ≤ 1 then (if 0 ≤ n ∧ n ≤ 6 then (((if wh = 0 then cAb σ t.toNat n.toNat else cBe σ n.toNat) / Nat.gcd (cAb σ t.toNat n.toNat) (cBe σ n.toNat) : Nat) : Int) else -3) else -2
theorem div_w {a b c : Nat} (h : a ≤ c) (hc : c < 2 ^ 35) : w64 ((a / b : Nat) : Int) = ((a / b : Nat) : Int) := w64_nat (Nat.lt_of_le_of_lt (Nat.div_le_self _ _) (Nat.lt_of_le_of_lt h (Nat.lt_trans hc (by decide))))
set_option maxHeartbeats 1000000 in
theorem C_chance {d : Nat} {σ : AS} {t n wh : Int} : CSpec (d + 7) mX11_chance [some (.inr (.inr 200)), some (.inl t), some (.inl n), some (.inl wh), none, none, none, none, none, none, none] σ (.inr (.inl (chV σ t n wh))) σ := by
  intro h Q x w k
  have m := x.1.1
  have bad : ¬ ((0 ≤ t ∧ t < sA σ 1) ∧ 0 ≤ wh ∧ wh ≤ 1) → WP (d + 7) mX11_chance 17 [some (.inr (.inr 200)), some (.inl t), some (.inl n), some (.inl wh), none, none, none, none, none, none, none] [] h Q := by
    intro hn
    unfold chV at k
    rw [if_neg hn] at k
    simp only [rX11_chance_17, rX11_chance_20]
    exact k h x (Cfr.refl h)
  simp only [rX11_chance_0, rX11_chance_1, rX11_chance_2, rX11_chance_5, Cs_K200 m, Cs_R200_0 m, Cs_R200_1 m, Cs_R200_2 m, Cs_R200_3 m, Cs_R200_4 m, Cs_R200_5 m, Cs_R200_6 m, Cs_K201 m, Cs_R201_0 m, Cs_R201_1 m, Cs_K202 m, Cs_K203 m, Cs_K211 m, Cs_R211_0 m, Cs_R211_1 m, Cs_K212 m, Cs_K213 m, Cs_K214 m, Cs_R214_0 m, Cs_R214_1 m, Cs_K215 m, Cs_K216 m, Cs_K217 m, Cs_R217_0 m, Cs_R217_1 m, Cs_K218 m, Cs_K219 m, Cs_K220 m, Cs_R220_0 m, Cs_K221 m, Cs_K262 m, Cs_K271 m, Cs_R271_0 m, Cs_R271_1 m, Cs_K272 m, Cs_K276 m, Cs_R272_0 m, Cs_R276_0 m, Cs_K273 m, Cs_R273_0 m, Cs_R273_1 m, Cs_K274 m, Cs_K275 m, Cs_K277 m, Cs_R277_0 m, Cs_R277_1 m, Cs_K278 m, Cs_K279 m, Cs_R262_0 m, Cs_K263 m, Cs_R263_0 m, Cs_K264 m, Cs_R262_1 m, Cs_K265 m, Cs_R265_0 m, Cs_K266 m, Cs_R262_2 m, Cs_K267 m, Cs_R267_0 m, Cs_K268 m, Cs_R262_3 m, Cs_K269 m, Cs_R269_0 m, Cs_K270 m, Int.toNat_natCast, Int.natCast_nonneg, true_and, and_true, and_self, if_true, if_false, or_true, true_or, or_false, false_or, ne_eq, not_true_eq_false, not_false_eq_true, Nat.reduceLeDiff, Nat.reduceEqDiff, Nat.reduceLT, Nat.reduceAdd, Nat.reduceMul, Nat.reduceSub, Int.reduceLT, Int.reduceLE, Int.reduceEq, Int.reduceToNat, Int.reduceAdd, Int.reduceSub, Int.reduceMul, Int.reduceNeg, Int.cast_ofNat_Int, false_and, and_false, S_cThing (x.cp w), psh_some]
  by_cases h1 : 0 ≤ t ∧ t < sA σ 1
  · rw [if_pos h1, if_neg (by decide), rX11_chance_8, rX11_chance_9]
    by_cases h2 : wh < 0
    · rw [if_pos h2]; exact bad (fun c => absurd c.2.1 (Int.not_le.2 h2))
    · rw [if_neg h2, rX11_chance_12, rX11_chance_13, rX11_chance_14]
      by_cases h3 : 1 < wh
      · rw [if_pos h3]; exact bad (fun c => absurd c.2.2 (Int.not_le.2 h3))
      · rw [if_neg h3]
        clear bad
        unfold chV at k
        rw [if_pos ⟨h1, Int.not_lt.1 h2, Int.not_lt.1 h3⟩] at k
        obtain ⟨tt, rfl⟩ := Int.eq_ofNat_of_zero_le h1.1
        have t6 := t_6 h1.2 w.1.2.1
        have badn : ¬ (0 ≤ n ∧ n ≤ 6) → WP (d + 7) mX11_chance 31 [some (.inr (.inr 200)), some (.inl (tt : Int)), some (.inl n), some (.inl wh), none, none, none, none, none, none, none] [] h Q := by
          intro hn
          rw [if_neg hn] at k
          simp only [rX11_chance_31, rX11_chance_34]
          exact k h x (Cfr.refl h)
        rw [rX11_chance_21, rX11_chance_22]
        by_cases h4 : n < 0
        · rw [if_pos h4]; exact badn (fun c => absurd c.1 (Int.not_le.2 h4))
        · rw [if_neg h4, rX11_chance_25, rX11_chance_26, rX11_chance_28]
          by_cases h5 : 6 < n
          · rw [if_pos h5]; exact badn (fun c => absurd c.2 (Int.not_le.2 h5))
          · rw [if_neg h5]
            clear badn
            rw [if_pos ⟨Int.not_lt.1 h4, Int.not_lt.1 h5⟩] at k
            obtain ⟨N, rfl⟩ := Int.eq_ofNat_of_zero_le (Int.not_lt.1 h4)
            have N6 : N ≤ 6 := Int.ofNat_le.1 (Int.not_lt.1 h5)
            simp only [Int.toNat_natCast] at k
            simp only [rX11_chance_35, rX11_chance_36, Cs_K200 m, Cs_R200_0 m, Cs_R200_1 m, Cs_R200_2 m, Cs_R200_3 m, Cs_R200_4 m, Cs_R200_5 m, Cs_R200_6 m, Cs_K201 m, Cs_R201_0 m, Cs_R201_1 m, Cs_K202 m, Cs_K203 m, Cs_K211 m, Cs_R211_0 m, Cs_R211_1 m, Cs_K212 m, Cs_K213 m, Cs_K214 m, Cs_R214_0 m, Cs_R214_1 m, Cs_K215 m, Cs_K216 m, Cs_K217 m, Cs_R217_0 m, Cs_R217_1 m, Cs_K218 m, Cs_K219 m, Cs_K220 m, Cs_R220_0 m, Cs_K221 m, Cs_K262 m, Cs_K271 m, Cs_R271_0 m, Cs_R271_1 m, Cs_K272 m, Cs_K276 m, Cs_R272_0 m, Cs_R276_0 m, Cs_K273 m, Cs_R273_0 m, Cs_R273_1 m, Cs_K274 m, Cs_K275 m, Cs_K277 m, Cs_R277_0 m, Cs_R277_1 m, Cs_K278 m, Cs_K279 m, Cs_R262_0 m, Cs_K263 m, Cs_R263_0 m, Cs_K264 m, Cs_R262_1 m, Cs_K265 m, Cs_R265_0 m, Cs_K266 m, Cs_R262_2 m, Cs_K267 m, Cs_R267_0 m, Cs_K268 m, Cs_R262_3 m, Cs_K269 m, Cs_R269_0 m, Cs_K270 m, Int.toNat_natCast, Int.natCast_nonneg, true_and, and_true, and_self, if_true, if_false, or_true, true_or, or_false, false_or, ne_eq, not_true_eq_false, not_false_eq_true, Nat.reduceLeDiff, Nat.reduceEqDiff, Nat.reduceLT, Nat.reduceAdd, Nat.reduceMul, Nat.reduceSub, Int.reduceLT, Int.reduceLE, Int.reduceEq, Int.reduceToNat, Int.reduceAdd, Int.reduceSub, Int.reduceMul, Int.reduceNeg, Int.cast_ofNat_Int, false_and, and_false]
            refine S_tally x w ?_
            intro h1' ta se th c1
            have tw : TW h1' h1' (sA σ) (fA σ) (2 ^ GA σ - 1) (LA σ) ta se := th.tw
            obtain ⟨K0, _⟩ := tw.2.2.2.1.ks
            simp only [psh_some, rX11_chance_39, rX11_chance_41, rX11_chance_43, rX11_chance_44, K0, Int.toNat_natCast, Int.natCast_nonneg, true_and, and_true, and_self, if_true, if_false, or_true, true_or, or_false, false_or, ne_eq, not_true_eq_false, not_false_eq_true, Nat.reduceLeDiff, Nat.reduceEqDiff, Nat.reduceLT, Nat.reduceAdd, Nat.reduceMul, Nat.reduceSub, Int.reduceLT, Int.reduceLE, Int.reduceEq, Int.reduceToNat, Int.reduceAdd, Int.reduceSub, Int.reduceMul, Int.reduceNeg, Int.cast_ofNat_Int, false_and, and_false]
            refine S_spreadByOdds (d := d) w tw N6 ?_
            intro h2' tw2 tc2
            obtain ⟨K02, _⟩ := tw2.2.2.2.1.ks
            have ok := tw2.2.2.2.2.1.2.2.2.1
            have hf := tw2.2.2.2.2.1.mem (GA_e w)
            have le := cAb_le ok hf tt N
            have lt : cBe σ N < 2 ^ 35 := pow54 w (nO_le N6)
            have la : w64 (smT (LA σ) (chD σ (nO σ N)) tt (LA σ).length : Int) = (cAb σ tt N : Int) := w64_nat (Nat.lt_of_le_of_lt le (Nat.lt_trans lt (by decide)))
            have lb : w64 (smL (LA σ) (chD σ (nO σ N)) (LA σ).length : Int) = (cBe σ N : Int) := by
              rw [chD_s ok hf]; exact w64_nat (Nat.lt_trans lt (by decide))
            simp only [psh_none, rX11_chance_47, rX11_chance_49, rX11_chance_50, K02, Int.toNat_natCast, Int.natCast_nonneg, true_and, and_true, and_self, if_true, if_false, or_true, true_or, or_false, false_or, ne_eq, not_true_eq_false, not_false_eq_true, Nat.reduceLeDiff, Nat.reduceEqDiff, Nat.reduceLT, Nat.reduceAdd, Nat.reduceMul, Nat.reduceSub, Int.reduceLT, Int.reduceLE, Int.reduceEq, Int.reduceToNat, Int.reduceAdd, Int.reduceSub, Int.reduceMul, Int.reduceNeg, Int.cast_ofNat_Int, false_and, and_false]
            refine S_totalWith (d := d + 4) tw2 tc2 t6 ?_
            rw [la]
            simp only [psh_some, rX11_chance_53, rX11_chance_55, rX11_chance_57, K02, Int.toNat_natCast, Int.natCast_nonneg, true_and, and_true, and_self, if_true, if_false, or_true, true_or, or_false, false_or, ne_eq, not_true_eq_false, not_false_eq_true, Nat.reduceLeDiff, Nat.reduceEqDiff, Nat.reduceLT, Nat.reduceAdd, Nat.reduceMul, Nat.reduceSub, Int.reduceLT, Int.reduceLE, Int.reduceEq, Int.reduceToNat, Int.reduceAdd, Int.reduceSub, Int.reduceMul, Int.reduceNeg, Int.cast_ofNat_Int, false_and, and_false]
            refine S_totalOfAll (d := d + 6) tw2 tc2 ?_
            rw [lb]
            obtain ⟨x3, c3⟩ := th.done tw2
            have k0 := k h2' x3 (c1.trans c3).1
            have gp : 0 < Nat.gcd (cAb σ tt N) (cBe σ N) := Nat.gcd_pos_of_pos_right _ pos_n
            have gz : ¬ ((Nat.gcd (cAb σ tt N) (cBe σ N) : Int) = 0) := fun c => absurd (Int.ofNat_eq_zero.1 c) (Nat.ne_of_gt gp)
            have d1 := div_w (b := Nat.gcd (cAb σ tt N) (cBe σ N)) le lt
            have d2 := div_w (b := Nat.gcd (cAb σ tt N) (cBe σ N)) (Nat.le_refl (cBe σ N)) lt
            simp only [psh_some, rX11_chance_60, rX11_chance_62, rX11_chance_64, rX11_chance_66, S_greatestShared lt]
            simp only [psh_some, rX11_chance_69, rX11_chance_71, rX11_chance_73, rX11_chance_74, rX11_chance_75, lcm_zero, gz, if_false]
            rw [rX11_chance_82, rX11_chance_83]
            by_cases hw : wh = 0
            · simp only [if_pos hw] at k0
              rw [if_pos hw]
              simp only [rX11_chance_86, rX11_chance_88, rX11_chance_93, rX11_chance_95, rX11_chance_96, tdiv_nn, d1, gz, ne_eq, not_false_eq_true, true_and]
              exact k0
            · simp only [if_neg hw] at k0
              rw [if_neg hw]
              simp only [rX11_chance_91, rX11_chance_93, rX11_chance_95, rX11_chance_96, tdiv_nn, d2, gz, ne_eq, not_false_eq_true, true_and]
              exact k0
  · rw [if_neg h1, if_pos (by trivial)]
    exact bad (fun c => h1 c.1)
