/-! the likeliest; the reference's chances -/
def lkB (S : Nat → Nat) (th : Nat) : Nat → Int
  | 0 => -1
  | n + 1 => if th.testBit n = true then lkB S th n else if lkB S th n = -1 ∨ S (lkB S th n).toNat < S n then (n : Int) else lkB S th n
theorem lkB_in {S : Nat → Nat} {th : Nat} : ∀ n, lkB S th n = -1 ∨ ∃ q : Nat, lkB S th n = (q : Int) ∧ q < n := by
  intro n
  induction n with
  | zero => exact Or.inl rfl
  | succ n ih =>
    have up : lkB S th n = -1 ∨ ∃ q : Nat, lkB S th n = (q : Int) ∧ q < n + 1 := by
      rcases ih with h | ⟨q, h1, h2⟩
      · exact Or.inl h
      · exact Or.inr ⟨q, h1, by omega⟩
    unfold lkB
    split
    · exact up
    · split
      · exact Or.inr ⟨n, rfl, by omega⟩
      · exact up
def lkV (σ : AS) (n : Int) : Int := if 0 ≤ n ∧ n ≤ 6 then lkB (fun t => cAb σ t n.toNat) (sA σ 34).toNat (sA σ 1).toNat else -3
/-- what the class holds beside it -/
def lkM (S : Nat → Nat) (z : Int) : Int := if z = -1 then -1 else (S z.toNat : Int)
theorem t31 {t : Nat} (h : t < 6) : t < 31 ∧ w32 ((t : Int) + 1) = ((t + 1 : Nat) : Int) := ⟨by omega, w32_s (by omega)⟩
theorem lkM_lt {S : Nat → Nat} {z : Int} {n : Nat} : (lkM S z < (S n : Int)) = (z = -1 ∨ S z.toNat < S n) := by
  unfold lkM
  apply propext
  by_cases h : z = -1
  · rw [if_pos h]
    exact ⟨fun _ => Or.inl h, fun _ => by omega⟩
  · rw [if_neg h]
    exact ⟨fun q => Or.inr (by omega), fun q => q.elim (fun c => absurd c h) (fun c => by omega)⟩
theorem lkM_neg {S : Nat → Nat} {z : Int} : ¬ (lkM S z < -1) := by
  unfold lkM
  split <;> omega
theorem tz_n {t : Nat} {z : Int} (h : t + 0 = z.toNat) (h0 : 0 ≤ z) : (t : Int) = z ∧ t = z.toNat := by omega
theorem ts_n {t b : Nat} {z : Int} (h : t + (b + 1) = z.toNat) : (t : Int) < z ∧ t + 1 + b = z.toNat := by omega
theorem neg1 {t : Nat} : ¬ ((t : Int) = -1) := by omega
theorem t_2 {z : Int} (h : z < 64) : z.toNat < 2147483648 ∧ z.toNat < 64 := by omega
set_option maxHeartbeats 1000000 in
theorem C_likeliest {d : Nat} {σ : AS} {n : Int} : CSpec (d + 7) mX11_likeliest [some (.inr (.inr 200)), some (.inl n), none, none, none, none, none, none, none] σ (.inl (lkV σ n)) σ := by
  intro h Q x w k
  have m := x.1.1
  unfold lkV at k
  have bad : ¬ (0 ≤ n ∧ n ≤ 6) → WP (d + 7) mX11_likeliest 10 [some (.inr (.inr 200)), some (.inl n), none, none, none, none, none, none, none] [] h Q := by
    intro hn
    rw [if_neg hn] at k
    simp only [rX11_likeliest_10, rX11_likeliest_12]
    exact k h x (Cfr.refl h)
  rw [rX11_likeliest_0, rX11_likeliest_1]
  by_cases h4 : n < 0
  · rw [if_pos h4]; exact bad (fun c => absurd c.1 (Int.not_le.2 h4))
  · rw [if_neg h4, rX11_likeliest_4, rX11_likeliest_5, rX11_likeliest_7]
    by_cases h5 : 6 < n
    · rw [if_pos h5]; exact bad (fun c => absurd c.2 (Int.not_le.2 h5))
    · rw [if_neg h5]
      clear bad
      rw [if_pos ⟨Int.not_lt.1 h4, Int.not_lt.1 h5⟩] at k
      obtain ⟨N, rfl⟩ := Int.eq_ofNat_of_zero_le (Int.not_lt.1 h4)
      have N6 : N ≤ 6 := Int.ofNat_le.1 (Int.not_lt.1 h5)
      simp only [Int.toNat_natCast] at k
      simp only [rX11_likeliest_13, rX11_likeliest_14, Cs_K200 m, Cs_R200_0 m, Cs_R200_1 m, Cs_R200_2 m, Cs_R200_3 m, Cs_R200_4 m, Cs_R200_5 m, Cs_R200_6 m, Cs_K201 m, Cs_R201_0 m, Cs_R201_1 m, Cs_K202 m, Cs_K203 m, Cs_K211 m, Cs_R211_0 m, Cs_R211_1 m, Cs_K212 m, Cs_K213 m, Cs_K214 m, Cs_R214_0 m, Cs_R214_1 m, Cs_K215 m, Cs_K216 m, Cs_K217 m, Cs_R217_0 m, Cs_R217_1 m, Cs_K218 m, Cs_K219 m, Cs_K220 m, Cs_R220_0 m, Cs_K221 m, Cs_K262 m, Cs_K271 m, Cs_R271_0 m, Cs_R271_1 m, Cs_K272 m, Cs_K276 m, Cs_R272_0 m, Cs_R276_0 m, Cs_K273 m, Cs_R273_0 m, Cs_R273_1 m, Cs_K274 m, Cs_K275 m, Cs_K277 m, Cs_R277_0 m, Cs_R277_1 m, Cs_K278 m, Cs_K279 m, Cs_R262_0 m, Cs_K263 m, Cs_R263_0 m, Cs_K264 m, Cs_R262_1 m, Cs_K265 m, Cs_R265_0 m, Cs_K266 m, Cs_R262_2 m, Cs_K267 m, Cs_R267_0 m, Cs_K268 m, Cs_R262_3 m, Cs_K269 m, Cs_R269_0 m, Cs_K270 m, Int.toNat_natCast, Int.natCast_nonneg, true_and, and_true, and_self, if_true, if_false, or_true, true_or, or_false, false_or, ne_eq, not_true_eq_false, not_false_eq_true, Nat.reduceLeDiff, Nat.reduceEqDiff, Nat.reduceLT, Nat.reduceAdd, Nat.reduceMul, Nat.reduceSub, Int.reduceLT, Int.reduceLE, Int.reduceEq, Int.reduceToNat, Int.reduceAdd, Int.reduceSub, Int.reduceMul, Int.reduceNeg, Int.cast_ofNat_Int, false_and, and_false]
      refine S_tally x w ?_
      intro h1' ta se th c1
      have tw : TW h1' h1' (sA σ) (fA σ) (2 ^ GA σ - 1) (LA σ) ta se := th.tw
      obtain ⟨K0, _⟩ := tw.2.2.2.1.ks
      simp only [psh_some, rX11_likeliest_17, rX11_likeliest_18, rX11_likeliest_19, rX11_likeliest_20, K0, Int.toNat_natCast, Int.natCast_nonneg, true_and, and_true, and_self, if_true, if_false, or_true, true_or, or_false, false_or, ne_eq, not_true_eq_false, not_false_eq_true, Nat.reduceLeDiff, Nat.reduceEqDiff, Nat.reduceLT, Nat.reduceAdd, Nat.reduceMul, Nat.reduceSub, Int.reduceLT, Int.reduceLE, Int.reduceEq, Int.reduceToNat, Int.reduceAdd, Int.reduceSub, Int.reduceMul, Int.reduceNeg, Int.cast_ofNat_Int, false_and, and_false]
      refine S_spreadByOdds (d := d) w tw N6 ?_
      intro h2' tw2 tc2
      obtain ⟨x3, c3⟩ := th.done tw2
      have k0 := k h2' x3 (c1.trans c3).1
      have m3 := x3.1.1
      obtain ⟨K02, _⟩ := tw2.2.2.2.1.ks
      have ok := tw2.2.2.2.2.1.2.2.2.1
      have hf := tw2.2.2.2.2.1.mem (GA_e w)
      have lt : cBe σ N < 2 ^ 35 := pow54 w (nO_le N6)
      have la : ∀ t, w64 (smT (LA σ) (chD σ (nO σ N)) t (LA σ).length : Int) = (cAb σ t N : Int) := fun t => w64_nat (Nat.lt_of_le_of_lt (cAb_le ok hf t N) (Nat.lt_trans lt (by decide)))
      obtain ⟨p, hp, _, _, _, pk, _, _, _, _, _, _, _, _, pT, _⟩ := (x3.cp w).get
      have T6 := w.1.2.1
      have T0 := w.1.1
      have so := w.2.1
      have s3 := so.2.2.1
      have s4 := so.2.2.2.1
      rw [stA1] at s3 s4
      have st3 := x3.1.2.2.2.1.2.1
      rw [stA1] at st3
      have st' : hI h2' 214 3 = (((sA σ 34).toNat : Nat) : Int) := by rw [st3, toN s3]
      have th31 : (sA σ 34).toNat < 2147483648 := (t_2 s4).1
      simp only [psh_none, rX11_likeliest_23, rX11_likeliest_24, rX11_likeliest_25, rX11_likeliest_28, rX11_likeliest_30, rX11_likeliest_31]
      have main : ∀ b t (y7 y8 : Option PV), t + b = (sA σ 1).toNat → WP (d + 7) mX11_likeliest 33 [some (.inr (.inr 200)), some (.inl (N : Int)), some (.inr (.inr ta)), some (.inl (lkB (fun t => cAb σ t N) (sA σ 34).toNat t)), some (.inr (.inl (lkM (fun t => cAb σ t N) (lkB (fun t => cAb σ t N) (sA σ 34).toNat t)))), none, some (.inl (t : Int)), y7, y8] [] h2' Q := by
        intro b
        induction b with
        | zero =>
          intro t y7 y8 ht
          obtain ⟨et, et'⟩ := tz_n ht T0
          rw [rX11_likeliest_33]
          simp only [rX11_likeliest_35, rX11_likeliest_36, rX11_likeliest_39, rX11_likeliest_42, rX11_likeliest_95, rX11_likeliest_96, Cs_K200 m3, Cs_R200_0 m3, Cs_R200_1 m3, Cs_R200_2 m3, Cs_R200_3 m3, Cs_R200_4 m3, Cs_R200_5 m3, Cs_R200_6 m3, Cs_K201 m3, Cs_R201_0 m3, Cs_R201_1 m3, Cs_K202 m3, Cs_K203 m3, Cs_K211 m3, Cs_R211_0 m3, Cs_R211_1 m3, Cs_K212 m3, Cs_K213 m3, Cs_K214 m3, Cs_R214_0 m3, Cs_R214_1 m3, Cs_K215 m3, Cs_K216 m3, Cs_K217 m3, Cs_R217_0 m3, Cs_R217_1 m3, Cs_K218 m3, Cs_K219 m3, Cs_K220 m3, Cs_R220_0 m3, Cs_K221 m3, Cs_K262 m3, Cs_K271 m3, Cs_R271_0 m3, Cs_R271_1 m3, Cs_K272 m3, Cs_K276 m3, Cs_R272_0 m3, Cs_R276_0 m3, Cs_K273 m3, Cs_R273_0 m3, Cs_R273_1 m3, Cs_K274 m3, Cs_K275 m3, Cs_K277 m3, Cs_R277_0 m3, Cs_R277_1 m3, Cs_K278 m3, Cs_K279 m3, Cs_R262_0 m3, Cs_K263 m3, Cs_R263_0 m3, Cs_K264 m3, Cs_R262_1 m3, Cs_K265 m3, Cs_R265_0 m3, Cs_K266 m3, Cs_R262_2 m3, Cs_K267 m3, Cs_R267_0 m3, Cs_K268 m3, Cs_R262_3 m3, Cs_K269 m3, Cs_R269_0 m3, Cs_K270 m3, hp, pk, pT, et, Int.lt_irrefl, Int.toNat_natCast, Int.natCast_nonneg, true_and, and_true, and_self, if_true, if_false, or_true, true_or, or_false, false_or, ne_eq, not_true_eq_false, not_false_eq_true, Nat.reduceLeDiff, Nat.reduceEqDiff, Nat.reduceLT, Nat.reduceAdd, Nat.reduceMul, Nat.reduceSub, Int.reduceLT, Int.reduceLE, Int.reduceEq, Int.reduceToNat, Int.reduceAdd, Int.reduceSub, Int.reduceMul, Int.reduceNeg, Int.cast_ofNat_Int, false_and, and_false]
          rw [et']
          exact k0
        | succ b ih =>
          intro t y7 y8 ht
          obtain ⟨tT, hn⟩ := ts_n ht
          have t6 := t_6 tT T6
          obtain ⟨ta31, t1⟩ := t31 t6
          have hs : lkB (fun t => cAb σ t N) (sA σ 34).toNat (t + 1) = if (sA σ 34).toNat.testBit t = true then lkB (fun t => cAb σ t N) (sA σ 34).toNat t else if lkB (fun t => cAb σ t N) (sA σ 34).toNat t = -1 ∨ cAb σ (lkB (fun t => cAb σ t N) (sA σ 34).toNat t).toNat N < cAb σ t N then (t : Int) else lkB (fun t => cAb σ t N) (sA σ 34).toNat t := rfl
          rw [rX11_likeliest_33]
          simp only [rX11_likeliest_35, rX11_likeliest_36, rX11_likeliest_39, rX11_likeliest_42, rX11_likeliest_45, rX11_likeliest_46, rX11_likeliest_49, rX11_likeliest_52, rX11_likeliest_54, rX11_likeliest_57, Cs_K200 m3, Cs_R200_0 m3, Cs_R200_1 m3, Cs_R200_2 m3, Cs_R200_3 m3, Cs_R200_4 m3, Cs_R200_5 m3, Cs_R200_6 m3, Cs_K201 m3, Cs_R201_0 m3, Cs_R201_1 m3, Cs_K202 m3, Cs_K203 m3, Cs_K211 m3, Cs_R211_0 m3, Cs_R211_1 m3, Cs_K212 m3, Cs_K213 m3, Cs_K214 m3, Cs_R214_0 m3, Cs_R214_1 m3, Cs_K215 m3, Cs_K216 m3, Cs_K217 m3, Cs_R217_0 m3, Cs_R217_1 m3, Cs_K218 m3, Cs_K219 m3, Cs_K220 m3, Cs_R220_0 m3, Cs_K221 m3, Cs_K262 m3, Cs_K271 m3, Cs_R271_0 m3, Cs_R271_1 m3, Cs_K272 m3, Cs_K276 m3, Cs_R272_0 m3, Cs_R276_0 m3, Cs_K273 m3, Cs_R273_0 m3, Cs_R273_1 m3, Cs_K274 m3, Cs_K275 m3, Cs_K277 m3, Cs_R277_0 m3, Cs_R277_1 m3, Cs_K278 m3, Cs_K279 m3, Cs_R262_0 m3, Cs_K263 m3, Cs_R263_0 m3, Cs_K264 m3, Cs_R262_1 m3, Cs_K265 m3, Cs_R265_0 m3, Cs_K266 m3, Cs_R262_2 m3, Cs_K267 m3, Cs_R267_0 m3, Cs_K268 m3, Cs_R262_3 m3, Cs_K269 m3, Cs_R269_0 m3, Cs_K270 m3, hp, pk, pT, tT, st', S_has (b := (sA σ 34).toNat) (i := t) th31 ta31, psh_some, Int.toNat_natCast, Int.natCast_nonneg, true_and, and_true, and_self, if_true, if_false, or_true, true_or, or_false, false_or, ne_eq, not_true_eq_false, not_false_eq_true, Nat.reduceLeDiff, Nat.reduceEqDiff, Nat.reduceLT, Nat.reduceAdd, Nat.reduceMul, Nat.reduceSub, Int.reduceLT, Int.reduceLE, Int.reduceEq, Int.reduceToNat, Int.reduceAdd, Int.reduceSub, Int.reduceMul, Int.reduceNeg, Int.cast_ofNat_Int, false_and, and_false]
          by_cases hb : (sA σ 34).toNat.testBit t = true
          · rw [if_pos hb] at hs
            have go := ih (t + 1) (some (.inr (.inl (-1)))) none hn
            rw [hs] at go
            simp only [if_pos hb]
            rw [if_neg (by decide)]
            simp only [rX11_likeliest_60, rX11_likeliest_63, rX11_likeliest_72, rX11_likeliest_74, rX11_likeliest_76, rX11_likeliest_78, rX11_likeliest_79, lcm_pos, lkM_neg, if_false]
            simp only [rX11_likeliest_89, rX11_likeliest_92, t1]
            exact go
          · rw [if_neg hb] at hs
            simp only [if_neg hb]
            rw [if_pos (by trivial)]
            simp only [rX11_likeliest_66, rX11_likeliest_67, rX11_likeliest_69, K02, Int.toNat_natCast, Int.natCast_nonneg, true_and, and_true, and_self, if_true, if_false, or_true, true_or, or_false, false_or, ne_eq, not_true_eq_false, not_false_eq_true, Nat.reduceLeDiff, Nat.reduceEqDiff, Nat.reduceLT, Nat.reduceAdd, Nat.reduceMul, Nat.reduceSub, Int.reduceLT, Int.reduceLE, Int.reduceEq, Int.reduceToNat, Int.reduceAdd, Int.reduceSub, Int.reduceMul, Int.reduceNeg, Int.cast_ofNat_Int, false_and, and_false]
            refine S_totalWith (d := d + 4) tw2 tc2 t6 ?_
            rw [la]
            have go := ih (t + 1) (some (.inr (.inl (cAb σ t N : Int)))) none hn
            have hl := lkM_lt (S := fun t => cAb σ t N) (z := lkB (fun t => cAb σ t N) (sA σ 34).toNat t) (n := t)
            simp only [psh_some, rX11_likeliest_72, rX11_likeliest_74, rX11_likeliest_76, rX11_likeliest_78, rX11_likeliest_79, lcm_pos]
            by_cases hc : lkB (fun t => cAb σ t N) (sA σ 34).toNat t = -1 ∨ cAb σ (lkB (fun t => cAb σ t N) (sA σ 34).toNat t).toNat N < cAb σ t N
            · rw [if_pos hc] at hs
              rw [hs] at go
              have em : lkM (fun t => cAb σ t N) (t : Int) = (cAb σ t N : Int) := by unfold lkM; rw [if_neg neg1, Int.toNat_natCast]
              rw [em] at go
              rw [if_pos (hl ▸ hc)]
              simp only [rX11_likeliest_82, rX11_likeliest_84, rX11_likeliest_86, rX11_likeliest_88, rX11_likeliest_89, rX11_likeliest_92, t1]
              exact go
            · rw [if_neg hc] at hs
              rw [hs] at go
              rw [if_neg (fun c => hc (hl ▸ c))]
              simp only [rX11_likeliest_89, rX11_likeliest_92, t1]
              exact go
      exact main (sA σ 1).toNat 0 _ _ (Nat.zero_add _)
