/-! lists -/
theorem Way.lt {A F : Nat → Int} (po : poolOk A) {set goal : Nat} {m : Int} {w : Nat → Nat} (hw : Way A F set goal m w) {i : Nat} (hi : (i : Int) < m) : w i < 6 := by
  rcases hw with ⟨e, no⟩ | ⟨ah, by', dv, p, t, hp, e, ew⟩
  · omega
  · have hi' : i < dv p := by omega
    rw [ew i hi']
    obtain ⟨a, b⟩ := t.anc_in hp.1 (dv p - i - 1) (by omega)
    have n0 : anc ah (dv p - i - 1) p ≠ 0 := fun z => by rw [z, t.1] at b; omega
    have c := (t.2.1 _ (Nat.pos_of_ne_zero n0) a).2.2.1
    have := po.2.2.2.1
    omega
theorem Way.ge {A F : Nat → Int} {set goal : Nat} {m : Int} {w : Nat → Nat} (hw : Way A F set goal m w) : -1 ≤ m := by
  rcases hw with ⟨e, no⟩ | ⟨ah, by', dv, p, t, hp, e, ew⟩ <;> omega
theorem Way.iff {A F : Nat → Int} {set goal : Nat} {m v : Int} {w : Nat → Nat} (hw : Way A F set goal m w) (hv : Plc (Lst A F set) (glB goal) v) : v = -1 ↔ m = -1 := by
  rcases hw with ⟨e, no⟩ | ⟨ah, by', dv, p, t, hp, e, ew⟩
  · rw [hv.no no, e]
  · rw [hv.fst hp, e]; omega
theorem cutS_6 {n : Nat} (h : n < 6) (s : Int) : cutS (n : Int) s = (n : Int) := by
  have : n = 0 ∨ n = 1 ∨ n = 2 ∨ n = 3 ∨ n = 4 ∨ n = 5 := by omega
  have e : w8 (w32 (n : Int)) = (n : Int) ∧ w16 (w32 (n : Int)) = (n : Int) ∧ w32 (n : Int) = (n : Int) := by
    rcases this with rfl | rfl | rfl | rfl | rfl | rfl <;> decide
  unfold cutS
  rw [e.1, e.2.1, e.2.2]
  split
  · rfl
  · split
    · rfl
    · split <;> rfl
def lsS (σ : AS) (t n : Nat) (w : Nat → Nat) : AS := wT σ (sSo σ) (sM σ) (fun k => if 40 * t ≤ k ∧ k < 40 * t + n then (w (k - 40 * t) : Int) else sB σ k)
theorem WF.ls {σ : AS} (x : WF σ) {t n : Nat} {w : Nat → Nat} : WF (lsS σ t n w) := x.t x.2.2.2.2.2.2.2.2
theorem lsS_B (σ : AS) (t n : Nat) (w : Nat → Nat) (hn : n < 40) (k : Nat) : upI (sB (lsS σ t n w)) (40 * t + n) (w n : Int) k = sB (lsS σ t (n + 1) w) k := by
  show (if k = 40 * t + n then (w n : Int) else if 40 * t ≤ k ∧ k < 40 * t + n then (w (k - 40 * t) : Int) else sB σ k) = (if 40 * t ≤ k ∧ k < 40 * t + (n + 1) then (w (k - 40 * t) : Int) else sB σ k)
  by_cases h1 : k = 40 * t + n
  · rw [if_pos h1, if_pos (by omega), show k - 40 * t = n by omega]
  · rw [if_neg h1]
    by_cases h2 : 40 * t ≤ k ∧ k < 40 * t + n
    · rw [if_pos h2, if_pos (by omega)]
    · rw [if_neg h2, if_neg (by omega)]
theorem lsS_s (σ : AS) (t n : Nat) (w : Nat → Nat) (hn : n < 40) : wrS (lsS σ t n w) t n (w n : Int) = lsS σ t (n + 1) w := by
  have e : upI (sB (lsS σ t n w)) (40 * t + n) (w n : Int) = sB (lsS σ t (n + 1) w) := funext (lsS_B σ t n w hn)
  show wT (lsS σ t n w) _ _ (upI (sB (lsS σ t n w)) (40 * t + n) (w n : Int)) = _
  rw [e]
  rfl
theorem lsS_0 (σ : AS) (t : Nat) (w : Nat → Nat) : lsS σ t 0 w = σ := by
  have e : (fun k => if 40 * t ≤ k ∧ k < 40 * t + 0 then (w (k - 40 * t) : Int) else sB σ k) = sB σ := funext (fun k => if_neg (by omega))
  unfold lsS
  rw [e]
  rfl
def lsV (σ : AS) (t th s mm : Int) : Int := if (0 ≤ t ∧ t < 4) ∧ 0 ≤ th ∧ th < sA σ 1 then (if sSo σ t.toNat = -1 then -6 else if 0 ≤ s ∧ s < ((2 ^ (sA σ 2).toNat : Nat) : Int) then (if mm = -1 then -5 else if sM σ t.toNat < mm then sM σ t.toNat else mm) else -3) else -2
theorem TrayIs.eq {h : Hp} {σ τ : AS} (x : TrayIs h σ) (e : σ = τ) : TrayIs h τ := e ▸ x
theorem C_lists {d : Nat} {σ : AS} {t th s mm : Int} {ww : Nat → Nat} (hs : i32 s) (hw : Way (sA σ) (stA (sA σ)) s.toNat th.toNat mm ww) : CSpec (d + 7) mX11_lists [some (.inr (.inr 200)), some (.inl t), some (.inl th), some (.inl s), none, none, none, none] σ (.inl (lsV σ t th s mm)) (if 0 ≤ lsV σ t th s mm then lsS σ t.toNat (lsV σ t th s mm).toNat ww else σ) := by
  intro h Q x w k
  have m := x.1.1
  have no : lsV σ t th s mm < 0 → Q (some (.inl (lsV σ t th s mm))) h := by
    intro hn
    simp only [if_neg (Int.not_le.2 hn)] at k
    exact k h x (Cfr.refl h)
  unfold lsV at no k
  simp only [rX11_lists_0, rX11_lists_1, rX11_lists_2, rX11_lists_5, rX11_lists_8, rX11_lists_9, rX11_lists_10, rX11_lists_13, Cs_K200 m, Cs_R200_0 m, Cs_R200_1 m, Cs_R200_2 m, Cs_R200_3 m, Cs_R200_4 m, Cs_R200_5 m, Cs_R200_6 m, Cs_K201 m, Cs_R201_0 m, Cs_R201_1 m, Cs_K202 m, Cs_K203 m, Cs_K211 m, Cs_R211_0 m, Cs_R211_1 m, Cs_K212 m, Cs_K213 m, Cs_K214 m, Cs_R214_0 m, Cs_R214_1 m, Cs_K215 m, Cs_K216 m, Cs_K217 m, Cs_R217_0 m, Cs_R217_1 m, Cs_K218 m, Cs_K219 m, Cs_K220 m, Cs_R220_0 m, Cs_K221 m, Cs_K262 m, Cs_K271 m, Cs_R271_0 m, Cs_R271_1 m, Cs_K272 m, Cs_K276 m, Cs_R272_0 m, Cs_R276_0 m, Cs_K273 m, Cs_R273_0 m, Cs_R273_1 m, Cs_K274 m, Cs_K275 m, Cs_K277 m, Cs_R277_0 m, Cs_R277_1 m, Cs_K278 m, Cs_K279 m, Cs_R262_0 m, Cs_K263 m, Cs_R263_0 m, Cs_K264 m, Cs_R262_1 m, Cs_K265 m, Cs_R265_0 m, Cs_K266 m, Cs_R262_2 m, Cs_K267 m, Cs_R267_0 m, Cs_K268 m, Cs_R262_3 m, Cs_K269 m, Cs_R269_0 m, Cs_K270 m, Int.toNat_natCast, Int.natCast_nonneg, true_and, and_true, and_self, if_true, if_false, or_true, true_or, or_false, false_or, ne_eq, not_true_eq_false, not_false_eq_true, Nat.reduceLeDiff, Nat.reduceEqDiff, Nat.reduceLT, Nat.reduceAdd, Nat.reduceMul, Nat.reduceSub, Int.reduceLT, Int.reduceLE, Int.reduceEq, Int.reduceToNat, Int.reduceAdd, Int.reduceSub, Int.reduceMul, Int.reduceNeg, Int.cast_ofNat_Int, false_and, and_false, S_cTray m, psh_some]
  by_cases h1 : 0 ≤ t ∧ t < 4
  · rw [if_pos h1, if_neg (by decide)]
    simp only [rX11_lists_8, rX11_lists_9, rX11_lists_10, rX11_lists_13, rX11_lists_16, rX11_lists_18, Cs_K200 m, Cs_R200_0 m, Cs_R200_1 m, Cs_R200_2 m, Cs_R200_3 m, Cs_R200_4 m, Cs_R200_5 m, Cs_R200_6 m, Cs_K201 m, Cs_R201_0 m, Cs_R201_1 m, Cs_K202 m, Cs_K203 m, Cs_K211 m, Cs_R211_0 m, Cs_R211_1 m, Cs_K212 m, Cs_K213 m, Cs_K214 m, Cs_R214_0 m, Cs_R214_1 m, Cs_K215 m, Cs_K216 m, Cs_K217 m, Cs_R217_0 m, Cs_R217_1 m, Cs_K218 m, Cs_K219 m, Cs_K220 m, Cs_R220_0 m, Cs_K221 m, Cs_K262 m, Cs_K271 m, Cs_R271_0 m, Cs_R271_1 m, Cs_K272 m, Cs_K276 m, Cs_R272_0 m, Cs_R276_0 m, Cs_K273 m, Cs_R273_0 m, Cs_R273_1 m, Cs_K274 m, Cs_K275 m, Cs_K277 m, Cs_R277_0 m, Cs_R277_1 m, Cs_K278 m, Cs_K279 m, Cs_R262_0 m, Cs_K263 m, Cs_R263_0 m, Cs_K264 m, Cs_R262_1 m, Cs_K265 m, Cs_R265_0 m, Cs_K266 m, Cs_R262_2 m, Cs_K267 m, Cs_R267_0 m, Cs_K268 m, Cs_R262_3 m, Cs_K269 m, Cs_R269_0 m, Cs_K270 m, Int.toNat_natCast, Int.natCast_nonneg, true_and, and_true, and_self, if_true, if_false, or_true, true_or, or_false, false_or, ne_eq, not_true_eq_false, not_false_eq_true, Nat.reduceLeDiff, Nat.reduceEqDiff, Nat.reduceLT, Nat.reduceAdd, Nat.reduceMul, Nat.reduceSub, Int.reduceLT, Int.reduceLE, Int.reduceEq, Int.reduceToNat, Int.reduceAdd, Int.reduceSub, Int.reduceMul, Int.reduceNeg, Int.cast_ofNat_Int, false_and, and_false, S_cThing (x.cp w), psh_some]
    by_cases h2 : 0 ≤ th ∧ th < sA σ 1
    · rw [if_pos h2, if_neg (by decide)]
      rw [if_pos ⟨h1, h2⟩] at no
      simp only [if_pos (And.intro h1 h2)] at k
      obtain ⟨j, rfl⟩ := Int.eq_ofNat_of_zero_le h1.1
      obtain ⟨n, rfl⟩ := Int.eq_ofNat_of_zero_le h2.1
      have n6 : n < 6 := by have := w.1.2.1; omega
      have j4 : j < 4 := by omega
      obtain ⟨r1, r2, r3, r4⟩ := Cs_tray m j4
      obtain ⟨y1, y2⟩ := x.1.2.2.2.2.2.1 j j4
      have hm := (w.2.2.2.2.2.2.2.2 j j4).2.2
      simp only [Int.toNat_natCast] at no k hw
      simp only [rX11_lists_19, rX11_lists_20, rX11_lists_23, rX11_lists_24, rX11_lists_25, rX11_lists_28, rX11_lists_31, rX11_lists_33, Cs_K200 m, Cs_R200_0 m, Cs_R200_1 m, Cs_R200_2 m, Cs_R200_3 m, Cs_R200_4 m, Cs_R200_5 m, Cs_R200_6 m, Cs_K201 m, Cs_R201_0 m, Cs_R201_1 m, Cs_K202 m, Cs_K203 m, Cs_K211 m, Cs_R211_0 m, Cs_R211_1 m, Cs_K212 m, Cs_K213 m, Cs_K214 m, Cs_R214_0 m, Cs_R214_1 m, Cs_K215 m, Cs_K216 m, Cs_K217 m, Cs_R217_0 m, Cs_R217_1 m, Cs_K218 m, Cs_K219 m, Cs_K220 m, Cs_R220_0 m, Cs_K221 m, Cs_K262 m, Cs_K271 m, Cs_R271_0 m, Cs_R271_1 m, Cs_K272 m, Cs_K276 m, Cs_R272_0 m, Cs_R276_0 m, Cs_K273 m, Cs_R273_0 m, Cs_R273_1 m, Cs_K274 m, Cs_K275 m, Cs_K277 m, Cs_R277_0 m, Cs_R277_1 m, Cs_K278 m, Cs_K279 m, Cs_R262_0 m, Cs_K263 m, Cs_R263_0 m, Cs_K264 m, Cs_R262_1 m, Cs_K265 m, Cs_R265_0 m, Cs_K266 m, Cs_R262_2 m, Cs_K267 m, Cs_R267_0 m, Cs_K268 m, Cs_R262_3 m, Cs_K269 m, Cs_R269_0 m, Cs_K270 m, Int.toNat_natCast, Int.natCast_nonneg, true_and, and_true, and_self, if_true, if_false, or_true, true_or, or_false, false_or, ne_eq, not_true_eq_false, not_false_eq_true, Nat.reduceLeDiff, Nat.reduceEqDiff, Nat.reduceLT, Nat.reduceAdd, Nat.reduceMul, Nat.reduceSub, Int.reduceLT, Int.reduceLE, Int.reduceEq, Int.reduceToNat, Int.reduceAdd, Int.reduceSub, Int.reduceMul, Int.reduceNeg, Int.cast_ofNat_Int, false_and, and_false, show (j : Int) < 4 by omega, r1, r2, y1]
      by_cases h3 : sSo σ j = -1
      · rw [if_pos h3] at no
        rw [if_pos h3, if_neg (by decide)]
        exact no (by decide)
      · rw [if_neg h3] at no
        simp only [if_neg h3] at k
        rw [if_neg h3, if_pos (by trivial)]
        simp only [rX11_lists_34, rX11_lists_35, rX11_lists_36, rX11_lists_39, rX11_lists_42, rX11_lists_44, Cs_K200 m, Cs_R200_0 m, Cs_R200_1 m, Cs_R200_2 m, Cs_R200_3 m, Cs_R200_4 m, Cs_R200_5 m, Cs_R200_6 m, Cs_K201 m, Cs_R201_0 m, Cs_R201_1 m, Cs_K202 m, Cs_K203 m, Cs_K211 m, Cs_R211_0 m, Cs_R211_1 m, Cs_K212 m, Cs_K213 m, Cs_K214 m, Cs_R214_0 m, Cs_R214_1 m, Cs_K215 m, Cs_K216 m, Cs_K217 m, Cs_R217_0 m, Cs_R217_1 m, Cs_K218 m, Cs_K219 m, Cs_K220 m, Cs_R220_0 m, Cs_K221 m, Cs_K262 m, Cs_K271 m, Cs_R271_0 m, Cs_R271_1 m, Cs_K272 m, Cs_K276 m, Cs_R272_0 m, Cs_R276_0 m, Cs_K273 m, Cs_R273_0 m, Cs_R273_1 m, Cs_K274 m, Cs_K275 m, Cs_K277 m, Cs_R277_0 m, Cs_R277_1 m, Cs_K278 m, Cs_K279 m, Cs_R262_0 m, Cs_K263 m, Cs_R263_0 m, Cs_K264 m, Cs_R262_1 m, Cs_K265 m, Cs_R265_0 m, Cs_K266 m, Cs_R262_2 m, Cs_K267 m, Cs_R267_0 m, Cs_K268 m, Cs_R262_3 m, Cs_K269 m, Cs_R269_0 m, Cs_K270 m, Int.toNat_natCast, Int.natCast_nonneg, true_and, and_true, and_self, if_true, if_false, or_true, true_or, or_false, false_or, ne_eq, not_true_eq_false, not_false_eq_true, Nat.reduceLeDiff, Nat.reduceEqDiff, Nat.reduceLT, Nat.reduceAdd, Nat.reduceMul, Nat.reduceSub, Int.reduceLT, Int.reduceLE, Int.reduceEq, Int.reduceToNat, Int.reduceAdd, Int.reduceSub, Int.reduceMul, Int.reduceNeg, Int.cast_ofNat_Int, false_and, and_false, S_cSet (x.cp w) hs, psh_some]
        by_cases h4 : 0 ≤ s ∧ s < ((2 ^ (sA σ 2).toNat : Nat) : Int)
        · rw [if_pos h4, if_neg (by decide)]
          rw [if_pos h4] at no
          simp only [if_pos h4] at k
          obtain ⟨c, rfl, hc⟩ := rSet_n h4
          simp only [Int.toNat_natCast] at hw
          simp only [rX11_lists_45, rX11_lists_46, rX11_lists_47, Cs_K200 m, Cs_R200_0 m, Cs_R200_1 m, Cs_R200_2 m, Cs_R200_3 m, Cs_R200_4 m, Cs_R200_5 m, Cs_R200_6 m, Cs_K201 m, Cs_R201_0 m, Cs_R201_1 m, Cs_K202 m, Cs_K203 m, Cs_K211 m, Cs_R211_0 m, Cs_R211_1 m, Cs_K212 m, Cs_K213 m, Cs_K214 m, Cs_R214_0 m, Cs_R214_1 m, Cs_K215 m, Cs_K216 m, Cs_K217 m, Cs_R217_0 m, Cs_R217_1 m, Cs_K218 m, Cs_K219 m, Cs_K220 m, Cs_R220_0 m, Cs_K221 m, Cs_K262 m, Cs_K271 m, Cs_R271_0 m, Cs_R271_1 m, Cs_K272 m, Cs_K276 m, Cs_R272_0 m, Cs_R276_0 m, Cs_K273 m, Cs_R273_0 m, Cs_R273_1 m, Cs_K274 m, Cs_K275 m, Cs_K277 m, Cs_R277_0 m, Cs_R277_1 m, Cs_K278 m, Cs_K279 m, Cs_R262_0 m, Cs_K263 m, Cs_R263_0 m, Cs_K264 m, Cs_R262_1 m, Cs_K265 m, Cs_R265_0 m, Cs_K266 m, Cs_R262_2 m, Cs_K267 m, Cs_R267_0 m, Cs_K268 m, Cs_R262_3 m, Cs_K269 m, Cs_R269_0 m, Cs_K270 m, Int.toNat_natCast, Int.natCast_nonneg, true_and, and_true, and_self, if_true, if_false, or_true, true_or, or_false, false_or, ne_eq, not_true_eq_false, not_false_eq_true, Nat.reduceLeDiff, Nat.reduceEqDiff, Nat.reduceLT, Nat.reduceAdd, Nat.reduceMul, Nat.reduceSub, Int.reduceLT, Int.reduceLE, Int.reduceEq, Int.reduceToNat, Int.reduceAdd, Int.reduceSub, Int.reduceMul, Int.reduceNeg, Int.cast_ofNat_Int, false_and, and_false]
          clear no
          refine S_explored x w hc ?_
          intro h' se x' c' pn ps sx srx
          simp only [psh_some, rX11_lists_50, rX11_lists_52, rX11_lists_54, rX11_lists_55, sx.2.2.1.1, Int.toNat_natCast, Int.natCast_nonneg, true_and, and_true, and_self, if_true, if_false, or_true, true_or, or_false, false_or, ne_eq, not_true_eq_false, not_false_eq_true, Nat.reduceLeDiff, Nat.reduceEqDiff, Nat.reduceLT, Nat.reduceAdd, Nat.reduceMul, Nat.reduceSub, Int.reduceLT, Int.reduceLE, Int.reduceEq, Int.reduceToNat, Int.reduceAdd, Int.reduceSub, Int.reduceMul, Int.reduceNeg, Int.cast_ofNat_Int, false_and, and_false]
          refine S_placeOfThing (d := d + 4) w.1 w.2.1 sx.2.2.1 srx n6 ?_
          intro v hv
          have iv := hw.iff hv
          simp only [psh_some, rX11_lists_58, rX11_lists_60, rX11_lists_62, rX11_lists_63, rX11_lists_66, rX11_lists_68, Int.toNat_natCast, Int.natCast_nonneg, true_and, and_true, and_self, if_true, if_false, or_true, true_or, or_false, false_or, ne_eq, not_true_eq_false, not_false_eq_true, Nat.reduceLeDiff, Nat.reduceEqDiff, Nat.reduceLT, Nat.reduceAdd, Nat.reduceMul, Nat.reduceSub, Int.reduceLT, Int.reduceLE, Int.reduceEq, Int.reduceToNat, Int.reduceAdd, Int.reduceSub, Int.reduceMul, Int.reduceNeg, Int.cast_ofNat_Int, false_and, and_false]
          by_cases h5 : mm = -1
          · simp only [if_pos h5] at k
            rw [if_pos (iv.2 h5)]
            exact k h' x' c'
          · simp only [if_neg h5] at k
            rw [if_neg (fun q => h5 (iv.1 q))]
            have m' := x'.1.1
            obtain ⟨s1, s2, s3, s4⟩ := Cs_tray m' j4
            obtain ⟨z1, z2⟩ := x'.1.2.2.2.2.2.1 j j4
            obtain ⟨u1, u2, u3⟩ := z2 h3
            simp only [rX11_lists_69, rX11_lists_71, rX11_lists_73, rX11_lists_76, rX11_lists_77, rX11_lists_80, rX11_lists_81, rX11_lists_82, rX11_lists_85, rX11_lists_88, rX11_lists_90, rX11_lists_91, Cs_K200 m', Cs_R200_0 m', Cs_R200_1 m', Cs_R200_2 m', Cs_R200_3 m', Cs_R200_4 m', Cs_R200_5 m', Cs_R200_6 m', Cs_K201 m', Cs_R201_0 m', Cs_R201_1 m', Cs_K202 m', Cs_K203 m', Cs_K211 m', Cs_R211_0 m', Cs_R211_1 m', Cs_K212 m', Cs_K213 m', Cs_K214 m', Cs_R214_0 m', Cs_R214_1 m', Cs_K215 m', Cs_K216 m', Cs_K217 m', Cs_R217_0 m', Cs_R217_1 m', Cs_K218 m', Cs_K219 m', Cs_K220 m', Cs_R220_0 m', Cs_K221 m', Cs_K262 m', Cs_K271 m', Cs_R271_0 m', Cs_R271_1 m', Cs_K272 m', Cs_K276 m', Cs_R272_0 m', Cs_R276_0 m', Cs_K273 m', Cs_R273_0 m', Cs_R273_1 m', Cs_K274 m', Cs_K275 m', Cs_K277 m', Cs_R277_0 m', Cs_R277_1 m', Cs_K278 m', Cs_K279 m', Cs_R262_0 m', Cs_K263 m', Cs_R263_0 m', Cs_K264 m', Cs_R262_1 m', Cs_K265 m', Cs_R265_0 m', Cs_K266 m', Cs_R262_2 m', Cs_K267 m', Cs_R267_0 m', Cs_K268 m', Cs_R262_3 m', Cs_K269 m', Cs_R269_0 m', Cs_K270 m', Int.toNat_natCast, Int.natCast_nonneg, true_and, and_true, and_self, if_true, if_false, or_true, true_or, or_false, false_or, ne_eq, not_true_eq_false, not_false_eq_true, Nat.reduceLeDiff, Nat.reduceEqDiff, Nat.reduceLT, Nat.reduceAdd, Nat.reduceMul, Nat.reduceSub, Int.reduceLT, Int.reduceLE, Int.reduceEq, Int.reduceToNat, Int.reduceAdd, Int.reduceSub, Int.reduceMul, Int.reduceNeg, Int.cast_ofNat_Int, false_and, and_false, show (j : Int) < 4 by omega, s1, s2, u2, sx.2.2.1.1, S_divesTo w.1 w.2.1 sx.2.2.1 srx hv hw, S_min, psh_some]
            have m1 : 0 ≤ mm := by have := hw.ge; omega
            obtain ⟨l, el, l4, lm⟩ : ∃ l : Nat, (if sM σ j < mm then sM σ j else mm) = (l : Int) ∧ l ≤ 40 ∧ (l : Int) ≤ mm := by
              by_cases q : sM σ j < mm
              · exact ⟨(sM σ j).toNat, by rw [if_pos q]; omega, by omega, by omega⟩
              · exact ⟨mm.toNat, by rw [if_neg q]; omega, by omega, by omega⟩
            simp only [el] at k ⊢
            simp only [if_pos (Int.natCast_nonneg l), Int.toNat_natCast] at k
            refine wp_for (fun i g => WP (d + 6 + 1) mX11_lists 93 [some (.inr (.inr 200)), some (.inl (j : Int)), some (.inl (n : Int)), some (.inl (c : Int)), some (.inr (.inr se)), some (.inl v), some (.inl (l : Int)), some (.inl (i : Int))] [] g Q) (fun i g => Fp trP h' g ∧ (∀ a q, hI g a q = hI h' a q) ∧ TrayIs g (lsS σ j i ww)) l ?_ ?_ 0 h' (by omega) ⟨Fp.refl _ h', fun _ _ => rfl, x'.1.2.2.2.2.2.1.eq (lsS_0 σ j ww).symm⟩
            · rintro i g hi ⟨f, e, tr⟩ kk
              have mg := m'.fr f
              have i4 : i < 40 := by omega
              have im : (i : Int) < mm := by omega
              obtain ⟨t1, t2, t3, t4⟩ := Cs_tray mg j4
              have sg := sx.2.2.1.fr f
              have xg := srx.cg (h' := g) (fun _ => e _ _) (fun _ _ _ _ => e _ _)
              rw [rX11_lists_93]
              simp only [rX11_lists_95, rX11_lists_97, rX11_lists_100, rX11_lists_101, rX11_lists_104, rX11_lists_105, rX11_lists_106, rX11_lists_108, rX11_lists_110, rX11_lists_112, rX11_lists_114, Cs_K200 mg, Cs_R200_0 mg, Cs_R200_1 mg, Cs_R200_2 mg, Cs_R200_3 mg, Cs_R200_4 mg, Cs_R200_5 mg, Cs_R200_6 mg, Cs_K201 mg, Cs_R201_0 mg, Cs_R201_1 mg, Cs_K202 mg, Cs_K203 mg, Cs_K211 mg, Cs_R211_0 mg, Cs_R211_1 mg, Cs_K212 mg, Cs_K213 mg, Cs_K214 mg, Cs_R214_0 mg, Cs_R214_1 mg, Cs_K215 mg, Cs_K216 mg, Cs_K217 mg, Cs_R217_0 mg, Cs_R217_1 mg, Cs_K218 mg, Cs_K219 mg, Cs_K220 mg, Cs_R220_0 mg, Cs_K221 mg, Cs_K262 mg, Cs_K271 mg, Cs_R271_0 mg, Cs_R271_1 mg, Cs_K272 mg, Cs_K276 mg, Cs_R272_0 mg, Cs_R276_0 mg, Cs_K273 mg, Cs_R273_0 mg, Cs_R273_1 mg, Cs_K274 mg, Cs_K275 mg, Cs_K277 mg, Cs_R277_0 mg, Cs_R277_1 mg, Cs_K278 mg, Cs_K279 mg, Cs_R262_0 mg, Cs_K263 mg, Cs_R263_0 mg, Cs_K264 mg, Cs_R262_1 mg, Cs_K265 mg, Cs_R265_0 mg, Cs_K266 mg, Cs_R262_2 mg, Cs_K267 mg, Cs_R267_0 mg, Cs_K268 mg, Cs_R262_3 mg, Cs_K269 mg, Cs_R269_0 mg, Cs_K270 mg, Int.toNat_natCast, Int.natCast_nonneg, true_and, and_true, and_self, if_true, if_false, or_true, true_or, or_false, false_or, ne_eq, not_true_eq_false, not_false_eq_true, Nat.reduceLeDiff, Nat.reduceEqDiff, Nat.reduceLT, Nat.reduceAdd, Nat.reduceMul, Nat.reduceSub, Int.reduceLT, Int.reduceLE, Int.reduceEq, Int.reduceToNat, Int.reduceAdd, Int.reduceSub, Int.reduceMul, Int.reduceNeg, Int.cast_ofNat_Int, false_and, and_false, show (j : Int) < 4 by omega, show (i : Int) < (l : Int) by omega, t1, t2, sg.1]
              refine S_goerTo w.1 w.2.1 sg xg hv hw ?_
              rw [if_pos im]
              simp only [psh_some, rX11_lists_117, rX11_lists_118, Int.toNat_natCast, Int.natCast_nonneg, true_and, and_true, and_self, if_true, if_false, or_true, true_or, or_false, false_or, ne_eq, not_true_eq_false, not_false_eq_true, Nat.reduceLeDiff, Nat.reduceEqDiff, Nat.reduceLT, Nat.reduceAdd, Nat.reduceMul, Nat.reduceSub, Int.reduceLT, Int.reduceLE, Int.reduceEq, Int.reduceToNat, Int.reduceAdd, Int.reduceSub, Int.reduceMul, Int.reduceNeg, Int.cast_ofNat_Int, false_and, and_false, t2]
              refine S_put mg j4 i4 (s := sSo σ j) (by rw [e]; exact u1) ?_
              rw [cutS_6 (hw.lt w.1 im)]
              simp only [psh_some, rX11_lists_121, rX11_lists_122, rX11_lists_125, Int.toNat_natCast, Int.natCast_nonneg, true_and, and_true, and_self, if_true, if_false, or_true, true_or, or_false, false_or, ne_eq, not_true_eq_false, not_false_eq_true, Nat.reduceLeDiff, Nat.reduceEqDiff, Nat.reduceLT, Nat.reduceAdd, Nat.reduceMul, Nat.reduceSub, Int.reduceLT, Int.reduceLE, Int.reduceEq, Int.reduceToNat, Int.reduceAdd, Int.reduceSub, Int.reduceMul, Int.reduceNeg, Int.cast_ofNat_Int, false_and, and_false, w32_s (i := i) (by omega)]
              exact kk _ ⟨f.wJ (by unfold trP; omega) _, e, (tr.put w.ls j4 i4 _).eq (lsS_s σ j i ww i4)⟩
            · rintro g ⟨f, e, tr⟩
              rw [rX11_lists_93]
              simp only [rX11_lists_95, rX11_lists_97, rX11_lists_128, rX11_lists_130, Int.lt_irrefl, Int.toNat_natCast, Int.natCast_nonneg, true_and, and_true, and_self, if_true, if_false, or_true, true_or, or_false, false_or, ne_eq, not_true_eq_false, not_false_eq_true, Nat.reduceLeDiff, Nat.reduceEqDiff, Nat.reduceLT, Nat.reduceAdd, Nat.reduceMul, Nat.reduceSub, Int.reduceLT, Int.reduceLE, Int.reduceEq, Int.reduceToNat, Int.reduceAdd, Int.reduceSub, Int.reduceMul, Int.reduceNeg, Int.cast_ofNat_Int, false_and, and_false]
              exact k g (x'.t f tr) (c'.trans0 (Cfr_t f) pn ps)
        · rw [if_neg h4, if_pos (by trivial)]
          rw [if_neg h4] at no
          exact no (by decide)
    · rw [if_neg h2, if_pos (by trivial)]
      rw [if_neg (fun q => h2 q.2)] at no
      exact no (by decide)
  · rw [if_neg h1, if_pos (by trivial)]
    rw [if_neg (fun q => h1 q.1)] at no
    simp only [rX11_lists_16, rX11_lists_18, Int.toNat_natCast, Int.natCast_nonneg, true_and, and_true, and_self, if_true, if_false, or_true, true_or, or_false, false_or, ne_eq, not_true_eq_false, not_false_eq_true, Nat.reduceLeDiff, Nat.reduceEqDiff, Nat.reduceLT, Nat.reduceAdd, Nat.reduceMul, Nat.reduceSub, Int.reduceLT, Int.reduceLE, Int.reduceEq, Int.reduceToNat, Int.reduceAdd, Int.reduceSub, Int.reduceMul, Int.reduceNeg, Int.cast_ofNat_Int, false_and, and_false]
    exact no (by decide)
