/-! calls over all that can be: how many, what, how deep -/
theorem vis_0 {L : List Nat} {x : Nat} (h : 0 < L.length) : (vis L x).getD 0 0 = L.getD 0 0 ∧ 0 < (vis L x).length := by
  unfold vis
  split
  · exact ⟨rfl, h⟩
  · exact ⟨getD_app h, by rw [List.length_append]; omega⟩
theorem bfs_0 (f : Nat → Nat → Nat) (set G : Nat) : ∀ (n k : Nat) (L : List Nat), 0 < L.length → (bfs f set G n k L).getD 0 0 = L.getD 0 0 ∧ 0 < (bfs f set G n k L).length := by
  intro n
  induction n with
  | zero => intro k L h; exact ⟨rfl, h⟩
  | succ n ih =>
    intro k L h
    unfold bfs
    split
    · obtain ⟨a, b⟩ := visG_len f set (L.getD k 0) G L
      obtain ⟨c, e⟩ := ih (k + 1) (visG f set (L.getD k 0) G L) (by omega)
      exact ⟨c.trans (b 0 h), e⟩
    · exact ⟨rfl, h⟩
theorem Lst_0 (A F : Nat → Int) (set : Nat) : (Lst A F set).getD 0 0 = stt F ∧ 0 < (Lst A F set).length := bfs_0 _ _ _ _ _ _ (by simp)
def mxL (L : List Nat) (b : Int) : Nat → Int
  | 0 => b
  | n + 1 => if mxL L b n < ((L.getD n 0 % 100 : Nat) : Int) then ((L.getD n 0 % 100 : Nat) : Int) else mxL L b n
def mnL (L : List Nat) (b : Int) : Nat → Int
  | 0 => b
  | n + 1 => if ((L.getD n 0 % 100 : Nat) : Int) < mnL L b n then ((L.getD n 0 % 100 : Nat) : Int) else mnL L b n
theorem mxL_b {L : List Nat} {b c : Int} (h0 : b ≤ ((L.getD 0 0 % 100 : Nat) : Int)) (h1 : c ≤ ((L.getD 0 0 % 100 : Nat) : Int)) : ∀ n, mxL L b (n + 1) = mxL L c (n + 1) := by
  intro n
  induction n with
  | zero =>
    show (if b < ((L.getD 0 0 % 100 : Nat) : Int) then ((L.getD 0 0 % 100 : Nat) : Int) else b) = (if c < ((L.getD 0 0 % 100 : Nat) : Int) then ((L.getD 0 0 % 100 : Nat) : Int) else c)
    split <;> split <;> omega
  | succ n ih =>
    show (if mxL L b (n + 1) < _ then _ else mxL L b (n + 1)) = (if mxL L c (n + 1) < _ then _ else mxL L c (n + 1))
    rw [ih]
theorem mnL_b {L : List Nat} {b c : Int} (h0 : ((L.getD 0 0 % 100 : Nat) : Int) ≤ b) (h1 : ((L.getD 0 0 % 100 : Nat) : Int) ≤ c) : ∀ n, mnL L b (n + 1) = mnL L c (n + 1) := by
  intro n
  induction n with
  | zero =>
    show (if ((L.getD 0 0 % 100 : Nat) : Int) < b then ((L.getD 0 0 % 100 : Nat) : Int) else b) = (if ((L.getD 0 0 % 100 : Nat) : Int) < c then ((L.getD 0 0 % 100 : Nat) : Int) else c)
    split <;> split <;> omega
  | succ n ih =>
    show (if _ < mnL L b (n + 1) then _ else mnL L b (n + 1)) = (if _ < mnL L c (n + 1) then _ else mnL L c (n + 1))
    rw [ih]
def orL (L : List Nat) : Nat → Nat
  | 0 => 0
  | n + 1 => orL L n ||| L.getD n 0 / 100
theorem orL_lt {L : List Nat} (o : lsOk L) : ∀ n, n ≤ L.length → orL L n < 64 := by
  intro n
  induction n with
  | zero => intro _; exact (by decide : 0 < 64)
  | succ n ih =>
    intro hn
    have := getD_lt o (p := n) (by omega)
    exact Nat.or_lt_two_pow (n := 6) (ih (by omega)) (by show L.getD n 0 / 100 < 64; omega)
theorem thU_or (L : List Nat) : thU L = orL L L.length := by
  have : ∀ n, n ≤ L.length → (L.take n).foldl (fun a s => a ||| s / 100) 0 = orL L n := by
    intro n
    induction n with
    | zero => intro _; rfl
    | succ n ih =>
      intro hn
      rw [List.take_succ_eq_append_getElem (by omega), List.foldl_append, ih (by omega)]
      show orL L n ||| L[n] / 100 = orL L n ||| L.getD n 0 / 100
      rw [List.getD_eq_getElem?_getD, List.getElem?_eq_getElem (by omega)]
      rfl
  have h := this L.length (Nat.le_refl _)
  rw [List.take_length] at h
  exact h
theorem Shp.o {h : Hp} {se : Nat} (x : Shp h se) : hK h se = (7, 0) ∧ hR h se 4 = se + 6 ∧ hK h (se + 6) = (21, 1600) := by
  obtain ⟨K0, R0, R1, R2, R3, R4, R5, R6, R7, R8, R9, K1, r0, r1, K2, K3, K4, K5, K6, _⟩ := x
  exact ⟨K0, R4, K6⟩
theorem SrX.len {h : Hp} {se : Nat} {A F : Nat → Int} {set : Nat} (x : SrX h se A F set) : hI h se 12 = ((Lst A F set).length : Int) := x.2.2.1
theorem SrX.ord {h : Hp} {se : Nat} {A F : Nat → Int} {set : Nat} (x : SrX h se A F set) {p : Nat} (hp : p < (Lst A F set).length) : hI h (se + 6) p = ((Lst A F set).getD p 0 : Int) := (x.2.2.2.1 p hp).1
theorem set_nat {t : Int} {n : Nat} (h : 0 ≤ t ∧ t < ((2 ^ n : Nat) : Int)) : ∃ s : Nat, t = (s : Int) ∧ s < 2 ^ n := ⟨t.toNat, by omega, by omega⟩
def inSet (A : Nat → Int) (t : Int) : Prop := 0 ≤ t ∧ t < ((2 ^ (A 2).toNat : Nat) : Int)
theorem set64 {A : Nat → Int} (po : poolOk A) {s : Nat} (h : s < 2 ^ (A 2).toNat) : s < 64 := by
  have := pow6 (n := (A 2).toNat) (by have := po.2.2.2.1; omega)
  omega
noncomputable def stV (σ : AS) (t : Int) : Int := if 0 ≤ t ∧ t < ((2 ^ (sA σ 2).toNat : Nat) : Int) then ((Lst (sA σ) (stA (sA σ)) t.toNat).length : Int) else -3
theorem C_stands {d : Nat} {σ : AS} {t : Int} (ht : i32 t) : CSpec (d + 7) mX11_stands [some (.inr (.inr 200)), some (.inl t)] σ (.inl (stV σ t)) σ := by
  intro h Q x w k
  have m := x.1.1
  unfold stV at k
  simp only [rX11_stands_0, rX11_stands_1, rX11_stands_2, rX11_stands_5, Cs_K200 m, Cs_R200_0 m, Cs_R200_1 m, Cs_R200_2 m, Cs_R200_3 m, Cs_R200_4 m, Cs_R200_5 m, Cs_R200_6 m, Cs_K201 m, Cs_R201_0 m, Cs_R201_1 m, Cs_K202 m, Cs_K203 m, Cs_K211 m, Cs_R211_0 m, Cs_R211_1 m, Cs_K212 m, Cs_K213 m, Cs_K214 m, Cs_R214_0 m, Cs_R214_1 m, Cs_K215 m, Cs_K216 m, Cs_K217 m, Cs_R217_0 m, Cs_R217_1 m, Cs_K218 m, Cs_K219 m, Cs_K220 m, Cs_R220_0 m, Cs_K221 m, Cs_K262 m, Cs_K271 m, Cs_R271_0 m, Cs_R271_1 m, Cs_K272 m, Cs_K276 m, Cs_R272_0 m, Cs_R276_0 m, Cs_K273 m, Cs_R273_0 m, Cs_R273_1 m, Cs_K274 m, Cs_K275 m, Cs_K277 m, Cs_R277_0 m, Cs_R277_1 m, Cs_K278 m, Cs_K279 m, Cs_R262_0 m, Cs_K263 m, Cs_R263_0 m, Cs_K264 m, Cs_R262_1 m, Cs_K265 m, Cs_R265_0 m, Cs_K266 m, Cs_R262_2 m, Cs_K267 m, Cs_R267_0 m, Cs_K268 m, Cs_R262_3 m, Cs_K269 m, Cs_R269_0 m, Cs_K270 m, Int.toNat_natCast, Int.natCast_nonneg, true_and, and_true, and_self, if_true, if_false, or_true, true_or, or_false, false_or, ne_eq, not_true_eq_false, not_false_eq_true, Nat.reduceLeDiff, Nat.reduceEqDiff, Nat.reduceLT, Nat.reduceAdd, Nat.reduceMul, Nat.reduceSub, Int.reduceLT, Int.reduceLE, Int.reduceEq, Int.reduceToNat, Int.reduceAdd, Int.reduceSub, Int.reduceMul, Int.reduceNeg, Int.cast_ofNat_Int, false_and, and_false, S_cSet (x.cp w) ht, psh_some]
  by_cases h1 : 0 ≤ t ∧ t < ((2 ^ (sA σ 2).toNat : Nat) : Int)
  · simp only [if_pos h1] at k
    rw [if_pos h1, if_neg (by decide)]
    obtain ⟨s, rfl, hs⟩ := set_nat h1
    simp only [rX11_stands_8, rX11_stands_9, rX11_stands_10, Cs_K200 m, Cs_R200_0 m, Cs_R200_1 m, Cs_R200_2 m, Cs_R200_3 m, Cs_R200_4 m, Cs_R200_5 m, Cs_R200_6 m, Cs_K201 m, Cs_R201_0 m, Cs_R201_1 m, Cs_K202 m, Cs_K203 m, Cs_K211 m, Cs_R211_0 m, Cs_R211_1 m, Cs_K212 m, Cs_K213 m, Cs_K214 m, Cs_R214_0 m, Cs_R214_1 m, Cs_K215 m, Cs_K216 m, Cs_K217 m, Cs_R217_0 m, Cs_R217_1 m, Cs_K218 m, Cs_K219 m, Cs_K220 m, Cs_R220_0 m, Cs_K221 m, Cs_K262 m, Cs_K271 m, Cs_R271_0 m, Cs_R271_1 m, Cs_K272 m, Cs_K276 m, Cs_R272_0 m, Cs_R276_0 m, Cs_K273 m, Cs_R273_0 m, Cs_R273_1 m, Cs_K274 m, Cs_K275 m, Cs_K277 m, Cs_R277_0 m, Cs_R277_1 m, Cs_K278 m, Cs_K279 m, Cs_R262_0 m, Cs_K263 m, Cs_R263_0 m, Cs_K264 m, Cs_R262_1 m, Cs_K265 m, Cs_R265_0 m, Cs_K266 m, Cs_R262_2 m, Cs_K267 m, Cs_R267_0 m, Cs_K268 m, Cs_R262_3 m, Cs_K269 m, Cs_R269_0 m, Cs_K270 m, Int.toNat_natCast, Int.natCast_nonneg, true_and, and_true, and_self, if_true, if_false, or_true, true_or, or_false, false_or, ne_eq, not_true_eq_false, not_false_eq_true, Nat.reduceLeDiff, Nat.reduceEqDiff, Nat.reduceLT, Nat.reduceAdd, Nat.reduceMul, Nat.reduceSub, Int.reduceLT, Int.reduceLE, Int.reduceEq, Int.reduceToNat, Int.reduceAdd, Int.reduceSub, Int.reduceMul, Int.reduceNeg, Int.cast_ofNat_Int, false_and, and_false]
    refine S_explored x w hs ?_
    intro h' se x' c' pn ps sx srx
    simp only [psh_some, rX11_stands_13, rX11_stands_16, rX11_stands_21, sx.2.2.1.1, srx.len, Int.toNat_natCast, Int.natCast_nonneg, true_and, and_true, and_self, if_true, if_false, or_true, true_or, or_false, false_or, ne_eq, not_true_eq_false, not_false_eq_true, Nat.reduceLeDiff, Nat.reduceEqDiff, Nat.reduceLT, Nat.reduceAdd, Nat.reduceMul, Nat.reduceSub, Int.reduceLT, Int.reduceLE, Int.reduceEq, Int.reduceToNat, Int.reduceAdd, Int.reduceSub, Int.reduceMul, Int.reduceNeg, Int.cast_ofNat_Int, false_and, and_false]
    exact k h' x' c'
  · simp only [if_neg h1] at k
    rw [if_neg h1, if_pos (by trivial)]
    simp only [rX11_stands_19, rX11_stands_21]
    exact k h x (Cfr.refl h)
theorem R_stands {d : Nat} {σ : AS} {t : Int} : RSpec (d + 4) mX12_stands [some (.inr (.inr 294)), some (.inl t)] σ (.inl (stV σ t)) σ := by
  refine RSpec5.of (RSpec5.u ?_) (fun h Q hk => by simp only [rX12_stands_0, rX12_stands_1, rX12_stands_2, hk, Int.toNat_natCast, Int.natCast_nonneg, true_and, and_true, and_self, if_true, if_false, or_true, true_or, or_false, false_or, ne_eq, not_true_eq_false, not_false_eq_true, Nat.reduceLeDiff, Nat.reduceEqDiff, Nat.reduceLT, Nat.reduceAdd, Nat.reduceMul, Nat.reduceSub, Int.reduceLT, Int.reduceLE, Int.reduceEq, Int.reduceToNat, Int.reduceAdd, Int.reduceSub, Int.reduceMul, Int.reduceNeg, Int.cast_ofNat_Int, false_and, and_false])
  intro h Q x w k
  have m := x.1
  unfold stV at k
  simp only [rX12_stands_5, rX12_stands_6, rX12_stands_7, rX12_stands_10, rX12_stands_13, rX12_stands_15, Md_K280 m, Md_R281 m, Md_K281 m, Md_R282 m, Md_K282 m, Md_R283 m, Md_K283 m, Md_R284 m, Md_K284 m, Md_R285 m, Md_K285 m, Md_R286 m, Md_K286 m, Md_R287 m, Md_K287 m, Md_R288 m, Md_K288 m, Md_R289 m, Md_K289 m, Md_R290 m, Md_K290 m, Md_R291 m, Md_K291 m, Md_R292 m, Md_K292 m, Md_R293 m, Md_K293 m, Md_R294 m, Md_K294 m, Md_R295 m, Md_K295 m, Md_R296 m, Md_K296 m, Md_R297 m, Md_K297 m, Md_R298 m, Md_K298 m, Md_R299 m, Md_K299 m, Int.toNat_natCast, Int.natCast_nonneg, true_and, and_true, and_self, if_true, if_false, or_true, true_or, or_false, false_or, ne_eq, not_true_eq_false, not_false_eq_true, Nat.reduceLeDiff, Nat.reduceEqDiff, Nat.reduceLT, Nat.reduceAdd, Nat.reduceMul, Nat.reduceSub, Int.reduceLT, Int.reduceLE, Int.reduceEq, Int.reduceToNat, Int.reduceAdd, Int.reduceSub, Int.reduceMul, Int.reduceNeg, Int.cast_ofNat_Int, false_and, and_false, S_rSet (x.rp w), psh_some]
  by_cases h1 : 0 ≤ t ∧ t < ((2 ^ (sA σ 2).toNat : Nat) : Int)
  · simp only [if_pos h1] at k
    rw [if_pos h1, if_neg (by decide)]
    obtain ⟨s, rfl, hs⟩ := set_nat h1
    simp only [rX12_stands_16, rX12_stands_17, rX12_stands_18, Md_K280 m, Md_R281 m, Md_K281 m, Md_R282 m, Md_K282 m, Md_R283 m, Md_K283 m, Md_R284 m, Md_K284 m, Md_R285 m, Md_K285 m, Md_R286 m, Md_K286 m, Md_R287 m, Md_K287 m, Md_R288 m, Md_K288 m, Md_R289 m, Md_K289 m, Md_R290 m, Md_K290 m, Md_R291 m, Md_K291 m, Md_R292 m, Md_K292 m, Md_R293 m, Md_K293 m, Md_R294 m, Md_K294 m, Md_R295 m, Md_K295 m, Md_R296 m, Md_K296 m, Md_R297 m, Md_K297 m, Md_R298 m, Md_K298 m, Md_R299 m, Md_K299 m, Int.toNat_natCast, Int.natCast_nonneg, true_and, and_true, and_self, if_true, if_false, or_true, true_or, or_false, false_or, ne_eq, not_true_eq_false, not_false_eq_true, Nat.reduceLeDiff, Nat.reduceEqDiff, Nat.reduceLT, Nat.reduceAdd, Nat.reduceMul, Nat.reduceSub, Int.reduceLT, Int.reduceLE, Int.reduceEq, Int.reduceToNat, Int.reduceAdd, Int.reduceSub, Int.reduceMul, Int.reduceNeg, Int.cast_ofNat_Int, false_and, and_false]
    refine S_laysStands (x.rp w) w.2.1 (set64 w.1 hs) ?_
    intro h' f' x'
    have m' := x'.1
    simp only [psh_none, rX12_stands_21, rX12_stands_22, rX12_stands_25, Md_K280 m', Md_R281 m', Md_K281 m', Md_R282 m', Md_K282 m', Md_R283 m', Md_K283 m', Md_R284 m', Md_K284 m', Md_R285 m', Md_K285 m', Md_R286 m', Md_K286 m', Md_R287 m', Md_K287 m', Md_R288 m', Md_K288 m', Md_R289 m', Md_K289 m', Md_R290 m', Md_K290 m', Md_R291 m', Md_K291 m', Md_R292 m', Md_K292 m', Md_R293 m', Md_K293 m', Md_R294 m', Md_K294 m', Md_R295 m', Md_K295 m', Md_R296 m', Md_K296 m', Md_R297 m', Md_K297 m', Md_R298 m', Md_K298 m', Md_R299 m', Md_K299 m', x'.2.2.1, Int.toNat_natCast, Int.natCast_nonneg, true_and, and_true, and_self, if_true, if_false, or_true, true_or, or_false, false_or, ne_eq, not_true_eq_false, not_false_eq_true, Nat.reduceLeDiff, Nat.reduceEqDiff, Nat.reduceLT, Nat.reduceAdd, Nat.reduceMul, Nat.reduceSub, Int.reduceLT, Int.reduceLE, Int.reduceEq, Int.reduceToNat, Int.reduceAdd, Int.reduceSub, Int.reduceMul, Int.reduceNeg, Int.cast_ofNat_Int, false_and, and_false]
    exact k h' (f'.mono (fun a k q => rsP_u q))
  · simp only [if_neg h1] at k
    rw [if_neg h1, if_pos (by trivial)]
    exact k h (Fp.refl _ h)
theorem now_0 {h : Hp} {σ : AS} (x : CRep h σ) : hI h 214 2 = stA (sA σ) 0 := x.1.2.2.2.1.1
theorem head_m {A F : Nat → Int} (so : stOk F) (set : Nat) : (((Lst A F set).getD 0 0 % 100 : Nat) : Int) = F 0 := by
  rw [(Lst_0 A F set).1, (stt_mod so).1, toN so.1]
noncomputable def dpV (σ : AS) (t : Int) : Int := if 0 ≤ t ∧ t < ((2 ^ (sA σ 2).toNat : Nat) : Int) then mxL (Lst (sA σ) (stA (sA σ)) t.toNat) (-1) (Lst (sA σ) (stA (sA σ)) t.toNat).length else -3
theorem C_deepest {d : Nat} {σ : AS} {t : Int} (ht : i32 t) : CSpec (d + 7) mX11_deepest [some (.inr (.inr 200)), some (.inl t), none, none, none] σ (.inl (dpV σ t)) σ := by
  intro h Q x w k
  have m := x.1.1
  unfold dpV at k
  simp only [rX11_deepest_0, rX11_deepest_1, rX11_deepest_2, rX11_deepest_5, rX11_deepest_8, rX11_deepest_10, Cs_K200 m, Cs_R200_0 m, Cs_R200_1 m, Cs_R200_2 m, Cs_R200_3 m, Cs_R200_4 m, Cs_R200_5 m, Cs_R200_6 m, Cs_K201 m, Cs_R201_0 m, Cs_R201_1 m, Cs_K202 m, Cs_K203 m, Cs_K211 m, Cs_R211_0 m, Cs_R211_1 m, Cs_K212 m, Cs_K213 m, Cs_K214 m, Cs_R214_0 m, Cs_R214_1 m, Cs_K215 m, Cs_K216 m, Cs_K217 m, Cs_R217_0 m, Cs_R217_1 m, Cs_K218 m, Cs_K219 m, Cs_K220 m, Cs_R220_0 m, Cs_K221 m, Cs_K262 m, Cs_K271 m, Cs_R271_0 m, Cs_R271_1 m, Cs_K272 m, Cs_K276 m, Cs_R272_0 m, Cs_R276_0 m, Cs_K273 m, Cs_R273_0 m, Cs_R273_1 m, Cs_K274 m, Cs_K275 m, Cs_K277 m, Cs_R277_0 m, Cs_R277_1 m, Cs_K278 m, Cs_K279 m, Cs_R262_0 m, Cs_K263 m, Cs_R263_0 m, Cs_K264 m, Cs_R262_1 m, Cs_K265 m, Cs_R265_0 m, Cs_K266 m, Cs_R262_2 m, Cs_K267 m, Cs_R267_0 m, Cs_K268 m, Cs_R262_3 m, Cs_K269 m, Cs_R269_0 m, Cs_K270 m, Int.toNat_natCast, Int.natCast_nonneg, true_and, and_true, and_self, if_true, if_false, or_true, true_or, or_false, false_or, ne_eq, not_true_eq_false, not_false_eq_true, Nat.reduceLeDiff, Nat.reduceEqDiff, Nat.reduceLT, Nat.reduceAdd, Nat.reduceMul, Nat.reduceSub, Int.reduceLT, Int.reduceLE, Int.reduceEq, Int.reduceToNat, Int.reduceAdd, Int.reduceSub, Int.reduceMul, Int.reduceNeg, Int.cast_ofNat_Int, false_and, and_false, S_cSet (x.cp w) ht, psh_some]
  by_cases h1 : 0 ≤ t ∧ t < ((2 ^ (sA σ 2).toNat : Nat) : Int)
  · simp only [if_pos h1] at k
    rw [if_pos h1, if_neg (by decide)]
    obtain ⟨s, rfl, hs⟩ := set_nat h1
    simp only [rX11_deepest_11, rX11_deepest_12, rX11_deepest_13, Cs_K200 m, Cs_R200_0 m, Cs_R200_1 m, Cs_R200_2 m, Cs_R200_3 m, Cs_R200_4 m, Cs_R200_5 m, Cs_R200_6 m, Cs_K201 m, Cs_R201_0 m, Cs_R201_1 m, Cs_K202 m, Cs_K203 m, Cs_K211 m, Cs_R211_0 m, Cs_R211_1 m, Cs_K212 m, Cs_K213 m, Cs_K214 m, Cs_R214_0 m, Cs_R214_1 m, Cs_K215 m, Cs_K216 m, Cs_K217 m, Cs_R217_0 m, Cs_R217_1 m, Cs_K218 m, Cs_K219 m, Cs_K220 m, Cs_R220_0 m, Cs_K221 m, Cs_K262 m, Cs_K271 m, Cs_R271_0 m, Cs_R271_1 m, Cs_K272 m, Cs_K276 m, Cs_R272_0 m, Cs_R276_0 m, Cs_K273 m, Cs_R273_0 m, Cs_R273_1 m, Cs_K274 m, Cs_K275 m, Cs_K277 m, Cs_R277_0 m, Cs_R277_1 m, Cs_K278 m, Cs_K279 m, Cs_R262_0 m, Cs_K263 m, Cs_R263_0 m, Cs_K264 m, Cs_R262_1 m, Cs_K265 m, Cs_R265_0 m, Cs_K266 m, Cs_R262_2 m, Cs_K267 m, Cs_R267_0 m, Cs_K268 m, Cs_R262_3 m, Cs_K269 m, Cs_R269_0 m, Cs_K270 m, Int.toNat_natCast, Int.natCast_nonneg, true_and, and_true, and_self, if_true, if_false, or_true, true_or, or_false, false_or, ne_eq, not_true_eq_false, not_false_eq_true, Nat.reduceLeDiff, Nat.reduceEqDiff, Nat.reduceLT, Nat.reduceAdd, Nat.reduceMul, Nat.reduceSub, Int.reduceLT, Int.reduceLE, Int.reduceEq, Int.reduceToNat, Int.reduceAdd, Int.reduceSub, Int.reduceMul, Int.reduceNeg, Int.cast_ofNat_Int, false_and, and_false]
    refine S_explored x w hs ?_
    intro h' se x' c' pn ps sx srx
    have m' := x'.1.1
    have n0 := now_0 x'
    have ok := Lst_ok w.1 w.2.1 s
    have l16 := Lst_le w.1 w.2.1 s
    simp only [Int.toNat_natCast] at k
    have hm := head_m (A := sA σ) w.2.1 s
    have l0 := (Lst_0 (sA σ) (stA (sA σ)) s).2
    have len := srx.len
    have ord := fun p hp => srx.ord (p := p) hp
    obtain ⟨K0, R4, K6⟩ := sx.2.2.1.o
    have k0 := k h' x' c'
    have fo := w.2.1.1
    generalize Lst (sA σ) (stA (sA σ)) s = L at ok l16 hm l0 len ord k0
    have e0 : mxL L (-1) L.length = mxL L (stA (sA σ) 0) L.length := by
      obtain ⟨n, hn⟩ : ∃ n, L.length = n + 1 := ⟨L.length - 1, by omega⟩
      rw [hn]
      exact mxL_b (by omega) (by omega) n
    rw [e0] at k0
    simp only [psh_some, rX11_deepest_16, rX11_deepest_17, rX11_deepest_18, rX11_deepest_21, rX11_deepest_24, rX11_deepest_25, rX11_deepest_26, Cs_K200 m', Cs_R200_0 m', Cs_R200_1 m', Cs_R200_2 m', Cs_R200_3 m', Cs_R200_4 m', Cs_R200_5 m', Cs_R200_6 m', Cs_K201 m', Cs_R201_0 m', Cs_R201_1 m', Cs_K202 m', Cs_K203 m', Cs_K211 m', Cs_R211_0 m', Cs_R211_1 m', Cs_K212 m', Cs_K213 m', Cs_K214 m', Cs_R214_0 m', Cs_R214_1 m', Cs_K215 m', Cs_K216 m', Cs_K217 m', Cs_R217_0 m', Cs_R217_1 m', Cs_K218 m', Cs_K219 m', Cs_K220 m', Cs_R220_0 m', Cs_K221 m', Cs_K262 m', Cs_K271 m', Cs_R271_0 m', Cs_R271_1 m', Cs_K272 m', Cs_K276 m', Cs_R272_0 m', Cs_R276_0 m', Cs_K273 m', Cs_R273_0 m', Cs_R273_1 m', Cs_K274 m', Cs_K275 m', Cs_K277 m', Cs_R277_0 m', Cs_R277_1 m', Cs_K278 m', Cs_K279 m', Cs_R262_0 m', Cs_K263 m', Cs_R263_0 m', Cs_K264 m', Cs_R262_1 m', Cs_K265 m', Cs_R265_0 m', Cs_K266 m', Cs_R262_2 m', Cs_K267 m', Cs_R267_0 m', Cs_K268 m', Cs_R262_3 m', Cs_K269 m', Cs_R269_0 m', Cs_K270 m', n0, Int.toNat_natCast, Int.natCast_nonneg, true_and, and_true, and_self, if_true, if_false, or_true, true_or, or_false, false_or, ne_eq, not_true_eq_false, not_false_eq_true, Nat.reduceLeDiff, Nat.reduceEqDiff, Nat.reduceLT, Nat.reduceAdd, Nat.reduceMul, Nat.reduceSub, Int.reduceLT, Int.reduceLE, Int.reduceEq, Int.reduceToNat, Int.reduceAdd, Int.reduceSub, Int.reduceMul, Int.reduceNeg, Int.cast_ofNat_Int, false_and, and_false]
    have main : ∀ n i, i + n = L.length → WP (d + 7) mX11_deepest 28 [some (.inr (.inr 200)), some (.inl (s : Int)), some (.inr (.inr se)), some (.inl (mxL L (stA (sA σ) 0) i)), some (.inl (i : Int))] [] h' Q := by
      have ll := ok.len
      intro n
      induction n with
      | zero =>
        intro i hi
        have e : i = L.length := by omega
        subst e
        rw [rX11_deepest_28]
        simp only [rX11_deepest_30, rX11_deepest_31, rX11_deepest_34, rX11_deepest_58, rX11_deepest_59, K0, len, Int.lt_irrefl, Int.toNat_natCast, Int.natCast_nonneg, true_and, and_true, and_self, if_true, if_false, or_true, true_or, or_false, false_or, ne_eq, not_true_eq_false, not_false_eq_true, Nat.reduceLeDiff, Nat.reduceEqDiff, Nat.reduceLT, Nat.reduceAdd, Nat.reduceMul, Nat.reduceSub, Int.reduceLT, Int.reduceLE, Int.reduceEq, Int.reduceToNat, Int.reduceAdd, Int.reduceSub, Int.reduceMul, Int.reduceNeg, Int.cast_ofNat_Int, false_and, and_false]
        exact k0
      | succ n ih =>
        intro i hi
        have c1 : (i : Int) < (L.length : Int) := by omega
        have c2 : (i : Int) < 1600 := by omega
        have l2 : w32 ((i : Int) + 1) = ((i + 1 : Nat) : Int) := w32_s (by omega)
        have l3 : (if mxL L (stA (sA σ) 0) i < ((L.getD i 0 % 100 : Nat) : Int) then ((L.getD i 0 % 100 : Nat) : Int) else mxL L (stA (sA σ) 0) i) = mxL L (stA (sA σ) 0) (i + 1) := rfl
        have oi := ord i (by omega)
        have go := ih (i + 1) (by omega)
        rw [rX11_deepest_28]
        simp only [rX11_deepest_30, rX11_deepest_31, rX11_deepest_34, rX11_deepest_37, rX11_deepest_38, rX11_deepest_39, rX11_deepest_42, rX11_deepest_44, rX11_deepest_45, rX11_deepest_48, rX11_deepest_51, rX11_deepest_52, rX11_deepest_55, K0, R4, K6, len, c1, c2, oi, S_boardOf, S_max, psh_some, l3, l2, Int.toNat_natCast, Int.natCast_nonneg, true_and, and_true, and_self, if_true, if_false, or_true, true_or, or_false, false_or, ne_eq, not_true_eq_false, not_false_eq_true, Nat.reduceLeDiff, Nat.reduceEqDiff, Nat.reduceLT, Nat.reduceAdd, Nat.reduceMul, Nat.reduceSub, Int.reduceLT, Int.reduceLE, Int.reduceEq, Int.reduceToNat, Int.reduceAdd, Int.reduceSub, Int.reduceMul, Int.reduceNeg, Int.cast_ofNat_Int, false_and, and_false]
        exact go
    exact main L.length 0 (Nat.zero_add _)
  · simp only [if_neg h1] at k
    rw [if_neg h1, if_pos (by trivial)]
    exact k h x (Cfr.refl h)
theorem mod100 {s : Nat} : (s : Int).tmod 100 = ((s % 100 : Nat) : Int) := by rw [tmod_n (by omega)]; omega
theorem R_deepest {d : Nat} {σ : AS} {t : Int} : RSpec (d + 4) mX12_deepest [some (.inr (.inr 294)), some (.inl t), none, none] σ (.inl (dpV σ t)) σ := by
  refine RSpec5.of (RSpec5.u ?_) (fun h Q hk => by simp only [rX12_deepest_0, rX12_deepest_1, rX12_deepest_2, hk, Int.toNat_natCast, Int.natCast_nonneg, true_and, and_true, and_self, if_true, if_false, or_true, true_or, or_false, false_or, ne_eq, not_true_eq_false, not_false_eq_true, Nat.reduceLeDiff, Nat.reduceEqDiff, Nat.reduceLT, Nat.reduceAdd, Nat.reduceMul, Nat.reduceSub, Int.reduceLT, Int.reduceLE, Int.reduceEq, Int.reduceToNat, Int.reduceAdd, Int.reduceSub, Int.reduceMul, Int.reduceNeg, Int.cast_ofNat_Int, false_and, and_false])
  intro h Q x w k
  have m := x.1
  unfold dpV at k
  simp only [rX12_deepest_5, rX12_deepest_6, rX12_deepest_7, rX12_deepest_10, rX12_deepest_13, rX12_deepest_15, Md_K280 m, Md_R281 m, Md_K281 m, Md_R282 m, Md_K282 m, Md_R283 m, Md_K283 m, Md_R284 m, Md_K284 m, Md_R285 m, Md_K285 m, Md_R286 m, Md_K286 m, Md_R287 m, Md_K287 m, Md_R288 m, Md_K288 m, Md_R289 m, Md_K289 m, Md_R290 m, Md_K290 m, Md_R291 m, Md_K291 m, Md_R292 m, Md_K292 m, Md_R293 m, Md_K293 m, Md_R294 m, Md_K294 m, Md_R295 m, Md_K295 m, Md_R296 m, Md_K296 m, Md_R297 m, Md_K297 m, Md_R298 m, Md_K298 m, Md_R299 m, Md_K299 m, Int.toNat_natCast, Int.natCast_nonneg, true_and, and_true, and_self, if_true, if_false, or_true, true_or, or_false, false_or, ne_eq, not_true_eq_false, not_false_eq_true, Nat.reduceLeDiff, Nat.reduceEqDiff, Nat.reduceLT, Nat.reduceAdd, Nat.reduceMul, Nat.reduceSub, Int.reduceLT, Int.reduceLE, Int.reduceEq, Int.reduceToNat, Int.reduceAdd, Int.reduceSub, Int.reduceMul, Int.reduceNeg, Int.cast_ofNat_Int, false_and, and_false, S_rSet (x.rp w), psh_some]
  by_cases h1 : 0 ≤ t ∧ t < ((2 ^ (sA σ 2).toNat : Nat) : Int)
  · simp only [if_pos h1] at k
    rw [if_pos h1, if_neg (by decide)]
    obtain ⟨s, rfl, hs⟩ := set_nat h1
    simp only [Int.toNat_natCast] at k
    simp only [rX12_deepest_16, rX12_deepest_17, rX12_deepest_18, Md_K280 m, Md_R281 m, Md_K281 m, Md_R282 m, Md_K282 m, Md_R283 m, Md_K283 m, Md_R284 m, Md_K284 m, Md_R285 m, Md_K285 m, Md_R286 m, Md_K286 m, Md_R287 m, Md_K287 m, Md_R288 m, Md_K288 m, Md_R289 m, Md_K289 m, Md_R290 m, Md_K290 m, Md_R291 m, Md_K291 m, Md_R292 m, Md_K292 m, Md_R293 m, Md_K293 m, Md_R294 m, Md_K294 m, Md_R295 m, Md_K295 m, Md_R296 m, Md_K296 m, Md_R297 m, Md_K297 m, Md_R298 m, Md_K298 m, Md_R299 m, Md_K299 m, Int.toNat_natCast, Int.natCast_nonneg, true_and, and_true, and_self, if_true, if_false, or_true, true_or, or_false, false_or, ne_eq, not_true_eq_false, not_false_eq_true, Nat.reduceLeDiff, Nat.reduceEqDiff, Nat.reduceLT, Nat.reduceAdd, Nat.reduceMul, Nat.reduceSub, Int.reduceLT, Int.reduceLE, Int.reduceEq, Int.reduceToNat, Int.reduceAdd, Int.reduceSub, Int.reduceMul, Int.reduceNeg, Int.cast_ofNat_Int, false_and, and_false]
    refine S_laysStands (x.rp w) w.2.1 (set64 w.1 hs) ?_
    intro h' f' x'
    have m' := x'.1
    have k0 := k h' (f'.mono (fun a k q => rsP_u q))
    have len := x'.2.2.1
    have ok := x'.2.2.2.1
    have ord := x'.2.2.2.2.1
    generalize Lst (sA σ) (stA (sA σ)) s = L at ok len ord k0
    simp only [psh_none, rX12_deepest_21, rX12_deepest_22, rX12_deepest_23, rX12_deepest_24]
    have main : ∀ n i, i + n = L.length → WP (d + 4) mX12_deepest 25 [some (.inr (.inr 294)), some (.inl (s : Int)), some (.inl (mxL L (-1) i)), some (.inl (i : Int))] [] h' Q := by
      have ll := ok.len
      intro n
      induction n with
      | zero =>
        intro i hi
        have e : i = L.length := by omega
        subst e
        rw [rX12_deepest_25]
        simp only [rX12_deepest_26, rX12_deepest_27, rX12_deepest_30, rX12_deepest_66, rX12_deepest_67, Md_K280 m', Md_R281 m', Md_K281 m', Md_R282 m', Md_K282 m', Md_R283 m', Md_K283 m', Md_R284 m', Md_K284 m', Md_R285 m', Md_K285 m', Md_R286 m', Md_K286 m', Md_R287 m', Md_K287 m', Md_R288 m', Md_K288 m', Md_R289 m', Md_K289 m', Md_R290 m', Md_K290 m', Md_R291 m', Md_K291 m', Md_R292 m', Md_K292 m', Md_R293 m', Md_K293 m', Md_R294 m', Md_K294 m', Md_R295 m', Md_K295 m', Md_R296 m', Md_K296 m', Md_R297 m', Md_K297 m', Md_R298 m', Md_K298 m', Md_R299 m', Md_K299 m', len, Int.lt_irrefl, Int.toNat_natCast, Int.natCast_nonneg, true_and, and_true, and_self, if_true, if_false, or_true, true_or, or_false, false_or, ne_eq, not_true_eq_false, not_false_eq_true, Nat.reduceLeDiff, Nat.reduceEqDiff, Nat.reduceLT, Nat.reduceAdd, Nat.reduceMul, Nat.reduceSub, Int.reduceLT, Int.reduceLE, Int.reduceEq, Int.reduceToNat, Int.reduceAdd, Int.reduceSub, Int.reduceMul, Int.reduceNeg, Int.cast_ofNat_Int, false_and, and_false]
        exact k0
      | succ n ih =>
        intro i hi
        have c1 : (i : Int) < (L.length : Int) := by omega
        have c2 : (i : Int) < 6400 := by omega
        have l2 : w32 ((i : Int) + 1) = ((i + 1 : Nat) : Int) := w32_s (by omega)
        have oi := ord i (by omega)
        have go := ih (i + 1) (by omega)
        unfold mxL at go
        rw [rX12_deepest_25]
        simp only [rX12_deepest_26, rX12_deepest_27, rX12_deepest_30, rX12_deepest_33, rX12_deepest_34, rX12_deepest_37, rX12_deepest_38, rX12_deepest_39, rX12_deepest_41, rX12_deepest_42, rX12_deepest_43, Md_K280 m', Md_R281 m', Md_K281 m', Md_R282 m', Md_K282 m', Md_R283 m', Md_K283 m', Md_R284 m', Md_K284 m', Md_R285 m', Md_K285 m', Md_R286 m', Md_K286 m', Md_R287 m', Md_K287 m', Md_R288 m', Md_K288 m', Md_R289 m', Md_K289 m', Md_R290 m', Md_K290 m', Md_R291 m', Md_K291 m', Md_R292 m', Md_K292 m', Md_R293 m', Md_K293 m', Md_R294 m', Md_K294 m', Md_R295 m', Md_K295 m', Md_R296 m', Md_K296 m', Md_R297 m', Md_K297 m', Md_R298 m', Md_K298 m', Md_R299 m', Md_K299 m', len, c1, c2, oi, mod100, Int.toNat_natCast, Int.natCast_nonneg, true_and, and_true, and_self, if_true, if_false, or_true, true_or, or_false, false_or, ne_eq, not_true_eq_false, not_false_eq_true, Nat.reduceLeDiff, Nat.reduceEqDiff, Nat.reduceLT, Nat.reduceAdd, Nat.reduceMul, Nat.reduceSub, Int.reduceLT, Int.reduceLE, Int.reduceEq, Int.reduceToNat, Int.reduceAdd, Int.reduceSub, Int.reduceMul, Int.reduceNeg, Int.cast_ofNat_Int, false_and, and_false]
        by_cases hc : mxL L (-1) i < ((L.getD i 0 % 100 : Nat) : Int)
        · rw [if_pos hc] at go ⊢
          simp only [rX12_deepest_46, rX12_deepest_47, rX12_deepest_50, rX12_deepest_51, rX12_deepest_52, rX12_deepest_54, rX12_deepest_55, rX12_deepest_58, rX12_deepest_59, rX12_deepest_60, rX12_deepest_63, Md_K280 m', Md_R281 m', Md_K281 m', Md_R282 m', Md_K282 m', Md_R283 m', Md_K283 m', Md_R284 m', Md_K284 m', Md_R285 m', Md_K285 m', Md_R286 m', Md_K286 m', Md_R287 m', Md_K287 m', Md_R288 m', Md_K288 m', Md_R289 m', Md_K289 m', Md_R290 m', Md_K290 m', Md_R291 m', Md_K291 m', Md_R292 m', Md_K292 m', Md_R293 m', Md_K293 m', Md_R294 m', Md_K294 m', Md_R295 m', Md_K295 m', Md_R296 m', Md_K296 m', Md_R297 m', Md_K297 m', Md_R298 m', Md_K298 m', Md_R299 m', Md_K299 m', c2, oi, mod100, l2, Int.toNat_natCast, Int.natCast_nonneg, true_and, and_true, and_self, if_true, if_false, or_true, true_or, or_false, false_or, ne_eq, not_true_eq_false, not_false_eq_true, Nat.reduceLeDiff, Nat.reduceEqDiff, Nat.reduceLT, Nat.reduceAdd, Nat.reduceMul, Nat.reduceSub, Int.reduceLT, Int.reduceLE, Int.reduceEq, Int.reduceToNat, Int.reduceAdd, Int.reduceSub, Int.reduceMul, Int.reduceNeg, Int.cast_ofNat_Int, false_and, and_false]
          exact go
        · rw [if_neg hc] at go ⊢
          simp only [rX12_deepest_58, rX12_deepest_59, rX12_deepest_60, rX12_deepest_63, l2]
          exact go
    exact main L.length 0 (Nat.zero_add _)
  · simp only [if_neg h1] at k
    rw [if_neg h1, if_pos (by trivial)]
    exact k h (Fp.refl _ h)
noncomputable def shV2 (σ : AS) (t : Int) : Int := if 0 ≤ t ∧ t < ((2 ^ (sA σ 2).toNat : Nat) : Int) then mnL (Lst (sA σ) (stA (sA σ)) t.toNat) 268435456 (Lst (sA σ) (stA (sA σ)) t.toNat).length else -3
theorem C_shallowest {d : Nat} {σ : AS} {t : Int} (ht : i32 t) : CSpec (d + 7) mX11_shallowest [some (.inr (.inr 200)), some (.inl t), none, none, none] σ (.inl (shV2 σ t)) σ := by
  intro h Q x w k
  have m := x.1.1
  unfold shV2 at k
  simp only [rX11_shallowest_0, rX11_shallowest_1, rX11_shallowest_2, rX11_shallowest_5, rX11_shallowest_8, rX11_shallowest_10, Cs_K200 m, Cs_R200_0 m, Cs_R200_1 m, Cs_R200_2 m, Cs_R200_3 m, Cs_R200_4 m, Cs_R200_5 m, Cs_R200_6 m, Cs_K201 m, Cs_R201_0 m, Cs_R201_1 m, Cs_K202 m, Cs_K203 m, Cs_K211 m, Cs_R211_0 m, Cs_R211_1 m, Cs_K212 m, Cs_K213 m, Cs_K214 m, Cs_R214_0 m, Cs_R214_1 m, Cs_K215 m, Cs_K216 m, Cs_K217 m, Cs_R217_0 m, Cs_R217_1 m, Cs_K218 m, Cs_K219 m, Cs_K220 m, Cs_R220_0 m, Cs_K221 m, Cs_K262 m, Cs_K271 m, Cs_R271_0 m, Cs_R271_1 m, Cs_K272 m, Cs_K276 m, Cs_R272_0 m, Cs_R276_0 m, Cs_K273 m, Cs_R273_0 m, Cs_R273_1 m, Cs_K274 m, Cs_K275 m, Cs_K277 m, Cs_R277_0 m, Cs_R277_1 m, Cs_K278 m, Cs_K279 m, Cs_R262_0 m, Cs_K263 m, Cs_R263_0 m, Cs_K264 m, Cs_R262_1 m, Cs_K265 m, Cs_R265_0 m, Cs_K266 m, Cs_R262_2 m, Cs_K267 m, Cs_R267_0 m, Cs_K268 m, Cs_R262_3 m, Cs_K269 m, Cs_R269_0 m, Cs_K270 m, Int.toNat_natCast, Int.natCast_nonneg, true_and, and_true, and_self, if_true, if_false, or_true, true_or, or_false, false_or, ne_eq, not_true_eq_false, not_false_eq_true, Nat.reduceLeDiff, Nat.reduceEqDiff, Nat.reduceLT, Nat.reduceAdd, Nat.reduceMul, Nat.reduceSub, Int.reduceLT, Int.reduceLE, Int.reduceEq, Int.reduceToNat, Int.reduceAdd, Int.reduceSub, Int.reduceMul, Int.reduceNeg, Int.cast_ofNat_Int, false_and, and_false, S_cSet (x.cp w) ht, psh_some]
  by_cases h1 : 0 ≤ t ∧ t < ((2 ^ (sA σ 2).toNat : Nat) : Int)
  · simp only [if_pos h1] at k
    rw [if_pos h1, if_neg (by decide)]
    obtain ⟨s, rfl, hs⟩ := set_nat h1
    simp only [rX11_shallowest_11, rX11_shallowest_12, rX11_shallowest_13, Cs_K200 m, Cs_R200_0 m, Cs_R200_1 m, Cs_R200_2 m, Cs_R200_3 m, Cs_R200_4 m, Cs_R200_5 m, Cs_R200_6 m, Cs_K201 m, Cs_R201_0 m, Cs_R201_1 m, Cs_K202 m, Cs_K203 m, Cs_K211 m, Cs_R211_0 m, Cs_R211_1 m, Cs_K212 m, Cs_K213 m, Cs_K214 m, Cs_R214_0 m, Cs_R214_1 m, Cs_K215 m, Cs_K216 m, Cs_K217 m, Cs_R217_0 m, Cs_R217_1 m, Cs_K218 m, Cs_K219 m, Cs_K220 m, Cs_R220_0 m, Cs_K221 m, Cs_K262 m, Cs_K271 m, Cs_R271_0 m, Cs_R271_1 m, Cs_K272 m, Cs_K276 m, Cs_R272_0 m, Cs_R276_0 m, Cs_K273 m, Cs_R273_0 m, Cs_R273_1 m, Cs_K274 m, Cs_K275 m, Cs_K277 m, Cs_R277_0 m, Cs_R277_1 m, Cs_K278 m, Cs_K279 m, Cs_R262_0 m, Cs_K263 m, Cs_R263_0 m, Cs_K264 m, Cs_R262_1 m, Cs_K265 m, Cs_R265_0 m, Cs_K266 m, Cs_R262_2 m, Cs_K267 m, Cs_R267_0 m, Cs_K268 m, Cs_R262_3 m, Cs_K269 m, Cs_R269_0 m, Cs_K270 m, Int.toNat_natCast, Int.natCast_nonneg, true_and, and_true, and_self, if_true, if_false, or_true, true_or, or_false, false_or, ne_eq, not_true_eq_false, not_false_eq_true, Nat.reduceLeDiff, Nat.reduceEqDiff, Nat.reduceLT, Nat.reduceAdd, Nat.reduceMul, Nat.reduceSub, Int.reduceLT, Int.reduceLE, Int.reduceEq, Int.reduceToNat, Int.reduceAdd, Int.reduceSub, Int.reduceMul, Int.reduceNeg, Int.cast_ofNat_Int, false_and, and_false]
    refine S_explored x w hs ?_
    intro h' se x' c' pn ps sx srx
    have m' := x'.1.1
    have n0 := now_0 x'
    have ok := Lst_ok w.1 w.2.1 s
    have l16 := Lst_le w.1 w.2.1 s
    simp only [Int.toNat_natCast] at k
    have hm := head_m (A := sA σ) w.2.1 s
    have l0 := (Lst_0 (sA σ) (stA (sA σ)) s).2
    have len := srx.len
    have ord := fun p hp => srx.ord (p := p) hp
    obtain ⟨K0, R4, K6⟩ := sx.2.2.1.o
    have k0 := k h' x' c'
    have fo := w.2.1.1
    generalize Lst (sA σ) (stA (sA σ)) s = L at ok l16 hm l0 len ord k0
    have e0 : mnL L 268435456 L.length = mnL L (stA (sA σ) 0) L.length := by
      obtain ⟨n, hn⟩ : ∃ n, L.length = n + 1 := ⟨L.length - 1, by omega⟩
      rw [hn]
      exact mnL_b (by omega) (by omega) n
    rw [e0] at k0
    simp only [psh_some, rX11_shallowest_16, rX11_shallowest_17, rX11_shallowest_18, rX11_shallowest_21, rX11_shallowest_24, rX11_shallowest_25, rX11_shallowest_26, Cs_K200 m', Cs_R200_0 m', Cs_R200_1 m', Cs_R200_2 m', Cs_R200_3 m', Cs_R200_4 m', Cs_R200_5 m', Cs_R200_6 m', Cs_K201 m', Cs_R201_0 m', Cs_R201_1 m', Cs_K202 m', Cs_K203 m', Cs_K211 m', Cs_R211_0 m', Cs_R211_1 m', Cs_K212 m', Cs_K213 m', Cs_K214 m', Cs_R214_0 m', Cs_R214_1 m', Cs_K215 m', Cs_K216 m', Cs_K217 m', Cs_R217_0 m', Cs_R217_1 m', Cs_K218 m', Cs_K219 m', Cs_K220 m', Cs_R220_0 m', Cs_K221 m', Cs_K262 m', Cs_K271 m', Cs_R271_0 m', Cs_R271_1 m', Cs_K272 m', Cs_K276 m', Cs_R272_0 m', Cs_R276_0 m', Cs_K273 m', Cs_R273_0 m', Cs_R273_1 m', Cs_K274 m', Cs_K275 m', Cs_K277 m', Cs_R277_0 m', Cs_R277_1 m', Cs_K278 m', Cs_K279 m', Cs_R262_0 m', Cs_K263 m', Cs_R263_0 m', Cs_K264 m', Cs_R262_1 m', Cs_K265 m', Cs_R265_0 m', Cs_K266 m', Cs_R262_2 m', Cs_K267 m', Cs_R267_0 m', Cs_K268 m', Cs_R262_3 m', Cs_K269 m', Cs_R269_0 m', Cs_K270 m', n0, Int.toNat_natCast, Int.natCast_nonneg, true_and, and_true, and_self, if_true, if_false, or_true, true_or, or_false, false_or, ne_eq, not_true_eq_false, not_false_eq_true, Nat.reduceLeDiff, Nat.reduceEqDiff, Nat.reduceLT, Nat.reduceAdd, Nat.reduceMul, Nat.reduceSub, Int.reduceLT, Int.reduceLE, Int.reduceEq, Int.reduceToNat, Int.reduceAdd, Int.reduceSub, Int.reduceMul, Int.reduceNeg, Int.cast_ofNat_Int, false_and, and_false]
    have main : ∀ n i, i + n = L.length → WP (d + 7) mX11_shallowest 28 [some (.inr (.inr 200)), some (.inl (s : Int)), some (.inr (.inr se)), some (.inl (mnL L (stA (sA σ) 0) i)), some (.inl (i : Int))] [] h' Q := by
      have ll := ok.len
      intro n
      induction n with
      | zero =>
        intro i hi
        have e : i = L.length := by omega
        subst e
        rw [rX11_shallowest_28]
        simp only [rX11_shallowest_30, rX11_shallowest_31, rX11_shallowest_34, rX11_shallowest_58, rX11_shallowest_59, K0, len, Int.lt_irrefl, Int.toNat_natCast, Int.natCast_nonneg, true_and, and_true, and_self, if_true, if_false, or_true, true_or, or_false, false_or, ne_eq, not_true_eq_false, not_false_eq_true, Nat.reduceLeDiff, Nat.reduceEqDiff, Nat.reduceLT, Nat.reduceAdd, Nat.reduceMul, Nat.reduceSub, Int.reduceLT, Int.reduceLE, Int.reduceEq, Int.reduceToNat, Int.reduceAdd, Int.reduceSub, Int.reduceMul, Int.reduceNeg, Int.cast_ofNat_Int, false_and, and_false]
        exact k0
      | succ n ih =>
        intro i hi
        have c1 : (i : Int) < (L.length : Int) := by omega
        have c2 : (i : Int) < 1600 := by omega
        have l2 : w32 ((i : Int) + 1) = ((i + 1 : Nat) : Int) := w32_s (by omega)
        have l3 : (if ((L.getD i 0 % 100 : Nat) : Int) < mnL L (stA (sA σ) 0) i then ((L.getD i 0 % 100 : Nat) : Int) else mnL L (stA (sA σ) 0) i) = mnL L (stA (sA σ) 0) (i + 1) := rfl
        have oi := ord i (by omega)
        have go := ih (i + 1) (by omega)
        rw [rX11_shallowest_28]
        simp only [rX11_shallowest_30, rX11_shallowest_31, rX11_shallowest_34, rX11_shallowest_37, rX11_shallowest_38, rX11_shallowest_39, rX11_shallowest_42, rX11_shallowest_44, rX11_shallowest_45, rX11_shallowest_48, rX11_shallowest_51, rX11_shallowest_52, rX11_shallowest_55, K0, R4, K6, len, c1, c2, oi, S_boardOf, S_min, psh_some, l3, l2, Int.toNat_natCast, Int.natCast_nonneg, true_and, and_true, and_self, if_true, if_false, or_true, true_or, or_false, false_or, ne_eq, not_true_eq_false, not_false_eq_true, Nat.reduceLeDiff, Nat.reduceEqDiff, Nat.reduceLT, Nat.reduceAdd, Nat.reduceMul, Nat.reduceSub, Int.reduceLT, Int.reduceLE, Int.reduceEq, Int.reduceToNat, Int.reduceAdd, Int.reduceSub, Int.reduceMul, Int.reduceNeg, Int.cast_ofNat_Int, false_and, and_false]
        exact go
    exact main L.length 0 (Nat.zero_add _)
  · simp only [if_neg h1] at k
    rw [if_neg h1, if_pos (by trivial)]
    exact k h x (Cfr.refl h)
theorem R_shallowest {d : Nat} {σ : AS} {t : Int} : RSpec (d + 4) mX12_shallowest [some (.inr (.inr 294)), some (.inl t), none, none] σ (.inl (shV2 σ t)) σ := by
  refine RSpec5.of (RSpec5.u ?_) (fun h Q hk => by simp only [rX12_shallowest_0, rX12_shallowest_1, rX12_shallowest_2, hk, Int.toNat_natCast, Int.natCast_nonneg, true_and, and_true, and_self, if_true, if_false, or_true, true_or, or_false, false_or, ne_eq, not_true_eq_false, not_false_eq_true, Nat.reduceLeDiff, Nat.reduceEqDiff, Nat.reduceLT, Nat.reduceAdd, Nat.reduceMul, Nat.reduceSub, Int.reduceLT, Int.reduceLE, Int.reduceEq, Int.reduceToNat, Int.reduceAdd, Int.reduceSub, Int.reduceMul, Int.reduceNeg, Int.cast_ofNat_Int, false_and, and_false])
  intro h Q x w k
  have m := x.1
  unfold shV2 at k
  simp only [rX12_shallowest_5, rX12_shallowest_6, rX12_shallowest_7, rX12_shallowest_10, rX12_shallowest_13, rX12_shallowest_15, Md_K280 m, Md_R281 m, Md_K281 m, Md_R282 m, Md_K282 m, Md_R283 m, Md_K283 m, Md_R284 m, Md_K284 m, Md_R285 m, Md_K285 m, Md_R286 m, Md_K286 m, Md_R287 m, Md_K287 m, Md_R288 m, Md_K288 m, Md_R289 m, Md_K289 m, Md_R290 m, Md_K290 m, Md_R291 m, Md_K291 m, Md_R292 m, Md_K292 m, Md_R293 m, Md_K293 m, Md_R294 m, Md_K294 m, Md_R295 m, Md_K295 m, Md_R296 m, Md_K296 m, Md_R297 m, Md_K297 m, Md_R298 m, Md_K298 m, Md_R299 m, Md_K299 m, Int.toNat_natCast, Int.natCast_nonneg, true_and, and_true, and_self, if_true, if_false, or_true, true_or, or_false, false_or, ne_eq, not_true_eq_false, not_false_eq_true, Nat.reduceLeDiff, Nat.reduceEqDiff, Nat.reduceLT, Nat.reduceAdd, Nat.reduceMul, Nat.reduceSub, Int.reduceLT, Int.reduceLE, Int.reduceEq, Int.reduceToNat, Int.reduceAdd, Int.reduceSub, Int.reduceMul, Int.reduceNeg, Int.cast_ofNat_Int, false_and, and_false, S_rSet (x.rp w), psh_some]
  by_cases h1 : 0 ≤ t ∧ t < ((2 ^ (sA σ 2).toNat : Nat) : Int)
  · simp only [if_pos h1] at k
    rw [if_pos h1, if_neg (by decide)]
    obtain ⟨s, rfl, hs⟩ := set_nat h1
    simp only [Int.toNat_natCast] at k
    simp only [rX12_shallowest_16, rX12_shallowest_17, rX12_shallowest_18, Md_K280 m, Md_R281 m, Md_K281 m, Md_R282 m, Md_K282 m, Md_R283 m, Md_K283 m, Md_R284 m, Md_K284 m, Md_R285 m, Md_K285 m, Md_R286 m, Md_K286 m, Md_R287 m, Md_K287 m, Md_R288 m, Md_K288 m, Md_R289 m, Md_K289 m, Md_R290 m, Md_K290 m, Md_R291 m, Md_K291 m, Md_R292 m, Md_K292 m, Md_R293 m, Md_K293 m, Md_R294 m, Md_K294 m, Md_R295 m, Md_K295 m, Md_R296 m, Md_K296 m, Md_R297 m, Md_K297 m, Md_R298 m, Md_K298 m, Md_R299 m, Md_K299 m, Int.toNat_natCast, Int.natCast_nonneg, true_and, and_true, and_self, if_true, if_false, or_true, true_or, or_false, false_or, ne_eq, not_true_eq_false, not_false_eq_true, Nat.reduceLeDiff, Nat.reduceEqDiff, Nat.reduceLT, Nat.reduceAdd, Nat.reduceMul, Nat.reduceSub, Int.reduceLT, Int.reduceLE, Int.reduceEq, Int.reduceToNat, Int.reduceAdd, Int.reduceSub, Int.reduceMul, Int.reduceNeg, Int.cast_ofNat_Int, false_and, and_false]
    refine S_laysStands (x.rp w) w.2.1 (set64 w.1 hs) ?_
    intro h' f' x'
    have m' := x'.1
    have k0 := k h' (f'.mono (fun a k q => rsP_u q))
    have len := x'.2.2.1
    have ok := x'.2.2.2.1
    have ord := x'.2.2.2.2.1
    generalize Lst (sA σ) (stA (sA σ)) s = L at ok len ord k0
    simp only [psh_none, rX12_shallowest_21, rX12_shallowest_24, rX12_shallowest_25, rX12_shallowest_26]
    have main : ∀ n i, i + n = L.length → WP (d + 4) mX12_shallowest 27 [some (.inr (.inr 294)), some (.inl (s : Int)), some (.inl (mnL L 268435456 i)), some (.inl (i : Int))] [] h' Q := by
      have ll := ok.len
      intro n
      induction n with
      | zero =>
        intro i hi
        have e : i = L.length := by omega
        subst e
        rw [rX12_shallowest_27]
        simp only [rX12_shallowest_28, rX12_shallowest_29, rX12_shallowest_32, rX12_shallowest_68, rX12_shallowest_69, Md_K280 m', Md_R281 m', Md_K281 m', Md_R282 m', Md_K282 m', Md_R283 m', Md_K283 m', Md_R284 m', Md_K284 m', Md_R285 m', Md_K285 m', Md_R286 m', Md_K286 m', Md_R287 m', Md_K287 m', Md_R288 m', Md_K288 m', Md_R289 m', Md_K289 m', Md_R290 m', Md_K290 m', Md_R291 m', Md_K291 m', Md_R292 m', Md_K292 m', Md_R293 m', Md_K293 m', Md_R294 m', Md_K294 m', Md_R295 m', Md_K295 m', Md_R296 m', Md_K296 m', Md_R297 m', Md_K297 m', Md_R298 m', Md_K298 m', Md_R299 m', Md_K299 m', len, Int.lt_irrefl, Int.toNat_natCast, Int.natCast_nonneg, true_and, and_true, and_self, if_true, if_false, or_true, true_or, or_false, false_or, ne_eq, not_true_eq_false, not_false_eq_true, Nat.reduceLeDiff, Nat.reduceEqDiff, Nat.reduceLT, Nat.reduceAdd, Nat.reduceMul, Nat.reduceSub, Int.reduceLT, Int.reduceLE, Int.reduceEq, Int.reduceToNat, Int.reduceAdd, Int.reduceSub, Int.reduceMul, Int.reduceNeg, Int.cast_ofNat_Int, false_and, and_false]
        exact k0
      | succ n ih =>
        intro i hi
        have c1 : (i : Int) < (L.length : Int) := by omega
        have c2 : (i : Int) < 6400 := by omega
        have l2 : w32 ((i : Int) + 1) = ((i + 1 : Nat) : Int) := w32_s (by omega)
        have oi := ord i (by omega)
        have go := ih (i + 1) (by omega)
        unfold mnL at go
        rw [rX12_shallowest_27]
        simp only [rX12_shallowest_28, rX12_shallowest_29, rX12_shallowest_32, rX12_shallowest_35, rX12_shallowest_36, rX12_shallowest_39, rX12_shallowest_40, rX12_shallowest_41, rX12_shallowest_43, rX12_shallowest_44, rX12_shallowest_45, Md_K280 m', Md_R281 m', Md_K281 m', Md_R282 m', Md_K282 m', Md_R283 m', Md_K283 m', Md_R284 m', Md_K284 m', Md_R285 m', Md_K285 m', Md_R286 m', Md_K286 m', Md_R287 m', Md_K287 m', Md_R288 m', Md_K288 m', Md_R289 m', Md_K289 m', Md_R290 m', Md_K290 m', Md_R291 m', Md_K291 m', Md_R292 m', Md_K292 m', Md_R293 m', Md_K293 m', Md_R294 m', Md_K294 m', Md_R295 m', Md_K295 m', Md_R296 m', Md_K296 m', Md_R297 m', Md_K297 m', Md_R298 m', Md_K298 m', Md_R299 m', Md_K299 m', len, c1, c2, oi, mod100, Int.toNat_natCast, Int.natCast_nonneg, true_and, and_true, and_self, if_true, if_false, or_true, true_or, or_false, false_or, ne_eq, not_true_eq_false, not_false_eq_true, Nat.reduceLeDiff, Nat.reduceEqDiff, Nat.reduceLT, Nat.reduceAdd, Nat.reduceMul, Nat.reduceSub, Int.reduceLT, Int.reduceLE, Int.reduceEq, Int.reduceToNat, Int.reduceAdd, Int.reduceSub, Int.reduceMul, Int.reduceNeg, Int.cast_ofNat_Int, false_and, and_false]
        by_cases hc : ((L.getD i 0 % 100 : Nat) : Int) < mnL L 268435456 i
        · rw [if_pos hc] at go ⊢
          simp only [rX12_shallowest_48, rX12_shallowest_49, rX12_shallowest_52, rX12_shallowest_53, rX12_shallowest_54, rX12_shallowest_56, rX12_shallowest_57, rX12_shallowest_60, rX12_shallowest_61, rX12_shallowest_62, rX12_shallowest_65, Md_K280 m', Md_R281 m', Md_K281 m', Md_R282 m', Md_K282 m', Md_R283 m', Md_K283 m', Md_R284 m', Md_K284 m', Md_R285 m', Md_K285 m', Md_R286 m', Md_K286 m', Md_R287 m', Md_K287 m', Md_R288 m', Md_K288 m', Md_R289 m', Md_K289 m', Md_R290 m', Md_K290 m', Md_R291 m', Md_K291 m', Md_R292 m', Md_K292 m', Md_R293 m', Md_K293 m', Md_R294 m', Md_K294 m', Md_R295 m', Md_K295 m', Md_R296 m', Md_K296 m', Md_R297 m', Md_K297 m', Md_R298 m', Md_K298 m', Md_R299 m', Md_K299 m', c2, oi, mod100, l2, Int.toNat_natCast, Int.natCast_nonneg, true_and, and_true, and_self, if_true, if_false, or_true, true_or, or_false, false_or, ne_eq, not_true_eq_false, not_false_eq_true, Nat.reduceLeDiff, Nat.reduceEqDiff, Nat.reduceLT, Nat.reduceAdd, Nat.reduceMul, Nat.reduceSub, Int.reduceLT, Int.reduceLE, Int.reduceEq, Int.reduceToNat, Int.reduceAdd, Int.reduceSub, Int.reduceMul, Int.reduceNeg, Int.cast_ofNat_Int, false_and, and_false]
          exact go
        · rw [if_neg hc] at go ⊢
          simp only [rX12_shallowest_60, rX12_shallowest_61, rX12_shallowest_62, rX12_shallowest_65, l2]
          exact go
    exact main L.length 0 (Nat.zero_add _)
  · simp only [if_neg h1] at k
    rw [if_neg h1, if_pos (by trivial)]
    exact k h (Fp.refl _ h)
