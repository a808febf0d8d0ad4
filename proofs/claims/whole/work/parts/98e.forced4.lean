/-! forces, best, power of the reference -/
def fcP (a k : Nat) : Prop := rsP a k ∨ frP a k
theorem fc_u {a k : Nat} (q : fcP a k) : uP a k := by unfold fcP frP at q; rcases q with q | q; exact rsP_u q; unfold uP; omega
theorem or_set {a b n : Nat} (ha : a < 2 ^ n) (hb : b < 2 ^ n) : a ||| b < 2 ^ n := Nat.or_lt_two_pow ha hb
/-- the least number of turns -/
noncomputable def lwS (σ : AS) (t one other m s : Nat) : Int := lwF (fun n => Wn (fA σ) (glT t) one other n m s)
def FHs (h : Hp) (σ : AS) (t one other : Nat) : Prop := FH h (sA σ) (fA σ) (glT t) one other (Lst (sA σ) (stA (sA σ)) (one ||| other))
set_option maxHeartbeats 1000000 in
theorem S_laysForced {d : Nat} {Q : Option PV → Hp → Prop} {h : Hp} {σ : AS} (x : RRep h σ) (w : WF σ) {t one other : Nat} (t6 : t < 6) (h1 : one < 2 ^ (sA σ 2).toNat) (h2 : other < 2 ^ (sA σ 2).toNat)
    (k : ∀ h', Fp fcP h h' → FHs h' σ t one other → Q (some (.inl (farV (lwS σ t one other 0 (stt (stA (sA σ))))))) h') :
    WP (d + 4) mX12_laysForced 0 [some (.inr (.inr 294)), some (.inl (t : Int)), some (.inl (one : Int)), some (.inl (other : Int)), none, none, none, none, none] [] h Q := by
  have m := x.1
  have hset := or_set h1 h2
  have o31 : one < 2147483648 := Nat.lt_trans (set64 w.1 h1) (by decide)
  have p31 : other < 2147483648 := Nat.lt_trans (set64 w.1 h2) (by decide)
  simp only [rX12_laysForced_0, rX12_laysForced_1, rX12_laysForced_2, rX12_laysForced_3, rX12_laysForced_4, Md_K280 m, Md_R281 m, Md_K281 m, Md_R282 m, Md_K282 m, Md_R283 m, Md_K283 m, Md_R284 m, Md_K284 m, Md_R285 m, Md_K285 m, Md_R286 m, Md_K286 m, Md_R287 m, Md_K287 m, Md_R288 m, Md_K288 m, Md_R289 m, Md_K289 m, Md_R290 m, Md_K290 m, Md_R291 m, Md_K291 m, Md_R292 m, Md_K292 m, Md_R293 m, Md_K293 m, Md_R294 m, Md_K294 m, Md_R295 m, Md_K295 m, Md_R296 m, Md_K296 m, Md_R297 m, Md_K297 m, Md_R298 m, Md_K298 m, Md_R299 m, Md_K299 m, ior_n o31 p31, Int.toNat_natCast, Int.natCast_nonneg, true_and, and_true, and_self, if_true, if_false, or_true, true_or, or_false, false_or, ne_eq, not_true_eq_false, not_false_eq_true, Nat.reduceLeDiff, Nat.reduceEqDiff, Nat.reduceLT, Nat.reduceAdd, Nat.reduceMul, Nat.reduceSub, Int.reduceLT, Int.reduceLE, Int.reduceEq, Int.reduceToNat, Int.reduceAdd, Int.reduceSub, Int.reduceMul, Int.reduceNeg, Int.cast_ofNat_Int, false_and, and_false]
  refine S_laysStands (x.rp w) w.2.1 (set64 w.1 hset) ?_
  intro h1' f1 x1
  have rq : RQ h1' (sA σ) (fA σ) (one ||| other) (Lst (sA σ) (stA (sA σ)) (one ||| other)) := x1.rq w.1 w.2.1 hset
  have rg : RG h1' (sA σ) (fA σ) one other (Lst (sA σ) (stA (sA σ)) (one ||| other)) := ⟨rq, h1, h2⟩
  have l0 := Lst_0 (sA σ) (stA (sA σ)) (one ||| other)
  have k' : ∀ h', Fp fcP h h' → FH h' (sA σ) (fA σ) (glT t) one other (Lst (sA σ) (stA (sA σ)) (one ||| other)) → Q (some (.inl (farV (lwS σ t one other 0 (stt (stA (sA σ))))))) h' := k
  clear k
  generalize Lst (sA σ) (stA (sA σ)) (one ||| other) = L at rq rg l0 k'
  have ok := rq.2.2.2.1
  simp only [psh_none, rX12_laysForced_7, rX12_laysForced_8]
  refine wp_for (fun i e => WP (d + 4) mX12_laysForced 10 [some (.inr (.inr 294)), some (.inl (t : Int)), some (.inl (one : Int)), some (.inl (other : Int)), some (.inl (i : Int)), none, none, none, none] [] e Q) (fun i e => Fp frP h1' e ∧ ∀ p, p < i → p < L.length → hI e 305 (L.getD p 0) = (if glT t (L.getD p 0) = true then 0 else 268435456) ∧ hI e 306 (L.getD p 0) = (if glT t (L.getD p 0) = true then 0 else 268435456)) L.length ?_ ?_ 0 h1' (Nat.zero_le _) ⟨Fp.refl _ h1', fun p hp => absurd hp (Nat.not_lt_zero _)⟩
  · rintro i e hi ⟨fe, ze⟩ kk
    obtain ⟨p1, p2, p3, p4⟩ := i_64 ok hi
    have xe := rg.fr fe (fun a k q => fr_no q)
    have me := xe.1.1
    have oi := xe.1.2.2.2.2.1 i hi
    have sl := getD_lt ok hi
    have sl' := lt64 sl
    have go : ∀ v : Int, v = (if glT t (L.getD i 0) = true then 0 else 268435456) → WP (d + 4) mX12_laysForced 10 [some (.inr (.inr 294)), some (.inl (t : Int)), some (.inl (one : Int)), some (.inl (other : Int)), some (.inl ((i + 1 : Nat) : Int)), none, none, none, none] [] (wI (wI e 305 (L.getD i 0) v) 306 (L.getD i 0) v) Q := by
      intro v hv
      obtain ⟨e0, e1⟩ := fr_heap (h := e) (s := L.getD i 0) (a := v) (b := v)
      refine kk _ ⟨(fe.wI (Or.inl rfl) _).wI (Or.inr rfl) _, fun p hp hpl => ?_⟩
      rw [e0, e1]
      by_cases hpi : p = i
      · rw [hpi, if_pos rfl, if_pos rfl]; exact ⟨hv, hv⟩
      · have hne : L.getD p 0 ≠ L.getD i 0 := fun c => hpi (getD_inj ok hpl hi c)
        rw [if_neg hne, if_neg hne]; exact ze p (lt_one hp hpi) hpl
    rw [rX12_laysForced_10]
    simp only [rX12_laysForced_12, rX12_laysForced_13, rX12_laysForced_16, rX12_laysForced_19, rX12_laysForced_20, rX12_laysForced_23, rX12_laysForced_24, rX12_laysForced_27, rX12_laysForced_29, rX12_laysForced_30, rX12_laysForced_31, rX12_laysForced_34, rX12_laysForced_36, rX12_laysForced_37, rX12_laysForced_38, rX12_laysForced_41, Md_K280 me, Md_R281 me, Md_K281 me, Md_R282 me, Md_K282 me, Md_R283 me, Md_K283 me, Md_R284 me, Md_K284 me, Md_R285 me, Md_K285 me, Md_R286 me, Md_K286 me, Md_R287 me, Md_K287 me, Md_R288 me, Md_K288 me, Md_R289 me, Md_K289 me, Md_R290 me, Md_K290 me, Md_R291 me, Md_K291 me, Md_R292 me, Md_K292 me, Md_R293 me, Md_K293 me, Md_R294 me, Md_K294 me, Md_R295 me, Md_K295 me, Md_R296 me, Md_K296 me, Md_R297 me, Md_K297 me, Md_R298 me, Md_K298 me, Md_R299 me, Md_K299 me, xe.1.2.2.1, p1, p2, oi, S_isGoal sl t6, psh_some, Int.toNat_natCast, Int.natCast_nonneg, true_and, and_true, and_self, if_true, if_false, or_true, true_or, or_false, false_or, ne_eq, not_true_eq_false, not_false_eq_true, Nat.reduceLeDiff, Nat.reduceEqDiff, Nat.reduceLT, Nat.reduceAdd, Nat.reduceMul, Nat.reduceSub, Int.reduceLT, Int.reduceLE, Int.reduceEq, Int.reduceToNat, Int.reduceAdd, Int.reduceSub, Int.reduceMul, Int.reduceNeg, Int.cast_ofNat_Int, false_and, and_false]
    by_cases hg : (L.getD i 0 / 100).testBit t = true
    · have g0 := go 0 (by rw [if_pos (show glT t (L.getD i 0) = true from hg)])
      simp only [if_pos hg]
      rw [if_neg (by decide)]
      simp only [rX12_laysForced_44, rX12_laysForced_45, rX12_laysForced_51, rX12_laysForced_52, rX12_laysForced_53, rX12_laysForced_56, rX12_laysForced_57, rX12_laysForced_60, rX12_laysForced_62, rX12_laysForced_63, rX12_laysForced_64, rX12_laysForced_67, rX12_laysForced_68, rX12_laysForced_71, rX12_laysForced_73, rX12_laysForced_74, rX12_laysForced_75, rX12_laysForced_76, rX12_laysForced_79, hN_wI, hN_wJ, hN_wR, hS_wI, hS_wJ, hS_wR, hK_wI, hK_wJ, hK_wR, hI_wI, hI_wJ, hI_wR, hJ_wI, hJ_wJ, hJ_wR, hR_wI, hR_wJ, hR_wR, hN_nw, hS_nw, hK_nw, hI_nw, hJ_nw, hR_nw, psh_some, psh_none, Md_K280 me, Md_R281 me, Md_K281 me, Md_R282 me, Md_K282 me, Md_R283 me, Md_K283 me, Md_R284 me, Md_K284 me, Md_R285 me, Md_K285 me, Md_R286 me, Md_K286 me, Md_R287 me, Md_K287 me, Md_R288 me, Md_K288 me, Md_R289 me, Md_K289 me, Md_R290 me, Md_K290 me, Md_R291 me, Md_K291 me, Md_R292 me, Md_K292 me, Md_R293 me, Md_K293 me, Md_R294 me, Md_K294 me, Md_R295 me, Md_K295 me, Md_R296 me, Md_K296 me, Md_R297 me, Md_K297 me, Md_R298 me, Md_K298 me, Md_R299 me, Md_K299 me, p2, p3, oi, sl', Int.toNat_natCast, Int.natCast_nonneg, true_and, and_true, and_self, if_true, if_false, or_true, true_or, or_false, false_or, ne_eq, not_true_eq_false, not_false_eq_true, Nat.reduceLeDiff, Nat.reduceEqDiff, Nat.reduceLT, Nat.reduceAdd, Nat.reduceMul, Nat.reduceSub, Int.reduceLT, Int.reduceLE, Int.reduceEq, Int.reduceToNat, Int.reduceAdd, Int.reduceSub, Int.reduceMul, Int.reduceNeg, Int.cast_ofNat_Int, false_and, and_false]
      exact g0
    · have g0 := go 268435456 (by rw [if_neg (show ¬ glT t (L.getD i 0) = true from hg)])
      simp only [if_neg hg]
      rw [if_pos (by trivial)]
      simp only [rX12_laysForced_48, rX12_laysForced_51, rX12_laysForced_52, rX12_laysForced_53, rX12_laysForced_56, rX12_laysForced_57, rX12_laysForced_60, rX12_laysForced_62, rX12_laysForced_63, rX12_laysForced_64, rX12_laysForced_67, rX12_laysForced_68, rX12_laysForced_71, rX12_laysForced_73, rX12_laysForced_74, rX12_laysForced_75, rX12_laysForced_76, rX12_laysForced_79, hN_wI, hN_wJ, hN_wR, hS_wI, hS_wJ, hS_wR, hK_wI, hK_wJ, hK_wR, hI_wI, hI_wJ, hI_wR, hJ_wI, hJ_wJ, hJ_wR, hR_wI, hR_wJ, hR_wR, hN_nw, hS_nw, hK_nw, hI_nw, hJ_nw, hR_nw, psh_some, psh_none, Md_K280 me, Md_R281 me, Md_K281 me, Md_R282 me, Md_K282 me, Md_R283 me, Md_K283 me, Md_R284 me, Md_K284 me, Md_R285 me, Md_K285 me, Md_R286 me, Md_K286 me, Md_R287 me, Md_K287 me, Md_R288 me, Md_K288 me, Md_R289 me, Md_K289 me, Md_R290 me, Md_K290 me, Md_R291 me, Md_K291 me, Md_R292 me, Md_K292 me, Md_R293 me, Md_K293 me, Md_R294 me, Md_K294 me, Md_R295 me, Md_K295 me, Md_R296 me, Md_K296 me, Md_R297 me, Md_K297 me, Md_R298 me, Md_K298 me, Md_R299 me, Md_K299 me, p2, p3, oi, sl', Int.toNat_natCast, Int.natCast_nonneg, true_and, and_true, and_self, if_true, if_false, or_true, true_or, or_false, false_or, ne_eq, not_true_eq_false, not_false_eq_true, Nat.reduceLeDiff, Nat.reduceEqDiff, Nat.reduceLT, Nat.reduceAdd, Nat.reduceMul, Nat.reduceSub, Int.reduceLT, Int.reduceLE, Int.reduceEq, Int.reduceToNat, Int.reduceAdd, Int.reduceSub, Int.reduceMul, Int.reduceNeg, Int.cast_ofNat_Int, false_and, and_false]
      exact g0
  · rintro e ⟨fe, ze⟩
    have xe := rg.fr fe (fun a k q => fr_no q)
    have me := xe.1.1
    rw [rX12_laysForced_10]
    simp only [rX12_laysForced_12, rX12_laysForced_13, rX12_laysForced_16, rX12_laysForced_82, rX12_laysForced_83, Md_K280 me, Md_R281 me, Md_K281 me, Md_R282 me, Md_K282 me, Md_R283 me, Md_K283 me, Md_R284 me, Md_K284 me, Md_R285 me, Md_K285 me, Md_R286 me, Md_K286 me, Md_R287 me, Md_K287 me, Md_R288 me, Md_K288 me, Md_R289 me, Md_K289 me, Md_R290 me, Md_K290 me, Md_R291 me, Md_K291 me, Md_R292 me, Md_K292 me, Md_R293 me, Md_K293 me, Md_R294 me, Md_K294 me, Md_R295 me, Md_K295 me, Md_R296 me, Md_K296 me, Md_R297 me, Md_K297 me, Md_R298 me, Md_K298 me, Md_R299 me, Md_K299 me, xe.1.2.2.1, Int.lt_irrefl, Int.toNat_natCast, Int.natCast_nonneg, true_and, and_true, and_self, if_true, if_false, or_true, true_or, or_false, false_or, ne_eq, not_true_eq_false, not_false_eq_true, Nat.reduceLeDiff, Nat.reduceEqDiff, Nat.reduceLT, Nat.reduceAdd, Nat.reduceMul, Nat.reduceSub, Int.reduceLT, Int.reduceLE, Int.reduceEq, Int.reduceToNat, Int.reduceAdd, Int.reduceSub, Int.reduceMul, Int.reduceNeg, Int.cast_ofNat_Int, false_and, and_false]
    have fi : FI (hI e 305) (hI e 306) (fA σ) (glT t) one other L := fun s hs => by
      obtain ⟨p, hp, es⟩ := mem_getD hs
      obtain ⟨u1, u2⟩ := ze p hp hp
      rw [es] at u1 u2
      rw [u1, u2]
      by_cases hg : glT t s = true
      · rw [if_pos hg]; exact ⟨Or.inr ⟨0, rfl, by decide, hg⟩, Or.inr ⟨0, rfl, by decide, hg⟩, fun _ => ⟨rfl, rfl⟩⟩
      · rw [if_neg hg]; exact ⟨Or.inl rfl, Or.inl rfl, fun q => absurd q hg⟩
    refine fr_outer (d := d + 2) xe t6 ?_ _ e _ _ _ _ (Nat.le_refl _) (Fp.refl _ e) fi
    intro h2' y5 y6 y7 y8 f2 fh
    have m2 := fh.1.1.1
    have sl := lt64 (stt_lt w.2.1)
    have rp2 : RpF h2' (sA σ) := ⟨m2, fh.1.1.2.1, w.1⟩
    have fin := fh.2 (stt (stA (sA σ))) (by rw [← l0.1]; exact getD_mem l0.2)
    simp only [rX12_laysForced_250, rX12_laysForced_251, rX12_laysForced_254, rX12_laysForced_255, rX12_laysForced_258, rX12_laysForced_259, Md_K280 m2, Md_R281 m2, Md_K281 m2, Md_R282 m2, Md_K282 m2, Md_R283 m2, Md_K283 m2, Md_R284 m2, Md_K284 m2, Md_R285 m2, Md_K285 m2, Md_R286 m2, Md_K286 m2, Md_R287 m2, Md_K287 m2, Md_R288 m2, Md_K288 m2, Md_R289 m2, Md_K289 m2, Md_R290 m2, Md_K290 m2, Md_R291 m2, Md_K291 m2, Md_R292 m2, Md_K292 m2, Md_R293 m2, Md_K293 m2, Md_R294 m2, Md_K294 m2, Md_R295 m2, Md_K295 m2, Md_R296 m2, Md_K296 m2, Md_R297 m2, Md_K297 m2, Md_R298 m2, Md_K298 m2, Md_R299 m2, Md_K299 m2, S_standNow rp2 w.2.1, psh_some, sl, fin.1, Int.toNat_natCast, Int.natCast_nonneg, true_and, and_true, and_self, if_true, if_false, or_true, true_or, or_false, false_or, ne_eq, not_true_eq_false, not_false_eq_true, Nat.reduceLeDiff, Nat.reduceEqDiff, Nat.reduceLT, Nat.reduceAdd, Nat.reduceMul, Nat.reduceSub, Int.reduceLT, Int.reduceLE, Int.reduceEq, Int.reduceToNat, Int.reduceAdd, Int.reduceSub, Int.reduceMul, Int.reduceNeg, Int.cast_ofNat_Int, false_and, and_false]
    exact k' h2' (((f1.mono (fun a k q => Or.inl q)).trans (fe.mono (fun a k q => Or.inr q))).trans (f2.mono (fun a k q => Or.inr q))) fh
def nfV (A : Nat → Int) (t a b : Int) : Int := if 0 ≤ t ∧ t < A 1 then (if (0 ≤ a ∧ a < ((2 ^ (A 2).toNat : Nat) : Int)) ∧ 0 ≤ b ∧ b < ((2 ^ (A 2).toNat : Nat) : Int) then 0 else -3) else -2
theorem S_noForce {d : Nat} {h : Hp} {A : Nat → Int} {Q : Option PV → Hp → Prop} (x : RpF h A) {t a b : Int} : WP (d + 2) mX12_noForce 0 [some (.inr (.inr 294)), some (.inl t), some (.inl a), some (.inl b)] [] h Q = Q (some (.inl (nfV A t a b))) h := by
  have m := x.1
  unfold nfV
  simp only [rX12_noForce_0, rX12_noForce_1, rX12_noForce_2, rX12_noForce_3, rX12_noForce_6, Md_K280 m, Md_R281 m, Md_K281 m, Md_R282 m, Md_K282 m, Md_R283 m, Md_K283 m, Md_R284 m, Md_K284 m, Md_R285 m, Md_K285 m, Md_R286 m, Md_K286 m, Md_R287 m, Md_K287 m, Md_R288 m, Md_K288 m, Md_R289 m, Md_K289 m, Md_R290 m, Md_K290 m, Md_R291 m, Md_K291 m, Md_R292 m, Md_K292 m, Md_R293 m, Md_K293 m, Md_R294 m, Md_K294 m, Md_R295 m, Md_K295 m, Md_R296 m, Md_K296 m, Md_R297 m, Md_K297 m, Md_R298 m, Md_K298 m, Md_R299 m, Md_K299 m, S_rThing x, psh_some, Int.toNat_natCast, Int.natCast_nonneg, true_and, and_true, and_self, if_true, if_false, or_true, true_or, or_false, false_or, ne_eq, not_true_eq_false, not_false_eq_true, Nat.reduceLeDiff, Nat.reduceEqDiff, Nat.reduceLT, Nat.reduceAdd, Nat.reduceMul, Nat.reduceSub, Int.reduceLT, Int.reduceLE, Int.reduceEq, Int.reduceToNat, Int.reduceAdd, Int.reduceSub, Int.reduceMul, Int.reduceNeg, Int.cast_ofNat_Int, false_and, and_false]
  by_cases h1 : 0 ≤ t ∧ t < A 1
  · rw [if_pos h1, if_pos h1, if_neg (by decide)]
    simp only [rX12_noForce_14, rX12_noForce_15, rX12_noForce_16, rX12_noForce_19, Md_K280 m, Md_R281 m, Md_K281 m, Md_R282 m, Md_K282 m, Md_R283 m, Md_K283 m, Md_R284 m, Md_K284 m, Md_R285 m, Md_K285 m, Md_R286 m, Md_K286 m, Md_R287 m, Md_K287 m, Md_R288 m, Md_K288 m, Md_R289 m, Md_K289 m, Md_R290 m, Md_K290 m, Md_R291 m, Md_K291 m, Md_R292 m, Md_K292 m, Md_R293 m, Md_K293 m, Md_R294 m, Md_K294 m, Md_R295 m, Md_K295 m, Md_R296 m, Md_K296 m, Md_R297 m, Md_K297 m, Md_R298 m, Md_K298 m, Md_R299 m, Md_K299 m, S_rSet x, psh_some, Int.toNat_natCast, Int.natCast_nonneg, true_and, and_true, and_self, if_true, if_false, or_true, true_or, or_false, false_or, ne_eq, not_true_eq_false, not_false_eq_true, Nat.reduceLeDiff, Nat.reduceEqDiff, Nat.reduceLT, Nat.reduceAdd, Nat.reduceMul, Nat.reduceSub, Int.reduceLT, Int.reduceLE, Int.reduceEq, Int.reduceToNat, Int.reduceAdd, Int.reduceSub, Int.reduceMul, Int.reduceNeg, Int.cast_ofNat_Int, false_and, and_false]
    by_cases h2 : 0 ≤ a ∧ a < ((2 ^ (A 2).toNat : Nat) : Int)
    · rw [if_pos h2, if_neg (by decide)]
      simp only [rX12_noForce_22, rX12_noForce_23, rX12_noForce_24, rX12_noForce_27, Md_K280 m, Md_R281 m, Md_K281 m, Md_R282 m, Md_K282 m, Md_R283 m, Md_K283 m, Md_R284 m, Md_K284 m, Md_R285 m, Md_K285 m, Md_R286 m, Md_K286 m, Md_R287 m, Md_K287 m, Md_R288 m, Md_K288 m, Md_R289 m, Md_K289 m, Md_R290 m, Md_K290 m, Md_R291 m, Md_K291 m, Md_R292 m, Md_K292 m, Md_R293 m, Md_K293 m, Md_R294 m, Md_K294 m, Md_R295 m, Md_K295 m, Md_R296 m, Md_K296 m, Md_R297 m, Md_K297 m, Md_R298 m, Md_K298 m, Md_R299 m, Md_K299 m, S_rSet x, psh_some, Int.toNat_natCast, Int.natCast_nonneg, true_and, and_true, and_self, if_true, if_false, or_true, true_or, or_false, false_or, ne_eq, not_true_eq_false, not_false_eq_true, Nat.reduceLeDiff, Nat.reduceEqDiff, Nat.reduceLT, Nat.reduceAdd, Nat.reduceMul, Nat.reduceSub, Int.reduceLT, Int.reduceLE, Int.reduceEq, Int.reduceToNat, Int.reduceAdd, Int.reduceSub, Int.reduceMul, Int.reduceNeg, Int.cast_ofNat_Int, false_and, and_false]
      by_cases h3 : 0 ≤ b ∧ b < ((2 ^ (A 2).toNat : Nat) : Int)
      · rw [if_pos h3, if_neg (by decide), if_pos ⟨h2, h3⟩]
        simp only [rX12_noForce_35, rX12_noForce_36]
      · rw [if_neg h3, if_pos (by trivial), if_neg (fun c => h3 c.2)]
        simp only [rX12_noForce_30, rX12_noForce_32, rX12_noForce_36]
    · rw [if_neg h2, if_pos (by trivial), if_neg (fun c => h2 c.1)]
      simp only [rX12_noForce_30, rX12_noForce_32, rX12_noForce_36]
  · rw [if_neg h1, if_neg h1, if_pos (by trivial)]
    simp only [rX12_noForce_9, rX12_noForce_11, rX12_noForce_36]
theorem nfV_0 {A : Nat → Int} {t a b : Int} (po : poolOk A) (h : nfV A t a b = 0) : ∃ T x y : Nat, t = (T : Int) ∧ a = (x : Int) ∧ b = (y : Int) ∧ T < 6 ∧ (T : Int) < A 1 ∧ x < 2 ^ (A 2).toNat ∧ y < 2 ^ (A 2).toNat := by
  unfold nfV at h
  by_cases h1 : 0 ≤ t ∧ t < A 1
  · rw [if_pos h1] at h
    by_cases h2 : (0 ≤ a ∧ a < ((2 ^ (A 2).toNat : Nat) : Int)) ∧ 0 ≤ b ∧ b < ((2 ^ (A 2).toNat : Nat) : Int)
    · obtain ⟨x, ex, hx⟩ := set_nat h2.1
      obtain ⟨y, ey, hy⟩ := set_nat h2.2
      have := po.2.1
      exact ⟨t.toNat, x, y, by omega, ex, ey, by omega, by omega, hx, hy⟩
    · rw [if_neg h2] at h; exact absurd h (by decide)
  · rw [if_neg h1] at h; exact absurd h (by decide)
noncomputable def fcV (σ : AS) (t a b : Int) : Int := if nfV (sA σ) t a b = 0 then lwS σ t.toNat a.toNat b.toNat 0 (stt (stA (sA σ))) else nfV (sA σ) t a b
theorem far_v2 {v : Int} (h : v = -1 ∨ ∃ n : Nat, v = (n : Int) ∧ n < 268435456) : (farV v = 268435456) = (v = -1) := by
  unfold farV
  rcases h with h | ⟨n, h, hn⟩
  · rw [if_pos h]; exact propext ⟨fun _ => h, fun _ => rfl⟩
  · rw [if_neg (by omega)]; exact propext ⟨fun q => by omega, fun q => by omega⟩
theorem lwS_in (σ : AS) (t one other m s : Nat) : lwS σ t one other m s = -1 ∨ ∃ n : Nat, lwS σ t one other m s = (n : Int) ∧ n < 268435456 := lwF_in _
theorem farV_ne {v : Int} (h : v ≠ -1) : farV v = v := if_neg h
theorem R_forces {d : Nat} {σ : AS} {t a b : Int} : RSpec (d + 5) mX12_forces [some (.inr (.inr 294)), some (.inl t), some (.inl a), some (.inl b), none, none] σ (.inl (fcV σ t a b)) σ := by
  refine RSpec5.of (RSpec5.u ?_) (fun h Q hk => by simp only [rX12_forces_0, rX12_forces_1, rX12_forces_2, hk, Int.toNat_natCast, Int.natCast_nonneg, true_and, and_true, and_self, if_true, if_false, or_true, true_or, or_false, false_or, ne_eq, not_true_eq_false, not_false_eq_true, Nat.reduceLeDiff, Nat.reduceEqDiff, Nat.reduceLT, Nat.reduceAdd, Nat.reduceMul, Nat.reduceSub, Int.reduceLT, Int.reduceLE, Int.reduceEq, Int.reduceToNat, Int.reduceAdd, Int.reduceSub, Int.reduceMul, Int.reduceNeg, Int.cast_ofNat_Int, false_and, and_false])
  intro h Q x w k
  have m := x.1
  unfold fcV at k
  simp only [rX12_forces_5, rX12_forces_6, rX12_forces_7, rX12_forces_8, rX12_forces_9, rX12_forces_12, rX12_forces_14, rX12_forces_16, Md_K280 m, Md_R281 m, Md_K281 m, Md_R282 m, Md_K282 m, Md_R283 m, Md_K283 m, Md_R284 m, Md_K284 m, Md_R285 m, Md_K285 m, Md_R286 m, Md_K286 m, Md_R287 m, Md_K287 m, Md_R288 m, Md_K288 m, Md_R289 m, Md_K289 m, Md_R290 m, Md_K290 m, Md_R291 m, Md_K291 m, Md_R292 m, Md_K292 m, Md_R293 m, Md_K293 m, Md_R294 m, Md_K294 m, Md_R295 m, Md_K295 m, Md_R296 m, Md_K296 m, Md_R297 m, Md_K297 m, Md_R298 m, Md_K298 m, Md_R299 m, Md_K299 m, S_noForce (x.rp w), psh_some, Int.toNat_natCast, Int.natCast_nonneg, true_and, and_true, and_self, if_true, if_false, or_true, true_or, or_false, false_or, ne_eq, not_true_eq_false, not_false_eq_true, Nat.reduceLeDiff, Nat.reduceEqDiff, Nat.reduceLT, Nat.reduceAdd, Nat.reduceMul, Nat.reduceSub, Int.reduceLT, Int.reduceLE, Int.reduceEq, Int.reduceToNat, Int.reduceAdd, Int.reduceSub, Int.reduceMul, Int.reduceNeg, Int.cast_ofNat_Int, false_and, and_false]
  by_cases h0 : nfV (sA σ) t a b = 0
  · rw [if_pos h0] at k ⊢
    obtain ⟨T, p, q, rfl, rfl, rfl, T6, _, hp, hq⟩ := nfV_0 w.1 h0
    simp only [Int.toNat_natCast] at k
    simp only [h0, rX12_forces_22, rX12_forces_23, rX12_forces_24, rX12_forces_25, rX12_forces_26, Md_K280 m, Md_R281 m, Md_K281 m, Md_R282 m, Md_K282 m, Md_R283 m, Md_K283 m, Md_R284 m, Md_K284 m, Md_R285 m, Md_K285 m, Md_R286 m, Md_K286 m, Md_R287 m, Md_K287 m, Md_R288 m, Md_K288 m, Md_R289 m, Md_K289 m, Md_R290 m, Md_K290 m, Md_R291 m, Md_K291 m, Md_R292 m, Md_K292 m, Md_R293 m, Md_K293 m, Md_R294 m, Md_K294 m, Md_R295 m, Md_K295 m, Md_R296 m, Md_K296 m, Md_R297 m, Md_K297 m, Md_R298 m, Md_K298 m, Md_R299 m, Md_K299 m, Int.toNat_natCast, Int.natCast_nonneg, true_and, and_true, and_self, if_true, if_false, or_true, true_or, or_false, false_or, ne_eq, not_true_eq_false, not_false_eq_true, Nat.reduceLeDiff, Nat.reduceEqDiff, Nat.reduceLT, Nat.reduceAdd, Nat.reduceMul, Nat.reduceSub, Int.reduceLT, Int.reduceLE, Int.reduceEq, Int.reduceToNat, Int.reduceAdd, Int.reduceSub, Int.reduceMul, Int.reduceNeg, Int.cast_ofNat_Int, false_and, and_false]
    refine S_laysForced x w T6 hp hq ?_
    intro h' f' fh
    have k0 := k h' (f'.mono (fun a k q => fc_u q))
    simp only [psh_some, rX12_forces_29, rX12_forces_31, rX12_forces_33, rX12_forces_36, far_v2 (lwS_in σ T p q 0 (stt (stA (sA σ))))]
    by_cases hv : lwS σ T p q 0 (stt (stA (sA σ))) = -1
    · rw [if_pos hv]
      simp only [rX12_forces_39, rX12_forces_40, rX12_forces_45]
      rw [hv] at k0
      exact k0
    · rw [if_neg hv]
      simp only [rX12_forces_43, rX12_forces_45]
      rw [farV_ne hv]
      exact k0
  · rw [if_neg h0] at k ⊢
    simp only [rX12_forces_19, rX12_forces_21]
    exact k h (Fp.refl _ h)
/-- goers by whom it is kept to so few turns -/
noncomputable def beB (σ : AS) (T a b : Nat) (v : Int) : Nat → Bool := fun g => a.testBit g && decide (lwS σ T a b 1 (fA σ g (stt (stA (sA σ)))) = v - 1)
noncomputable def beV (σ : AS) (t a b : Int) : Int := if nfV (sA σ) t a b = 0 then (if 0 < lwS σ t.toNat a.toNat b.toNat 0 (stt (stA (sA σ))) then ffR (beB σ t.toNat a.toNat b.toNat (lwS σ t.toNat a.toNat b.toNat 0 (stt (stA (sA σ))))) (GA σ) 0 else -1) else nfV (sA σ) t a b
theorem far_1 {u v : Int} (h : u = -1 ∨ ∃ n : Nat, u = (n : Int) ∧ n < 268435456) (hv : 0 < v) (hv2 : v < 268435456) : (farV u = w32 (v - 1)) = (u = v - 1) := by
  rw [w32_i (by omega) (by omega)]
  unfold farV
  rcases h with h | ⟨n, h, hn⟩
  · rw [if_pos h]; exact propext ⟨fun q => by omega, fun q => by omega⟩
  · rw [if_neg (by omega)]
theorem far_c {v : Int} (h : v = -1 ∨ ∃ n : Nat, v = (n : Int) ∧ n < 268435456) : (0 < v → 0 < farV v ∧ farV v < 268435456 ∧ farV v = v) ∧ (¬ 0 < v → ¬ 0 < farV v ∨ ¬ farV v < 268435456) := by
  unfold farV
  split <;> omega
set_option maxHeartbeats 1000000 in
theorem R_best {d : Nat} {σ : AS} {t a b : Int} : RSpec (d + 5) mX12_best [some (.inr (.inr 294)), some (.inl t), some (.inl a), some (.inl b), none, none, none] σ (.inl (beV σ t a b)) σ := by
  refine RSpec5.of (RSpec5.u ?_) (fun h Q hk => by simp only [rX12_best_0, rX12_best_1, rX12_best_2, hk, Int.toNat_natCast, Int.natCast_nonneg, true_and, and_true, and_self, if_true, if_false, or_true, true_or, or_false, false_or, ne_eq, not_true_eq_false, not_false_eq_true, Nat.reduceLeDiff, Nat.reduceEqDiff, Nat.reduceLT, Nat.reduceAdd, Nat.reduceMul, Nat.reduceSub, Int.reduceLT, Int.reduceLE, Int.reduceEq, Int.reduceToNat, Int.reduceAdd, Int.reduceSub, Int.reduceMul, Int.reduceNeg, Int.cast_ofNat_Int, false_and, and_false])
  intro h Q x w k
  have m := x.1
  unfold beV at k
  simp only [rX12_best_5, rX12_best_6, rX12_best_7, rX12_best_8, rX12_best_9, rX12_best_12, rX12_best_14, rX12_best_16, Md_K280 m, Md_R281 m, Md_K281 m, Md_R282 m, Md_K282 m, Md_R283 m, Md_K283 m, Md_R284 m, Md_K284 m, Md_R285 m, Md_K285 m, Md_R286 m, Md_K286 m, Md_R287 m, Md_K287 m, Md_R288 m, Md_K288 m, Md_R289 m, Md_K289 m, Md_R290 m, Md_K290 m, Md_R291 m, Md_K291 m, Md_R292 m, Md_K292 m, Md_R293 m, Md_K293 m, Md_R294 m, Md_K294 m, Md_R295 m, Md_K295 m, Md_R296 m, Md_K296 m, Md_R297 m, Md_K297 m, Md_R298 m, Md_K298 m, Md_R299 m, Md_K299 m, S_noForce (x.rp w), psh_some, Int.toNat_natCast, Int.natCast_nonneg, true_and, and_true, and_self, if_true, if_false, or_true, true_or, or_false, false_or, ne_eq, not_true_eq_false, not_false_eq_true, Nat.reduceLeDiff, Nat.reduceEqDiff, Nat.reduceLT, Nat.reduceAdd, Nat.reduceMul, Nat.reduceSub, Int.reduceLT, Int.reduceLE, Int.reduceEq, Int.reduceToNat, Int.reduceAdd, Int.reduceSub, Int.reduceMul, Int.reduceNeg, Int.cast_ofNat_Int, false_and, and_false]
  by_cases h0 : nfV (sA σ) t a b = 0
  · rw [if_pos h0] at k ⊢
    obtain ⟨T, p, q, rfl, rfl, rfl, T6, _, hp, hq⟩ := nfV_0 w.1 h0
    simp only [Int.toNat_natCast] at k
    simp only [h0, rX12_best_22, rX12_best_23, rX12_best_24, rX12_best_25, rX12_best_26, Md_K280 m, Md_R281 m, Md_K281 m, Md_R282 m, Md_K282 m, Md_R283 m, Md_K283 m, Md_R284 m, Md_K284 m, Md_R285 m, Md_K285 m, Md_R286 m, Md_K286 m, Md_R287 m, Md_K287 m, Md_R288 m, Md_K288 m, Md_R289 m, Md_K289 m, Md_R290 m, Md_K290 m, Md_R291 m, Md_K291 m, Md_R292 m, Md_K292 m, Md_R293 m, Md_K293 m, Md_R294 m, Md_K294 m, Md_R295 m, Md_K295 m, Md_R296 m, Md_K296 m, Md_R297 m, Md_K297 m, Md_R298 m, Md_K298 m, Md_R299 m, Md_K299 m, Int.toNat_natCast, Int.natCast_nonneg, true_and, and_true, and_self, if_true, if_false, or_true, true_or, or_false, false_or, ne_eq, not_true_eq_false, not_false_eq_true, Nat.reduceLeDiff, Nat.reduceEqDiff, Nat.reduceLT, Nat.reduceAdd, Nat.reduceMul, Nat.reduceSub, Int.reduceLT, Int.reduceLE, Int.reduceEq, Int.reduceToNat, Int.reduceAdd, Int.reduceSub, Int.reduceMul, Int.reduceNeg, Int.cast_ofNat_Int, false_and, and_false]
    refine S_laysForced x w T6 hp hq ?_
    intro h' f' fh
    have k0 := k h' (f'.mono (fun a k q => fc_u q))
    have m' := fh.1.1.1
    have a2 := fh.1.1.2.1 2 (by decide)
    have G2 := GA_e w
    have G6 := G_6 w
    have p64 := set64 w.1 hp
    have vin := lwS_in σ T p q 0 (stt (stA (sA σ)))
    obtain ⟨c1, c2⟩ := far_c vin
    have l0 := Lst_0 (sA σ) (stA (sA σ)) (p ||| q)
    simp only [psh_some, rX12_best_29, rX12_best_31, rX12_best_32]
    by_cases hv : 0 < lwS σ T p q 0 (stt (stA (sA σ)))
    · rw [if_pos hv] at k0
      obtain ⟨e1, e2, e3⟩ := c1 hv
      rw [e3] at e2 ⊢
      have main : ∀ n g, g + n = GA σ → Q (some (.inl (ffR (beB σ T p q (lwS σ T p q 0 (stt (stA (sA σ))))) n g))) h' → WP (d + 5) mX12_best 34 [some (.inr (.inr 294)), some (.inl (T : Int)), some (.inl (p : Int)), some (.inl (q : Int)), some (.inl 0), some (.inl (lwS σ T p q 0 (stt (stA (sA σ))))), some (.inl (g : Int))] [] h' Q := by
        intro n
        induction n with
        | zero =>
          intro g hg kq
          have eg : g = GA σ := hg
          subst eg
          rw [rX12_best_34]
          simp only [rX12_best_36, rX12_best_37, rX12_best_40, rX12_best_41, rX12_best_42, rX12_best_104, rX12_best_105, Md_K280 m', Md_R281 m', Md_K281 m', Md_R282 m', Md_K282 m', Md_R283 m', Md_K283 m', Md_R284 m', Md_K284 m', Md_R285 m', Md_K285 m', Md_R286 m', Md_K286 m', Md_R287 m', Md_K287 m', Md_R288 m', Md_K288 m', Md_R289 m', Md_K289 m', Md_R290 m', Md_K290 m', Md_R291 m', Md_K291 m', Md_R292 m', Md_K292 m', Md_R293 m', Md_K293 m', Md_R294 m', Md_K294 m', Md_R295 m', Md_K295 m', Md_R296 m', Md_K296 m', Md_R297 m', Md_K297 m', Md_R298 m', Md_K298 m', Md_R299 m', Md_K299 m', a2, G2, Int.lt_irrefl, Int.toNat_natCast, Int.natCast_nonneg, true_and, and_true, and_self, if_true, if_false, or_true, true_or, or_false, false_or, ne_eq, not_true_eq_false, not_false_eq_true, Nat.reduceLeDiff, Nat.reduceEqDiff, Nat.reduceLT, Nat.reduceAdd, Nat.reduceMul, Nat.reduceSub, Int.reduceLT, Int.reduceLE, Int.reduceEq, Int.reduceToNat, Int.reduceAdd, Int.reduceSub, Int.reduceMul, Int.reduceNeg, Int.cast_ofNat_Int, false_and, and_false]
          exact kq
        | succ n ih =>
          intro g hg kq
          obtain ⟨gG, hn⟩ := gm_n hg
          obtain ⟨gG', g6, g1⟩ := g_6 gG G6
          obtain ⟨i1, i2, i3, i4, _⟩ := ix6 g6 (stt_lt w.2.1)
          unfold ffR at kq
          rw [rX12_best_34]
          simp only [rX12_best_36, rX12_best_37, rX12_best_40, rX12_best_41, rX12_best_42, rX12_best_45, rX12_best_47, rX12_best_50, rX12_best_52, rX12_best_55, rX12_best_58, rX12_best_59, rX12_best_60, rX12_best_62, rX12_best_65, Md_K280 m', Md_R281 m', Md_K281 m', Md_R282 m', Md_K282 m', Md_R283 m', Md_K283 m', Md_R284 m', Md_K284 m', Md_R285 m', Md_K285 m', Md_R286 m', Md_K286 m', Md_R287 m', Md_K287 m', Md_R288 m', Md_K288 m', Md_R289 m', Md_K289 m', Md_R290 m', Md_K290 m', Md_R291 m', Md_K291 m', Md_R292 m', Md_K292 m', Md_R293 m', Md_K293 m', Md_R294 m', Md_K294 m', Md_R295 m', Md_K295 m', Md_R296 m', Md_K296 m', Md_R297 m', Md_K297 m', Md_R298 m', Md_K298 m', Md_R299 m', Md_K299 m', a2, G2, gG', hv, e2, S_isIn p64 g6, psh_some, Int.toNat_natCast, Int.natCast_nonneg, true_and, and_true, and_self, if_true, if_false, or_true, true_or, or_false, false_or, ne_eq, not_true_eq_false, not_false_eq_true, Nat.reduceLeDiff, Nat.reduceEqDiff, Nat.reduceLT, Nat.reduceAdd, Nat.reduceMul, Nat.reduceSub, Int.reduceLT, Int.reduceLE, Int.reduceEq, Int.reduceToNat, Int.reduceAdd, Int.reduceSub, Int.reduceMul, Int.reduceNeg, Int.cast_ofNat_Int, false_and, and_false]
          by_cases hb : p.testBit g = true
          · simp only [if_pos hb]
            rw [if_neg (by decide)]
            have tm := fh.1.1.2.2.2.2.2.1 0 g l0.2 (g_A hp hb) (or_l hb)
            rw [l0.1] at tm
            have nl := lt64 (fh.1.1.2.2.2.1.2.1 _ tm.2)
            have fv : hI h' 306 (fA σ g (stt (stA (sA σ)))) = farV (lwS σ T p q 1 (fA σ g (stt (stA (sA σ))))) := (fh.2 _ tm.2).2
            have fe := far_1 (lwS_in σ T p q 1 (fA σ g (stt (stA (sA σ))))) hv e2
            simp only [rX12_best_68, rX12_best_69, rX12_best_72, rX12_best_73, rX12_best_76, rX12_best_78, rX12_best_79, Md_K280 m', Md_R281 m', Md_K281 m', Md_R282 m', Md_K282 m', Md_R283 m', Md_K283 m', Md_R284 m', Md_K284 m', Md_R285 m', Md_K285 m', Md_R286 m', Md_K286 m', Md_R287 m', Md_K287 m', Md_R288 m', Md_K288 m', Md_R289 m', Md_K289 m', Md_R290 m', Md_K290 m', Md_R291 m', Md_K291 m', Md_R292 m', Md_K292 m', Md_R293 m', Md_K293 m', Md_R294 m', Md_K294 m', Md_R295 m', Md_K295 m', Md_R296 m', Md_K296 m', Md_R297 m', Md_K297 m', Md_R298 m', Md_K298 m', Md_R299 m', Md_K299 m', S_standNow ⟨m', fh.1.1.2.1, w.1⟩ w.2.1, psh_some, i1, i2, i3, tm.1, nl, fv, Int.toNat_natCast, Int.natCast_nonneg, true_and, and_true, and_self, if_true, if_false, or_true, true_or, or_false, false_or, ne_eq, not_true_eq_false, not_false_eq_true, Nat.reduceLeDiff, Nat.reduceEqDiff, Nat.reduceLT, Nat.reduceAdd, Nat.reduceMul, Nat.reduceSub, Int.reduceLT, Int.reduceLE, Int.reduceEq, Int.reduceToNat, Int.reduceAdd, Int.reduceSub, Int.reduceMul, Int.reduceNeg, Int.cast_ofNat_Int, false_and, and_false]
            simp only [rX12_best_82, rX12_best_83, rX12_best_85, rX12_best_86, rX12_best_87, rX12_best_88, rX12_best_90, rX12_best_91, rX12_best_92, Md_K280 m', Md_R281 m', Md_K281 m', Md_R282 m', Md_K282 m', Md_R283 m', Md_K283 m', Md_R284 m', Md_K284 m', Md_R285 m', Md_K285 m', Md_R286 m', Md_K286 m', Md_R287 m', Md_K287 m', Md_R288 m', Md_K288 m', Md_R289 m', Md_K289 m', Md_R290 m', Md_K290 m', Md_R291 m', Md_K291 m', Md_R292 m', Md_K292 m', Md_R293 m', Md_K293 m', Md_R294 m', Md_K294 m', Md_R295 m', Md_K295 m', Md_R296 m', Md_K296 m', Md_R297 m', Md_K297 m', Md_R298 m', Md_K298 m', Md_R299 m', Md_K299 m', i1, i2, i3, tm.1, nl, fv, fe, Int.toNat_natCast, Int.natCast_nonneg, true_and, and_true, and_self, if_true, if_false, or_true, true_or, or_false, false_or, ne_eq, not_true_eq_false, not_false_eq_true, Nat.reduceLeDiff, Nat.reduceEqDiff, Nat.reduceLT, Nat.reduceAdd, Nat.reduceMul, Nat.reduceSub, Int.reduceLT, Int.reduceLE, Int.reduceEq, Int.reduceToNat, Int.reduceAdd, Int.reduceSub, Int.reduceMul, Int.reduceNeg, Int.cast_ofNat_Int, false_and, and_false]
            by_cases hc : lwS σ T p q 1 (fA σ g (stt (stA (sA σ)))) = lwS σ T p q 0 (stt (stA (sA σ))) - 1
            · rw [if_pos hc]
              have hbe : beB σ T p q (lwS σ T p q 0 (stt (stA (sA σ)))) g = true := by unfold beB; rw [hb, decide_eq_true hc]; rfl
              rw [if_pos hbe] at kq
              simp only [rX12_best_95, rX12_best_97]
              exact kq
            · rw [if_neg hc]
              have hbe : ¬ beB σ T p q (lwS σ T p q 0 (stt (stA (sA σ)))) g = true := by unfold beB; rw [hb, decide_eq_false hc]; decide
              rw [if_neg hbe] at kq
              simp only [rX12_best_98, rX12_best_101, g1]
              exact ih (g + 1) hn kq
          · simp only [if_neg hb]
            rw [if_pos (by trivial)]
            have hbe : ¬ beB σ T p q (lwS σ T p q 0 (stt (stA (sA σ)))) g = true := by unfold beB; rw [Bool.eq_false_iff.2 hb, Bool.false_and]; decide
            rw [if_neg hbe] at kq
            simp only [rX12_best_98, rX12_best_101, g1]
            exact ih (g + 1) hn kq
      exact main (GA σ) 0 (Nat.zero_add _) k0
    · rw [if_neg hv] at k0
      have c3 : ¬ 0 < farV (lwS σ T p q 0 (stt (stA (sA σ)))) ∨ ¬ farV (lwS σ T p q 0 (stt (stA (sA σ)))) < 268435456 := c2 hv
      rw [rX12_best_34]
      simp only [rX12_best_36, rX12_best_37, rX12_best_40, rX12_best_41, rX12_best_42, Md_K280 m', Md_R281 m', Md_K281 m', Md_R282 m', Md_K282 m', Md_R283 m', Md_K283 m', Md_R284 m', Md_K284 m', Md_R285 m', Md_K285 m', Md_R286 m', Md_K286 m', Md_R287 m', Md_K287 m', Md_R288 m', Md_K288 m', Md_R289 m', Md_K289 m', Md_R290 m', Md_K290 m', Md_R291 m', Md_K291 m', Md_R292 m', Md_K292 m', Md_R293 m', Md_K293 m', Md_R294 m', Md_K294 m', Md_R295 m', Md_K295 m', Md_R296 m', Md_K296 m', Md_R297 m', Md_K297 m', Md_R298 m', Md_K298 m', Md_R299 m', Md_K299 m', a2, G2, Int.toNat_natCast, Int.natCast_nonneg, true_and, and_true, and_self, if_true, if_false, or_true, true_or, or_false, false_or, ne_eq, not_true_eq_false, not_false_eq_true, Nat.reduceLeDiff, Nat.reduceEqDiff, Nat.reduceLT, Nat.reduceAdd, Nat.reduceMul, Nat.reduceSub, Int.reduceLT, Int.reduceLE, Int.reduceEq, Int.reduceToNat, Int.reduceAdd, Int.reduceSub, Int.reduceMul, Int.reduceNeg, Int.cast_ofNat_Int, false_and, and_false]
      by_cases hg : (0 : Int) < (GA σ : Int)
      · rw [if_pos hg]
        simp only [rX12_best_45, rX12_best_47]
        by_cases h5 : 0 < farV (lwS σ T p q 0 (stt (stA (sA σ))))
        · rw [if_pos h5]
          simp only [rX12_best_50, rX12_best_52, rX12_best_55]
          rw [if_neg (c3.resolve_left (fun z => z h5))]
          simp only [rX12_best_104, rX12_best_105]
          exact k0
        · rw [if_neg h5]
          simp only [rX12_best_104, rX12_best_105]
          exact k0
      · rw [if_neg hg]
        simp only [rX12_best_104, rX12_best_105]
        exact k0
  · rw [if_neg h0] at k ⊢
    simp only [rX12_best_19, rX12_best_21]
    exact k h (Fp.refl _ h)
noncomputable def pwB (σ : AS) (a b : Nat) : Nat → Bool := fun t => decide (lwS σ t a b 0 (stt (stA (sA σ))) ≠ -1)
noncomputable def pwV (σ : AS) (a b : Int) : Int := if (0 ≤ a ∧ a < ((2 ^ (sA σ 2).toNat : Nat) : Int)) ∧ 0 ≤ b ∧ b < ((2 ^ (sA σ 2).toNat : Nat) : Int) then (fitS (pwB σ a.toNat b.toNat) (sA σ 1).toNat : Int) else -3
theorem far_lt2 {v : Int} (h : v = -1 ∨ ∃ n : Nat, v = (n : Int) ∧ n < 268435456) : (farV v < 268435456) = (v ≠ -1) := by
  unfold farV
  rcases h with h | ⟨n, h, hn⟩
  · rw [if_pos h]; exact propext ⟨fun q => by omega, fun q => absurd h q⟩
  · rw [if_neg (by omega)]; exact propext ⟨fun q => by omega, fun q => by omega⟩
set_option maxHeartbeats 1000000 in
theorem R_power {d : Nat} {σ : AS} {a b : Int} : RSpec (d + 5) mX12_power [some (.inr (.inr 294)), some (.inl a), some (.inl b), none, none] σ (.inl (pwV σ a b)) σ := by
  refine RSpec5.of (RSpec5.u ?_) (fun h Q hk => by simp only [rX12_power_0, rX12_power_1, rX12_power_2, hk, Int.toNat_natCast, Int.natCast_nonneg, true_and, and_true, and_self, if_true, if_false, or_true, true_or, or_false, false_or, ne_eq, not_true_eq_false, not_false_eq_true, Nat.reduceLeDiff, Nat.reduceEqDiff, Nat.reduceLT, Nat.reduceAdd, Nat.reduceMul, Nat.reduceSub, Int.reduceLT, Int.reduceLE, Int.reduceEq, Int.reduceToNat, Int.reduceAdd, Int.reduceSub, Int.reduceMul, Int.reduceNeg, Int.cast_ofNat_Int, false_and, and_false])
  intro h Q x w k
  have m := x.1
  unfold pwV at k
  have bad : ¬ ((0 ≤ a ∧ a < ((2 ^ (sA σ 2).toNat : Nat) : Int)) ∧ 0 ≤ b ∧ b < ((2 ^ (sA σ 2).toNat : Nat) : Int)) → WP (d + 5) mX12_power 21 [some (.inr (.inr 294)), some (.inl a), some (.inl b), none, none] [] h Q := by
    intro hn
    rw [if_neg hn] at k
    simp only [rX12_power_21, rX12_power_23]
    exact k h (Fp.refl _ h)
  simp only [rX12_power_5, rX12_power_6, rX12_power_7, rX12_power_10, Md_K280 m, Md_R281 m, Md_K281 m, Md_R282 m, Md_K282 m, Md_R283 m, Md_K283 m, Md_R284 m, Md_K284 m, Md_R285 m, Md_K285 m, Md_R286 m, Md_K286 m, Md_R287 m, Md_K287 m, Md_R288 m, Md_K288 m, Md_R289 m, Md_K289 m, Md_R290 m, Md_K290 m, Md_R291 m, Md_K291 m, Md_R292 m, Md_K292 m, Md_R293 m, Md_K293 m, Md_R294 m, Md_K294 m, Md_R295 m, Md_K295 m, Md_R296 m, Md_K296 m, Md_R297 m, Md_K297 m, Md_R298 m, Md_K298 m, Md_R299 m, Md_K299 m, S_rSet (x.rp w), psh_some, Int.toNat_natCast, Int.natCast_nonneg, true_and, and_true, and_self, if_true, if_false, or_true, true_or, or_false, false_or, ne_eq, not_true_eq_false, not_false_eq_true, Nat.reduceLeDiff, Nat.reduceEqDiff, Nat.reduceLT, Nat.reduceAdd, Nat.reduceMul, Nat.reduceSub, Int.reduceLT, Int.reduceLE, Int.reduceEq, Int.reduceToNat, Int.reduceAdd, Int.reduceSub, Int.reduceMul, Int.reduceNeg, Int.cast_ofNat_Int, false_and, and_false]
  by_cases h1 : 0 ≤ a ∧ a < ((2 ^ (sA σ 2).toNat : Nat) : Int)
  · rw [if_pos h1, if_neg (by decide)]
    simp only [rX12_power_13, rX12_power_14, rX12_power_15, rX12_power_18, Md_K280 m, Md_R281 m, Md_K281 m, Md_R282 m, Md_K282 m, Md_R283 m, Md_K283 m, Md_R284 m, Md_K284 m, Md_R285 m, Md_K285 m, Md_R286 m, Md_K286 m, Md_R287 m, Md_K287 m, Md_R288 m, Md_K288 m, Md_R289 m, Md_K289 m, Md_R290 m, Md_K290 m, Md_R291 m, Md_K291 m, Md_R292 m, Md_K292 m, Md_R293 m, Md_K293 m, Md_R294 m, Md_K294 m, Md_R295 m, Md_K295 m, Md_R296 m, Md_K296 m, Md_R297 m, Md_K297 m, Md_R298 m, Md_K298 m, Md_R299 m, Md_K299 m, S_rSet (x.rp w), psh_some, Int.toNat_natCast, Int.natCast_nonneg, true_and, and_true, and_self, if_true, if_false, or_true, true_or, or_false, false_or, ne_eq, not_true_eq_false, not_false_eq_true, Nat.reduceLeDiff, Nat.reduceEqDiff, Nat.reduceLT, Nat.reduceAdd, Nat.reduceMul, Nat.reduceSub, Int.reduceLT, Int.reduceLE, Int.reduceEq, Int.reduceToNat, Int.reduceAdd, Int.reduceSub, Int.reduceMul, Int.reduceNeg, Int.cast_ofNat_Int, false_and, and_false]
    by_cases h2 : 0 ≤ b ∧ b < ((2 ^ (sA σ 2).toNat : Nat) : Int)
    · rw [if_pos h2, if_neg (by decide)]
      rw [if_pos ⟨h1, h2⟩] at k
      clear bad
      obtain ⟨p, rfl, hp⟩ := set_nat h1
      obtain ⟨q, rfl, hq⟩ := set_nat h2
      simp only [Int.toNat_natCast] at k
      simp only [rX12_power_24, rX12_power_25, rX12_power_26, rX12_power_27]
      have T6 := w.1.2.1
      have T0 := w.1.1
      have main : ∀ n t (e : Hp), t + n = (sA σ 1).toNat → Fp uP h e → WP (d + 5) mX12_power 29 [some (.inr (.inr 294)), some (.inl (p : Int)), some (.inl (q : Int)), some (.inl (fitS (pwB σ p q) t : Int)), some (.inl (t : Int))] [] e Q := by
        intro n
        induction n with
        | zero =>
          intro t e ht fe
          obtain ⟨et, et'⟩ := tz_n ht T0
          have xe := x.u fe
          have me := xe.1
          rw [rX12_power_29]
          simp only [rX12_power_31, rX12_power_32, rX12_power_35, rX12_power_36, rX12_power_37, rX12_power_71, rX12_power_72, Md_K280 me, Md_R281 me, Md_K281 me, Md_R282 me, Md_K282 me, Md_R283 me, Md_K283 me, Md_R284 me, Md_K284 me, Md_R285 me, Md_K285 me, Md_R286 me, Md_K286 me, Md_R287 me, Md_K287 me, Md_R288 me, Md_K288 me, Md_R289 me, Md_K289 me, Md_R290 me, Md_K290 me, Md_R291 me, Md_K291 me, Md_R292 me, Md_K292 me, Md_R293 me, Md_K293 me, Md_R294 me, Md_K294 me, Md_R295 me, Md_K295 me, Md_R296 me, Md_K296 me, Md_R297 me, Md_K297 me, Md_R298 me, Md_K298 me, Md_R299 me, Md_K299 me, xe.2.1 1 (by decide), et, Int.lt_irrefl, Int.toNat_natCast, Int.natCast_nonneg, true_and, and_true, and_self, if_true, if_false, or_true, true_or, or_false, false_or, ne_eq, not_true_eq_false, not_false_eq_true, Nat.reduceLeDiff, Nat.reduceEqDiff, Nat.reduceLT, Nat.reduceAdd, Nat.reduceMul, Nat.reduceSub, Int.reduceLT, Int.reduceLE, Int.reduceEq, Int.reduceToNat, Int.reduceAdd, Int.reduceSub, Int.reduceMul, Int.reduceNeg, Int.cast_ofNat_Int, false_and, and_false]
          rw [et']
          exact k e fe
        | succ n ih =>
          intro t e ht fe
          obtain ⟨tT, hn⟩ := ts_n ht
          have t6 := t_6 tT T6
          obtain ⟨ta31, t1⟩ := t31 t6
          have xe := x.u fe
          have me := xe.1
          rw [rX12_power_29]
          simp only [rX12_power_31, rX12_power_32, rX12_power_35, rX12_power_36, rX12_power_37, rX12_power_40, rX12_power_41, rX12_power_42, rX12_power_44, rX12_power_45, rX12_power_46, Md_K280 me, Md_R281 me, Md_K281 me, Md_R282 me, Md_K282 me, Md_R283 me, Md_K283 me, Md_R284 me, Md_K284 me, Md_R285 me, Md_K285 me, Md_R286 me, Md_K286 me, Md_R287 me, Md_K287 me, Md_R288 me, Md_K288 me, Md_R289 me, Md_K289 me, Md_R290 me, Md_K290 me, Md_R291 me, Md_K291 me, Md_R292 me, Md_K292 me, Md_R293 me, Md_K293 me, Md_R294 me, Md_K294 me, Md_R295 me, Md_K295 me, Md_R296 me, Md_K296 me, Md_R297 me, Md_K297 me, Md_R298 me, Md_K298 me, Md_R299 me, Md_K299 me, xe.2.1 1 (by decide), tT, Int.toNat_natCast, Int.natCast_nonneg, true_and, and_true, and_self, if_true, if_false, or_true, true_or, or_false, false_or, ne_eq, not_true_eq_false, not_false_eq_true, Nat.reduceLeDiff, Nat.reduceEqDiff, Nat.reduceLT, Nat.reduceAdd, Nat.reduceMul, Nat.reduceSub, Int.reduceLT, Int.reduceLE, Int.reduceEq, Int.reduceToNat, Int.reduceAdd, Int.reduceSub, Int.reduceMul, Int.reduceNeg, Int.cast_ofNat_Int, false_and, and_false]
          refine S_laysForced xe w t6 hp hq ?_
          intro e2 f2 fh
          have fe2 := fe.trans (f2.mono (fun a k q => fc_u q))
          have fl := t_20 (fitS_lt (pwB σ p q) t (Nat.le_trans (Nat.le_of_lt t6) (by decide)))
          have go := ih (t + 1) e2 hn fe2
          simp only [psh_some, rX12_power_49, rX12_power_52, far_lt2 (lwS_in σ t p q 0 (stt (stA (sA σ))))]
          by_cases hv : lwS σ t p q 0 (stt (stA (sA σ))) ≠ -1
          · have hs : fitS (pwB σ p q) (t + 1) = fitS (pwB σ p q) t ||| 2 ^ t := if_pos (decide_eq_true hv)
            rw [hs] at go
            rw [if_pos hv]
            simp only [rX12_power_55, rX12_power_56, rX12_power_58, rX12_power_59, rX12_power_63, rX12_power_64, rX12_power_65, rX12_power_68, orb_n fl ta31, t1]
            exact go
          · have hs : fitS (pwB σ p q) (t + 1) = fitS (pwB σ p q) t := if_neg (by unfold pwB; rw [decide_eq_false hv]; decide)
            rw [hs] at go
            rw [if_neg hv]
            simp only [rX12_power_62, rX12_power_63, rX12_power_64, rX12_power_65, rX12_power_68, ior_0 fl, t1]
            exact go
      exact main (sA σ 1).toNat 0 h (Nat.zero_add _) (Fp.refl _ h)
    · rw [if_neg h2, if_pos (by trivial)]
      exact bad (fun c => h2 c.2)
  · rw [if_neg h1, if_pos (by trivial)]
    exact bad (fun c => h1 c.1)
