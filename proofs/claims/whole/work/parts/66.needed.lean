theorem all64 {A : Nat → Int} (po : poolOk A) : 2 ^ (A 2).toNat - 1 < 64 := set64 po all_lt
theorem RpF.u {h h' : Hp} {A : Nat → Int} (f : Fp uP h h') (x : RpF h A) : RpF h' A := ⟨x.1.fr f, x.2.1.fr f (fun k => by unfold uP; omega), x.2.2⟩
theorem or0 {a : Nat} (h : a < 2147483648) : ior (a : Int) 0 = (a : Int) := by
  have := ior_n (a := a) (b := 0) h (by decide)
  rw [Nat.or_zero] at this
  exact this
set_option maxHeartbeats 1000000 in
theorem rnd_loop {d : Nat} {Q : Option PV → Hp → Prop} {h0 : Hp} {A : Nat → Int} (x0 : RpF h0 A) (so : stOk (stA A)) {n : Nat} (n6 : n < 6) (k : ∀ h', Fp uP h0 h' → Q (some (.inl (ndS A (stA A) n (A 2).toNat (A 2).toNat : Int))) h') :
    ∀ q i h', i + q = (A 2).toNat → Fp uP h0 h' → WP (d + 5) mX12_needed 35 [some (.inr (.inr 294)), some (.inl (n : Int)), some (.inl (ndS A (stA A) n (A 2).toNat i : Int)), some (.inl (i : Int))] [] h' Q := by
  have po := x0.2.2
  have G0 := po.2.2.1
  have G6 := po.2.2.2.1
  have gN : (A 2).toNat ≤ 6 := by omega
  intro q
  induction q with
  | zero =>
    intro i h' hi f
    have e : (i : Int) = A 2 := by omega
    have e' : i = (A 2).toNat := by omega
    have x := x0.u f
    have m := x.1
    rw [rX12_needed_35]
    simp only [rX12_needed_36, rX12_needed_37, rX12_needed_40, rX12_needed_41, rX12_needed_42, rX12_needed_79, rX12_needed_80, Md_K280 m, Md_R281 m, Md_K281 m, Md_R282 m, Md_K282 m, Md_R283 m, Md_K283 m, Md_R284 m, Md_K284 m, Md_R285 m, Md_K285 m, Md_R286 m, Md_K286 m, Md_R287 m, Md_K287 m, Md_R288 m, Md_K288 m, Md_R289 m, Md_K289 m, Md_R290 m, Md_K290 m, Md_R291 m, Md_K291 m, Md_R292 m, Md_K292 m, Md_R293 m, Md_K293 m, Md_R294 m, Md_K294 m, Md_R295 m, Md_K295 m, Md_R296 m, Md_K296 m, Md_R297 m, Md_K297 m, Md_R298 m, Md_K298 m, Md_R299 m, Md_K299 m, x.2.1 2 (by omega), e, Int.lt_irrefl, Int.toNat_natCast, Int.natCast_nonneg, true_and, and_true, and_self, if_true, if_false, or_true, true_or, or_false, false_or, ne_eq, not_true_eq_false, not_false_eq_true, Nat.reduceLeDiff, Nat.reduceEqDiff, Nat.reduceLT, Nat.reduceAdd, Nat.reduceMul, Nat.reduceSub, Int.reduceLT, Int.reduceLE, Int.reduceEq, Int.reduceToNat, Int.reduceAdd, Int.reduceSub, Int.reduceMul, Int.reduceNeg, Int.cast_ofNat_Int, false_and, and_false]
    rw [e']
    exact k h' f
  | succ q ih =>
    intro i h' hi f
    have l1 : (i : Int) < A 2 := by omega
    have i6 : i < 6 := by omega
    have i31 : i < 31 := by omega
    have l2 : w32 ((i : Int) + 1) = ((i + 1 : Nat) : Int) := w32_s (by omega)
    have hi' : i + 1 + q = (A 2).toNat := by omega
    have nl := ndS_lt A (stA A) n (A 2).toNat i (by omega)
    have n31 := Nat.lt_trans nl (show 64 < 2147483648 by decide)
    have ob := orb_n (a := ndS A (stA A) n (A 2).toNat i) (i := i) n31 i31
    have oz := or0 n31
    have wo := wo_n gN i6
    have wl := set64 po (wo_lt (A 2).toNat i)
    have x := x0.u f
    have m := x.1
    have a2 := x.2.1 2 (by omega)
    rw [rX12_needed_35]
    simp only [rX12_needed_36, rX12_needed_37, rX12_needed_40, rX12_needed_41, rX12_needed_42, rX12_needed_45, rX12_needed_46, rX12_needed_47, rX12_needed_48, rX12_needed_49, rX12_needed_52, rX12_needed_53, rX12_needed_54, rX12_needed_55, rX12_needed_56, rX12_needed_57, rX12_needed_58, Md_K280 m, Md_R281 m, Md_K281 m, Md_R282 m, Md_K282 m, Md_R283 m, Md_K283 m, Md_R284 m, Md_K284 m, Md_R285 m, Md_K285 m, Md_R286 m, Md_K286 m, Md_R287 m, Md_K287 m, Md_R288 m, Md_K288 m, Md_R289 m, Md_K289 m, Md_R290 m, Md_K290 m, Md_R291 m, Md_K291 m, Md_R292 m, Md_K292 m, Md_R293 m, Md_K293 m, Md_R294 m, Md_K294 m, Md_R295 m, Md_K295 m, Md_R296 m, Md_K296 m, Md_R297 m, Md_K297 m, Md_R298 m, Md_K298 m, Md_R299 m, Md_K299 m, a2, l1, S_rAll x, psh_some, wo, Int.toNat_natCast, Int.natCast_nonneg, true_and, and_true, and_self, if_true, if_false, or_true, true_or, or_false, false_or, ne_eq, not_true_eq_false, not_false_eq_true, Nat.reduceLeDiff, Nat.reduceEqDiff, Nat.reduceLT, Nat.reduceAdd, Nat.reduceMul, Nat.reduceSub, Int.reduceLT, Int.reduceLE, Int.reduceEq, Int.reduceToNat, Int.reduceAdd, Int.reduceSub, Int.reduceMul, Int.reduceNeg, Int.cast_ofNat_Int, false_and, and_false]
    refine S_canCome x so wl n6 ?_
    intro h2 f2
    have go := ih (i + 1) h2 hi' (f.trans (f2.mono (fun a k q => rsP_u q)))
    unfold ndS at go
    simp only [psh_some, rX12_needed_61]
    by_cases hd : ccB A (stA A) (without (2 ^ (A 2).toNat - 1) (2 ^ i)) n = true
    · have hd' : (thU (Lst A (stA A) (without (2 ^ (A 2).toNat - 1) (2 ^ i)))).testBit n = true := hd
      rw [if_pos hd] at go
      rw [if_pos hd', if_neg (by decide)]
      simp only [rX12_needed_64, rX12_needed_65, rX12_needed_71, rX12_needed_72, rX12_needed_73, rX12_needed_76, oz, l2]
      exact go
    · have hd' : ¬ (thU (Lst A (stA A) (without (2 ^ (A 2).toNat - 1) (2 ^ i)))).testBit n = true := hd
      rw [if_neg hd] at go
      rw [if_neg hd', if_pos (by trivial)]
      simp only [rX12_needed_68, rX12_needed_69, rX12_needed_70, rX12_needed_71, rX12_needed_72, rX12_needed_73, rX12_needed_76, ob, l2]
      exact go
theorem R_needed {d : Nat} {σ : AS} {t : Int} : RSpec (d + 5) mX12_needed [some (.inr (.inr 294)), some (.inl t), none, none] σ (.inl (ndV σ t)) σ := by
  refine RSpec5.of (RSpec5.u ?_) (fun h Q hk => by simp only [rX12_needed_0, rX12_needed_1, rX12_needed_2, hk, Int.toNat_natCast, Int.natCast_nonneg, true_and, and_true, and_self, if_true, if_false, or_true, true_or, or_false, false_or, ne_eq, not_true_eq_false, not_false_eq_true, Nat.reduceLeDiff, Nat.reduceEqDiff, Nat.reduceLT, Nat.reduceAdd, Nat.reduceMul, Nat.reduceSub, Int.reduceLT, Int.reduceLE, Int.reduceEq, Int.reduceToNat, Int.reduceAdd, Int.reduceSub, Int.reduceMul, Int.reduceNeg, Int.cast_ofNat_Int, false_and, and_false])
  intro h Q x w k
  have m := x.1
  unfold ndV at k
  simp only [rX12_needed_5, rX12_needed_6, rX12_needed_7, rX12_needed_8, rX12_needed_11, rX12_needed_14, rX12_needed_16, Md_K280 m, Md_R281 m, Md_K281 m, Md_R282 m, Md_K282 m, Md_R283 m, Md_K283 m, Md_R284 m, Md_K284 m, Md_R285 m, Md_K285 m, Md_R286 m, Md_K286 m, Md_R287 m, Md_K287 m, Md_R288 m, Md_K288 m, Md_R289 m, Md_K289 m, Md_R290 m, Md_K290 m, Md_R291 m, Md_K291 m, Md_R292 m, Md_K292 m, Md_R293 m, Md_K293 m, Md_R294 m, Md_K294 m, Md_R295 m, Md_K295 m, Md_R296 m, Md_K296 m, Md_R297 m, Md_K297 m, Md_R298 m, Md_K298 m, Md_R299 m, Md_K299 m, Int.toNat_natCast, Int.natCast_nonneg, true_and, and_true, and_self, if_true, if_false, or_true, true_or, or_false, false_or, ne_eq, not_true_eq_false, not_false_eq_true, Nat.reduceLeDiff, Nat.reduceEqDiff, Nat.reduceLT, Nat.reduceAdd, Nat.reduceMul, Nat.reduceSub, Int.reduceLT, Int.reduceLE, Int.reduceEq, Int.reduceToNat, Int.reduceAdd, Int.reduceSub, Int.reduceMul, Int.reduceNeg, Int.cast_ofNat_Int, false_and, and_false, S_rThing (x.rp w), psh_some]
  by_cases h1 : 0 ≤ t ∧ t < sA σ 1
  · simp only [if_pos h1] at k
    rw [if_pos h1, if_neg (by decide)]
    obtain ⟨n, rfl⟩ := Int.eq_ofNat_of_zero_le h1.1
    have n6 : n < 6 := by have := w.1.2.1; omega
    simp only [Int.toNat_natCast] at k
    simp only [rX12_needed_17, rX12_needed_18, rX12_needed_19, rX12_needed_20, rX12_needed_21, rX12_needed_22, rX12_needed_25, Md_K280 m, Md_R281 m, Md_K281 m, Md_R282 m, Md_K282 m, Md_R283 m, Md_K283 m, Md_R284 m, Md_K284 m, Md_R285 m, Md_K285 m, Md_R286 m, Md_K286 m, Md_R287 m, Md_K287 m, Md_R288 m, Md_K288 m, Md_R289 m, Md_K289 m, Md_R290 m, Md_K290 m, Md_R291 m, Md_K291 m, Md_R292 m, Md_K292 m, Md_R293 m, Md_K293 m, Md_R294 m, Md_K294 m, Md_R295 m, Md_K295 m, Md_R296 m, Md_K296 m, Md_R297 m, Md_K297 m, Md_R298 m, Md_K298 m, Md_R299 m, Md_K299 m, S_rAll (x.rp w), psh_some, Int.toNat_natCast, Int.natCast_nonneg, true_and, and_true, and_self, if_true, if_false, or_true, true_or, or_false, false_or, ne_eq, not_true_eq_false, not_false_eq_true, Nat.reduceLeDiff, Nat.reduceEqDiff, Nat.reduceLT, Nat.reduceAdd, Nat.reduceMul, Nat.reduceSub, Int.reduceLT, Int.reduceLE, Int.reduceEq, Int.reduceToNat, Int.reduceAdd, Int.reduceSub, Int.reduceMul, Int.reduceNeg, Int.cast_ofNat_Int, false_and, and_false]
    refine S_canCome (d := d) (x.rp w) w.2.1 (all64 w.1) n6 ?_
    intro h2 f2
    have fu := f2.mono (fun a k q => rsP_u q)
    simp only [psh_some, rX12_needed_28]
    by_cases hc : ccB (sA σ) (stA (sA σ)) (2 ^ (sA σ 2).toNat - 1) n = true
    · have hc' : (thU (Lst (sA σ) (stA (sA σ)) (2 ^ (sA σ 2).toNat - 1))).testBit n = true := hc
      rw [if_pos hc] at k
      rw [if_pos hc', if_neg (by decide)]
      simp only [rX12_needed_33, rX12_needed_34]
      exact rnd_loop (x.rp w) w.2.1 n6 k _ 0 h2 (Nat.zero_add _) fu
    · have hc' : ¬ (thU (Lst (sA σ) (stA (sA σ)) (2 ^ (sA σ 2).toNat - 1))).testBit n = true := hc
      rw [if_neg hc] at k
      rw [if_neg hc', if_pos (by trivial)]
      simp only [rX12_needed_31, rX12_needed_32]
      exact k h2 fu
  · simp only [if_neg h1] at k
    rw [if_neg h1, if_pos (by trivial)]
    exact k h (Fp.refl _ h)
/-! the tree of all that can be, without a heap; more goers, more stands -/
theorem visG_tree {f : Nat → Nat → Nat} {set G k s : Nat} : ∀ (n g : Nat) (L L0 : List Nat) (ah by' dv : Nat → Nat), g + n = G → k < L0.length → s = L0.getD k 0 → L = visG f set s g L0 → Tree f set G L ah by' dv k g → ∃ ah2 by2 dv2, Tree f set G (visG f set s G L0) ah2 by2 dv2 k G := by
  intro n
  induction n with
  | zero =>
    intro g L L0 ah by' dv hg hk hs hL t
    have : g = G := by omega
    subst this
    exact ⟨ah, by', dv, by rw [← hL]; exact t⟩
  | succ n ih =>
    intro g L L0 ah by' dv hg hk hs hL t
    obtain ⟨vl, vg⟩ := visG_len f set s g L0
    rw [← hL] at vl vg
    have ek : L.getD k 0 = s := by rw [vg k hk, hs]
    by_cases hb : set.testBit g = true
    · have hL' : visG f set s (g + 1) L0 = vis L (f g (L.getD k 0)) := by
        show (if set.testBit g = true then vis (visG f set s g L0) (f g s) else _) = _
        rw [if_pos hb, ← hL, ek]
      by_cases hin : f g (L.getD k 0) ∈ L
      · rw [vis_in hin] at hL'
        exact ih (g + 1) L L0 ah by' dv (by omega) hk hs hL'.symm (t.old hin)
      · rw [vis_out hin] at hL'
        exact ih (g + 1) _ L0 _ _ _ (by omega) hk hs hL'.symm (t.new (by omega) (by omega) hb)
    · have hL' : visG f set s (g + 1) L0 = L := by
        show (if set.testBit g = true then _ else visG f set s g L0) = L
        rw [if_neg hb, ← hL]
      exact ih (g + 1) L L0 ah by' dv (by omega) hk hs hL'.symm (t.skip (by simpa using hb))
theorem bfs_tree {f : Nat → Nat → Nat} {set G : Nat} (hf : ∀ g s, s < 6400 → f g s < 6400) : ∀ (n k : Nat) (L : List Nat) (ah by' dv : Nat → Nat), k + n = 6400 → k ≤ L.length → lsOk L → Tree f set G L ah by' dv k 0 → ∃ ah2 by2 dv2, Tree f set G (bfs f set G n k L) ah2 by2 dv2 (bfs f set G n k L).length 0 := by
  intro n
  induction n with
  | zero =>
    intro k L ah by' dv hk hkl o t
    have : k = L.length := by have := o.len; omega
    subst this
    exact ⟨ah, by', dv, t⟩
  | succ n ih =>
    intro k L ah by' dv hk hkl o t
    unfold bfs
    by_cases hkL : k < L.length
    · rw [if_pos hkL]
      obtain ⟨a2, b2, d2, t2⟩ := visG_tree (s := L.getD k 0) G 0 L L ah by' dv (Nat.zero_add _) hkL rfl rfl t
      have vl := (visG_len f set (L.getD k 0) G L).1
      exact ih (k + 1) _ a2 b2 d2 (by omega) (by omega) (o.vG (fun g => hf g _ (getD_lt o hkL)) G) t2.next
    · rw [if_neg hkL]
      have : k = L.length := by omega
      subst this
      exact ⟨ah, by', dv, t⟩
theorem Lst_tree {A F : Nat → Int} (po : poolOk A) (so : stOk F) (set : Nat) : ∃ ah by' dv, Tree (nxt A F) set (A 2).toNat (Lst A F set) ah by' dv (Lst A F set).length 0 :=
  bfs_tree (fun g s hs => nxt_lt po.2.2.2.2.1 hs) 6400 0 [stt F] (fun _ => 0) (fun _ => 0) (fun _ => 0) (by omega) (by simp) (ls_one (stt_lt so)) (Tree.one _ _ _ _ _ _ _ rfl)
theorem Lst_cl {A F : Nat → Int} (po : poolOk A) (so : stOk F) {set g s : Nat} (hg : g < (A 2).toNat) (hb : set.testBit g = true) (hs : s ∈ Lst A F set) : nxt A F g s ∈ Lst A F set := by
  obtain ⟨ah, by', dv, t⟩ := Lst_tree po so set
  obtain ⟨p, hp, e⟩ := mem_getD hs
  obtain ⟨q, hq, e2, _⟩ := t.2.2.2 p g hp hg hb (Or.inl hp)
  rw [← e, ← e2]
  exact getD_mem hq
theorem Lst_sub {A F : Nat → Int} (po : poolOk A) (so : stOk F) {s1 s2 : Nat} (h : ∀ g, g < (A 2).toNat → s1.testBit g = true → s2.testBit g = true) {s : Nat} (hs : s ∈ Lst A F s1) : s ∈ Lst A F s2 := by
  obtain ⟨ah, by', dv, t⟩ := Lst_tree po so s1
  have main : ∀ p, p < (Lst A F s1).length → (Lst A F s1).getD p 0 ∈ Lst A F s2 := by
    intro p
    induction p using Nat.strongRecOn with
    | _ p ih =>
      intro hp
      by_cases p0 : p = 0
      · rw [p0, (Lst_0 A F s1).1, ← (Lst_0 A F s2).1]
        exact getD_mem (Lst_0 A F s2).2
      · obtain ⟨a1, a2, a3, a4, a5, a6⟩ := t.2.1 p (by omega) hp
        rw [a4]
        exact Lst_cl po so a3 (h _ a3 a2) (ih (ah p) a1 (by omega))
  obtain ⟨p, hp, e⟩ := mem_getD hs
  rw [← e]
  exact main p hp
theorem cc_sub {A F : Nat → Int} (po : poolOk A) (so : stOk F) {s1 s2 t : Nat} (h : ∀ g, g < (A 2).toNat → s1.testBit g = true → s2.testBit g = true) (hc : ccB A F s1 t = true) : ccB A F s2 t = true := by
  unfold ccB at hc ⊢
  rw [thU_or] at hc ⊢
  obtain ⟨p, hp, e⟩ := (orL_bit _).1 hc
  obtain ⟨q, hq, e2⟩ := mem_getD (Lst_sub po so h (getD_mem hp))
  exact (orL_bit _).2 ⟨q, hq, by rw [e2]; exact e⟩
