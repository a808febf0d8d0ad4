theorem Tree.dv_le {f : Nat → Nat → Nat} {set G : Nat} {L : List Nat} {ah by' dv : Nat → Nat} {k g : Nat} (t : Tree f set G L ah by' dv k g) : ∀ p, p < L.length → dv p ≤ p := by
  intro p
  induction p using Nat.strongRecOn with
  | _ p ih =>
    intro hp
    by_cases p0 : p = 0
    · rw [p0, t.1]; omega
    · obtain ⟨a1, a2, a3, a4, a5, a6⟩ := t.2.1 p (by omega) hp
      have := ih (ah p) a1 (by omega)
      omega
def exP (se a k : Nat) : Prop := (211 ≤ a ∧ a ≤ 213) ∨ (a = se ∧ (k = 11 ∨ k = 12)) ∨ a = se + 4 ∨ (se + 6 ≤ a ∧ a ≤ se + 10)
/-- the search at work: at place k of the order, goer g -/
def SW (h : Hp) (se : Nat) (A F : Nat → Int) (set : Nat) (L : List Nat) (ah by' dv : Nat → Nat) (k g : Nat) : Prop := DvOk h ∧ SeAt h se ∧ Shp h se ∧ SrP h se A F ∧ SrA h se A F ∧ hI h se 11 = (set : Int) ∧ hI h se 12 = (L.length : Int) ∧ lsOk L ∧ (∀ p, p < L.length → hI h (se + 6) p = (L.getD p 0 : Int) ∧ hI h (se + 7) (L.getD p 0) = (p : Int)) ∧ (∀ p, p < L.length → hI h (se + 8) p = (ah p : Int) ∧ (0 < p → hI h (se + 9) p = (by' p : Int)) ∧ hI h (se + 10) p = (dv p : Int)) ∧ Tree (nxt A F) set (A 2).toNat L ah by' dv k g ∧ ∀ k' g' : Nat, k' < L.length → (g' : Int) < A 2 → set.testBit g' = true → (k' < k ∨ (k' = k ∧ g' < g)) → hI h (se + 4) (6400 * g' + L.getD k' 0) / 8192 = hI h (se + 5) g'
theorem aft_ex {se i a k : Nat} (q : aftP se i a k) : exP se a k := by unfold aftP at q; unfold exP; omega
theorem fi_ex {se n x a k : Nat} (q : fiP se n x a k) : exP se a k := by unfold fiP at q; unfold exP; omega
theorem ex_sr {se a k : Nat} (h3 : 314 ≤ se) (q : exP se a k) : srP se a k ∧ (a ≤ se ∨ se + 3 < a) := by unfold exP at q; unfold srP; omega
theorem aft_no {se i b k : Nat} (hb : 314 ≤ b) (h4 : b ≠ se + 4) : ¬ aftP se i b k := by unfold aftP; omega
theorem aft_no4 {se i j : Nat} (h3 : 314 ≤ se) (h : j ≠ i) : ¬ aftP se i (se + 4) j := by unfold aftP; omega
theorem fi_no4 {se n x k : Nat} : ¬ fiP se n x (se + 4) k := by unfold fiP; omega
theorem fi_no5 {se n x k : Nat} : ¬ fiP se n x (se + 5) k := by unfold fiP; omega
theorem fi_no {se n x j k : Nat} (h : k < n) (hj : j = 6 ∨ j = 8 ∨ j = 9 ∨ j = 10) : ¬ fiP se n x (se + j) k := by unfold fiP; omega
theorem fi_no7 {se n x k : Nat} (h : k ≠ x) : ¬ fiP se n x (se + 7) k := by unfold fiP; omega
theorem fi_no11 {se n x : Nat} : ¬ fiP se n x se 11 := by unfold fiP; omega
theorem SW.after {h h1 : Hp} {se : Nat} {A F : Nat → Int} {set : Nat} {L : List Nat} {ah by' dv : Nat → Nat} {k g : Nat} (x : SW h se A F set L ah by' dv k g) (hk : k < L.length) (f : Fp (aftP se (6400 * g + L.getD k 0)) h h1) (sa : SrA h1 se A F) (e : hI h1 (se + 4) (6400 * g + L.getD k 0) / 8192 = hI h1 (se + 5) g) : SW h1 se A F set L ah by' dv k g ∧ ∀ k' g' : Nat, k' < L.length → (g' : Int) < A 2 → set.testBit g' = true → (k' < k ∨ (k' = k ∧ g' < g + 1)) → hI h1 (se + 4) (6400 * g' + L.getD k' 0) / 8192 = hI h1 (se + 5) g' := by
  obtain ⟨x1, x2, x3, x4, x5, x6, x7, x8, x9, x10, x11, x12⟩ := x
  have h3 := x2.2.1
  have g3 : ∀ j k, j ≤ 11 → j ≠ 4 → hI h1 (se + j) k = hI h (se + j) k := fun j k hj h4 => f.I (aft_no (by omega) (by omega))
  have g0 : ∀ k, hI h1 se k = hI h se k := fun k => f.I (aft_no (by omega) (by omega))
  have nx : ∀ k' g' : Nat, k' < L.length → (g' : Int) < A 2 → set.testBit g' = true → (k' < k ∨ (k' = k ∧ g' < g + 1)) → hI h1 (se + 4) (6400 * g' + L.getD k' 0) / 8192 = hI h1 (se + 5) g' := by
    intro k' g' h1' h2 h4 h5
    by_cases he : 6400 * g' + L.getD k' 0 = 6400 * g + L.getD k 0
    · obtain ⟨eg, es⟩ := ix_inj (getD_lt x8 hk) (getD_lt x8 h1') he
      rw [he, eg]; exact e
    · have hne : ¬ (k' = k ∧ g' = g) := fun q => he (by rw [q.1, q.2])
      rw [f.I (aft_no4 h3 he), g3 5 _ (by omega) (by omega)]
      exact x12 k' g' h1' h2 h4 (by omega)
  refine ⟨⟨x1.fr f, x2.fr f, x3.fr f, x4.fr f x2 (fun a k q => ex_sr x2.2.1 (aft_ex q)), sa, by rw [g0]; exact x6, by rw [g0]; exact x7, x8, fun p hp => ?_, fun p hp => ?_, x11, fun k' g' h1' h2 h4 h5 => nx k' g' h1' h2 h4 (by omega)⟩, nx⟩
  · rw [g3 6 _ (by omega) (by omega), g3 7 _ (by omega) (by omega)]; exact x9 p hp
  · rw [g3 8 _ (by omega) (by omega), g3 9 _ (by omega) (by omega), g3 10 _ (by omega) (by omega)]; exact x10 p hp
theorem SW.new {h h1 : Hp} {se : Nat} {A F : Nat → Int} {set : Nat} {L : List Nat} {ah by' dv : Nat → Nat} {k g : Nat} (x : SW h se A F set L ah by' dv k g) (hk : k < L.length) (hg : (g : Int) < A 2) (hs : set.testBit g = true) (hx : ¬ nxt A F g (L.getD k 0) ∈ L) (nb : ∀ k' g' : Nat, k' < L.length → (g' : Int) < A 2 → set.testBit g' = true → (k' < k ∨ (k' = k ∧ g' < g + 1)) → hI h (se + 4) (6400 * g' + L.getD k' 0) / 8192 = hI h (se + 5) g')
    (f : Fp (fiP se L.length (nxt A F g (L.getD k 0))) h h1) (e6 : hI h1 (se + 6) L.length = (nxt A F g (L.getD k 0) : Int)) (e7 : hI h1 (se + 7) (nxt A F g (L.getD k 0)) = (L.length : Int)) (e8 : hI h1 (se + 8) L.length = (k : Int)) (e9 : hI h1 (se + 9) L.length = (g : Int)) (e10 : hI h1 (se + 10) L.length = ((dv k + 1 : Nat) : Int)) (e12 : hI h1 se 12 = ((L.length + 1 : Nat) : Int)) :
    SW h1 se A F set (L ++ [nxt A F g (L.getD k 0)]) (upN ah L.length k) (upN by' L.length g) (upN dv L.length (dv k + 1)) k (g + 1) := by
  obtain ⟨x1, x2, x3, x4, x5, x6, x7, x8, x9, x10, x11, x12⟩ := x
  have xlt : nxt A F g (L.getD k 0) < 6400 := nxt_lt x4.1.2.2.2.2.1 (getD_lt x8 hk)
  have ok := x8.vis xlt
  rw [vis_out hx] at ok
  have ll : (L ++ [nxt A F g (L.getD k 0)]).length = L.length + 1 := by rw [List.length_append]; rfl
  have ne : ∀ p, p < L.length → L.getD p 0 ≠ nxt A F g (L.getD k 0) := fun p hp q => hx (by rw [← q]; exact getD_mem hp)
  refine ⟨x1.fr f, x2.fr f, x3.fr f, x4.fr f x2 (fun a k q => ex_sr x2.2.1 (fi_ex q)), ⟨fun g' hg' => by rw [f.I fi_no5]; exact x5.1 g' hg', fun g' s' hg' hs' => by rw [f.I fi_no4, f.I fi_no5]; exact x5.2.1 g' s' hg' hs', fun s' hs' => ?_⟩, by rw [f.I fi_no11]; exact x6, by rw [e12, ll], ok, fun p hp => ?_, fun p hp => ?_, ?_, fun k' g' h1' h2 h4 h5 => ?_⟩
  · by_cases hq : s' = nxt A F g (L.getD k 0)
    · rw [hq, e7]; omega
    · rw [f.I (fi_no7 hq)]; exact x5.2.2 s' hs'
  · rw [ll] at hp
    by_cases hpl : p = L.length
    · rw [hpl, getD_end]; exact ⟨e6, e7⟩
    · have hp' : p < L.length := by omega
      rw [getD_app hp', f.I (fi_no hp' (by omega)), f.I (fi_no7 (ne p hp'))]; exact x9 p hp'
  · rw [ll] at hp
    by_cases hpl : p = L.length
    · rw [hpl, upN_eq, upN_eq, upN_eq]; exact ⟨e8, fun _ => e9, e10⟩
    · have hp' : p < L.length := by omega
      rw [upN_ne _ _ hpl, upN_ne _ _ hpl, upN_ne _ _ hpl, f.I (fi_no hp' (by omega)), f.I (fi_no hp' (by omega)), f.I (fi_no hp' (by omega))]; exact x10 p hp'
  · exact x11.new hk (by omega) hs
  · rw [ll] at h1'
    have hk' : k' < L.length := by omega
    rw [getD_app hk', f.I fi_no4, f.I fi_no5]
    exact nb k' g' hk' h2 h4 h5
theorem SW.pl {h : Hp} {se : Nat} {A F : Nat → Int} {set : Nat} {L : List Nat} {ah by' dv : Nat → Nat} {k g : Nat} (x : SW h se A F set L ah by' dv k g) : ∃ p, hR h se 10 = p ∧ hK h p = (5, 0) ∧ hI h p 11 = A 2 := ⟨_, rfl, x.2.2.2.1.2.2.1.1.1.2.1, x.2.2.2.1.2.2.1.1.2.1⟩
theorem SW.le {h : Hp} {se : Nat} {A F : Nat → Int} {set : Nat} {L : List Nat} {ah by' dv : Nat → Nat} {k g : Nat} (x : SW h se A F set L ah by' dv k g) (h0 : L.getD 0 0 = stt F) : L.length ≤ 1600 := x.2.2.2.2.2.2.2.2.2.2.1.le x.2.2.2.1.1 x.2.2.2.1.2.1 x.2.2.2.2.2.2.2.1 h0
theorem SW.lt {h : Hp} {se : Nat} {A F : Nat → Int} {set : Nat} {L : List Nat} {ah by' dv : Nat → Nat} {k g : Nat} (x : SW h se A F set L ah by' dv k g) (h0 : L.getD 0 0 = stt F) (hk : k < L.length) (hg : (g : Int) < A 2) (hs : set.testBit g = true) (hx : ¬ nxt A F g (L.getD k 0) ∈ L) : L.length < 1600 := by
  have xlt : nxt A F g (L.getD k 0) < 6400 := nxt_lt x.2.2.2.1.1.2.2.2.2.1 (getD_lt x.2.2.2.2.2.2.2.1 hk)
  have ok := x.2.2.2.2.2.2.2.1.vis xlt
  rw [vis_out hx] at ok
  have t := x.2.2.2.2.2.2.2.2.2.2.1.new hk (show g < (A 2).toNat by omega) hs
  have := t.le x.2.2.2.1.1 x.2.2.2.1.2.1 ok (by rw [getD_app (by omega)]; exact h0)
  rw [List.length_append, List.length_singleton] at this
  omega
set_option maxHeartbeats 1000000 in
theorem ex_inner {d : Nat} {Q : Option PV → Hp → Prop} {h0 : Hp} {se : Nat} {A F : Nat → Int} {set k : Nat} {L0 : List Nat} (po : poolOk A) (hset : set < 64) (hk0 : k < L0.length) (h00 : L0.getD 0 0 = stt F)
    (cont : ∀ h' L' ah by' dv x3, Fp (exP se) h0 h' → SW h' se A F set L' ah by' dv k (A 2).toNat → L' = visG (nxt A F) set (L0.getD k 0) (A 2).toNat L0 → WP (d + 5) mX7_explore 103 [some (.inr (.inr se)), some (.inl (set : Int)), some (.inl (k : Int)), x3] [] h' Q) :
    ∀ (n g : Nat) (h : Hp) (L : List Nat) (ah by' dv : Nat → Nat), g + n = (A 2).toNat → Fp (exP se) h0 h → SW h se A F set L ah by' dv k g → L = visG (nxt A F) set (L0.getD k 0) g L0 → WP (d + 5) mX7_explore 61 [some (.inr (.inr se)), some (.inl (set : Int)), some (.inl (k : Int)), some (.inl (g : Int))] [] h Q := by
  have g0 := po.2.2.1
  have g6 := po.2.2.2.1
  intro n
  induction n with
  | zero =>
    intro g h L ah by' dv hg f x hL
    have e : (g : Int) = A 2 := by omega
    have e' : g = (A 2).toNat := by omega
    obtain ⟨p, hp, kp, gp⟩ := x.pl
    have K0 := x.2.2.1.1
    rw [rX7_explore_61]
    simp only [rX7_explore_62, rX7_explore_63, rX7_explore_66, rX7_explore_69, K0, hp, kp, gp, e, Int.lt_irrefl, Int.toNat_natCast, Int.natCast_nonneg, true_and, and_true, and_self, if_true, if_false, or_true, true_or, or_false, false_or, ne_eq, not_true_eq_false, not_false_eq_true, Nat.reduceLeDiff, Nat.reduceEqDiff, Nat.reduceLT, Nat.reduceAdd, Nat.reduceMul, Nat.reduceSub, Int.reduceLT, Int.reduceLE, Int.reduceEq, Int.reduceToNat, Int.reduceAdd, Int.reduceSub, Int.reduceMul, Int.reduceNeg, Int.cast_ofNat_Int, false_and, and_false]
    rw [e'] at x hL
    exact cont h L ah by' dv _ f x hL
  | succ n ih =>
    intro g h L ah by' dv hg f x hL
    have l1 : (g : Int) < A 2 := by omega
    have g6' : g < 31 := by omega
    have l2 : w32 ((g : Int) + 1) = ((g + 1 : Nat) : Int) := w32_s (by omega)
    have hn' : g + 1 + n = (A 2).toNat := by omega
    have set31 : set < 2147483648 := by omega
    obtain ⟨vl, vg⟩ := visG_len (nxt A F) set (L0.getD k 0) g L0
    rw [← hL] at vl vg
    have hk : k < L.length := by omega
    have ek : L.getD k 0 = L0.getD k 0 := vg k hk0
    have hs := getD_lt x.2.2.2.2.2.2.2.1 hk
    have e0 : L.getD 0 0 = stt F := by rw [vg 0 (by omega)]; exact h00
    have k6 : (k : Int) < 1600 := by have := x.le e0; omega
    obtain ⟨p, hp, kp, gp⟩ := x.pl
    obtain ⟨K0, R0, R1, R2, R3, R4, R5, R6, R7, R8, R9, K1, r0, r1, K2, K3, K4, K5, K6, K7, K8, K9, K10, K11⟩ := id x.2.2.1
    have hord := (x.2.2.2.2.2.2.2.2.1 k hk).1
    rw [rX7_explore_61]
    simp only [rX7_explore_62, rX7_explore_63, rX7_explore_66, rX7_explore_69, rX7_explore_72, rX7_explore_73, rX7_explore_74, rX7_explore_77, K0, hp, kp, gp, l1, S_has set31 g6', psh_some, Int.toNat_natCast, Int.natCast_nonneg, true_and, and_true, and_self, if_true, if_false, or_true, true_or, or_false, false_or, ne_eq, not_true_eq_false, not_false_eq_true, Nat.reduceLeDiff, Nat.reduceEqDiff, Nat.reduceLT, Nat.reduceAdd, Nat.reduceMul, Nat.reduceSub, Int.reduceLT, Int.reduceLE, Int.reduceEq, Int.reduceToNat, Int.reduceAdd, Int.reduceSub, Int.reduceMul, Int.reduceNeg, Int.cast_ofNat_Int, false_and, and_false]
    by_cases hb : set.testBit g = true
    · rw [if_pos hb, if_neg (by decide)]
      simp only [rX7_explore_80, rX7_explore_81, rX7_explore_82, rX7_explore_83, rX7_explore_84, rX7_explore_87, rX7_explore_88, rX7_explore_89, K0, R4, K6, k6, hord, Int.toNat_natCast, Int.natCast_nonneg, true_and, and_true, and_self, if_true, if_false, or_true, true_or, or_false, false_or, ne_eq, not_true_eq_false, not_false_eq_true, Nat.reduceLeDiff, Nat.reduceEqDiff, Nat.reduceLT, Nat.reduceAdd, Nat.reduceMul, Nat.reduceSub, Int.reduceLT, Int.reduceLE, Int.reduceEq, Int.reduceToNat, Int.reduceAdd, Int.reduceSub, Int.reduceMul, Int.reduceNeg, Int.cast_ofNat_Int, false_and, and_false]
      refine S_after x.1 x.2.1 x.2.2.1 x.2.2.2.1 x.2.2.2.2.1 l1 hs ?_
      intro h1 f1 sa1 e1
      obtain ⟨x1, nb1⟩ := x.after hk f1 sa1 e1
      have K01 := x1.2.2.1.1
      have hL' : visG (nxt A F) set (L0.getD k 0) (g + 1) L0 = vis L (nxt A F g (L.getD k 0)) := by
        show (if set.testBit g = true then vis (visG (nxt A F) set (L0.getD k 0) g L0) (nxt A F g (L0.getD k 0)) else _) = _
        rw [if_pos hb, ← hL, ek]
      simp only [psh_some, rX7_explore_92, rX7_explore_93, rX7_explore_94, K01, Int.toNat_natCast, Int.natCast_nonneg, true_and, and_true, and_self, if_true, if_false, or_true, true_or, or_false, false_or, ne_eq, not_true_eq_false, not_false_eq_true, Nat.reduceLeDiff, Nat.reduceEqDiff, Nat.reduceLT, Nat.reduceAdd, Nat.reduceMul, Nat.reduceSub, Int.reduceLT, Int.reduceLE, Int.reduceEq, Int.reduceToNat, Int.reduceAdd, Int.reduceSub, Int.reduceMul, Int.reduceNeg, Int.cast_ofNat_Int, false_and, and_false]
      by_cases hin : nxt A F g (L.getD k 0) ∈ L
      · obtain ⟨q, hq, eq⟩ := mem_getD hin
        obtain ⟨o1, o2⟩ := x1.2.2.2.2.2.2.2.2.1 q hq
        rw [eq] at o1 o2
        refine S_findOld x1.2.2.1 x1.2.2.2.2.2.2.1 (x1.2.2.2.2.2.2.2.1.2.1 _ hin) o2 hq (x1.le e0) o1 ?_
        simp only [psh_none, rX7_explore_97, rX7_explore_100, l2]
        refine ih (g + 1) h1 L ah by' dv hn' (f.trans (f1.mono (fun a k q => aft_ex q))) ?_ (by rw [hL', vis_in hin])
        obtain ⟨y1, y2, y3, y4, y5, y6, y7, y8, y9, y10, y11, y12⟩ := x1
        exact ⟨y1, y2, y3, y4, y5, y6, y7, y8, y9, y10, y11.old hin, nb1⟩
      · have xlt : nxt A F g (L.getD k 0) < 6400 := nxt_lt po.2.2.2.2.1 hs
        have llt := x1.lt e0 hk l1 hb hin
        have dvk := x1.2.2.2.2.2.2.2.2.2.2.1.dv_le k hk
        have k64 : k < 1600 := by omega
        have l0 : L.length ≠ 0 := by omega
        have dv6 : dv k ≤ 6400 := by omega
        refine S_findNew (n := L.length) (dv := dv k) x1.2.2.1 x1.2.1.2.1 x1.2.2.2.2.2.2.1 xlt (x1.2.2.2.2.1.2.2 _ xlt) llt k64 (fun hlt hq => ?_) (fun _ => (x1.2.2.2.2.2.2.2.2.2.1 k hk).2.2) dv6 ?_
        · have p0 := x1.2.2.2.2.1.2.2 _ xlt
          obtain ⟨q, hq'⟩ := Int.eq_ofNat_of_zero_le p0
          rw [hq'] at hlt hq
          have ql : q < L.length := Int.ofNat_lt.1 hlt
          have := (x1.2.2.2.2.2.2.2.2.1 q ql).1
          rw [show ((q : Int).toNat) = q from rfl, this] at hq
          exact hin (by rw [← Int.ofNat.inj hq]; exact getD_mem ql)
        · intro h2 f2 e6 e7 e8 e9 e10 e12
          rw [if_neg l0] at e10
          simp only [psh_none, rX7_explore_97, rX7_explore_100, l2]
          exact ih (g + 1) h2 _ _ _ _ hn' ((f.trans (f1.mono (fun a k q => aft_ex q))).trans (f2.mono (fun a k q => fi_ex q))) (x1.new hk l1 hb hin nb1 f2 e6 e7 e8 e9 e10 e12) (by rw [hL', vis_out hin])
    · rw [if_neg hb, if_pos (by trivial)]
      simp only [rX7_explore_97, rX7_explore_100, l2]
      refine ih (g + 1) h L ah by' dv hn' f ?_ ?_
      · obtain ⟨y1, y2, y3, y4, y5, y6, y7, y8, y9, y10, y11, y12⟩ := x
        refine ⟨y1, y2, y3, y4, y5, y6, y7, y8, y9, y10, y11.skip (by simpa using hb), fun k' g' h1' h2 h4 h5 => ?_⟩
        have : ¬ (g' = g) := fun q => hb (by rw [← q]; exact h4)
        exact y12 k' g' h1' h2 h4 (by omega)
      · show L = (if set.testBit g = true then _ else visG (nxt A F) set (L0.getD k 0) g L0)
        rw [if_neg hb]; exact hL
set_option maxHeartbeats 1000000 in
theorem ex_outer {d : Nat} {Q : Option PV → Hp → Prop} {h0 : Hp} {se : Nat} {A F : Nat → Int} {set : Nat} {R : List Nat} (po : poolOk A) (hset : set < 64)
    (cont : ∀ h' ah by' dv, Fp (exP se) h0 h' → SW h' se A F set R ah by' dv R.length 0 → Q none h') :
    ∀ (n k : Nat) (h : Hp) (L : List Nat) (ah by' dv : Nat → Nat) (x3 : Option PV), k + n = 6400 → k ≤ L.length → L.getD 0 0 = stt F → Fp (exP se) h0 h → SW h se A F set L ah by' dv k 0 → bfs (nxt A F) set (A 2).toNat n k L = R → WP (d + 5) mX7_explore 44 [some (.inr (.inr se)), some (.inl (set : Int)), some (.inl (k : Int)), x3] [] h Q := by
  intro n
  induction n with
  | zero =>
    intro k h L ah by' dv x3 hk hkl h00 f x hR
    have ll := x.2.2.2.2.2.2.2.1.len
    have e : L.length = k := by omega
    have hR' : L = R := hR
    subst hR'
    have K0 := x.2.2.1.1
    have hz := x.2.2.2.2.2.2.1
    have c : ¬ ((k : Int) < (L.length : Int)) := by omega
    rw [rX7_explore_44]
    simp only [rX7_explore_45, rX7_explore_46, rX7_explore_49, rX7_explore_109, K0, hz, c, Int.toNat_natCast, Int.natCast_nonneg, true_and, and_true, and_self, if_true, if_false, or_true, true_or, or_false, false_or, ne_eq, not_true_eq_false, not_false_eq_true, Nat.reduceLeDiff, Nat.reduceEqDiff, Nat.reduceLT, Nat.reduceAdd, Nat.reduceMul, Nat.reduceSub, Int.reduceLT, Int.reduceLE, Int.reduceEq, Int.reduceToNat, Int.reduceAdd, Int.reduceSub, Int.reduceMul, Int.reduceNeg, Int.cast_ofNat_Int, false_and, and_false]
    rw [← e] at x
    exact cont h ah by' dv f x
  | succ n ih =>
    intro k h L ah by' dv x3 hk hkl h00 f x hR
    have K0 := x.2.2.1.1
    have hz := x.2.2.2.2.2.2.1
    unfold bfs at hR
    by_cases hkL : k < L.length
    · rw [if_pos hkL] at hR
      have c1 : (k : Int) < (L.length : Int) := by omega
      have c2 : (k : Int) < 1600 := by have := x.le h00; omega
      have l2 : w32 ((k : Int) + 1) = ((k + 1 : Nat) : Int) := w32_s (by omega)
      have hn' : k + 1 + n = 6400 := by omega
      rw [rX7_explore_44]
      simp only [rX7_explore_45, rX7_explore_46, rX7_explore_49, rX7_explore_52, rX7_explore_53, rX7_explore_56, rX7_explore_59, rX7_explore_60, K0, hz, c1, c2, Int.toNat_natCast, Int.natCast_nonneg, true_and, and_true, and_self, if_true, if_false, or_true, true_or, or_false, false_or, ne_eq, not_true_eq_false, not_false_eq_true, Nat.reduceLeDiff, Nat.reduceEqDiff, Nat.reduceLT, Nat.reduceAdd, Nat.reduceMul, Nat.reduceSub, Int.reduceLT, Int.reduceLE, Int.reduceEq, Int.reduceToNat, Int.reduceAdd, Int.reduceSub, Int.reduceMul, Int.reduceNeg, Int.cast_ofNat_Int, false_and, and_false]
      refine ex_inner (L0 := L) po hset hkL h00 ?_ (A 2).toNat 0 h L ah by' dv (Nat.zero_add _) f x rfl
      intro h' L' ah' by'' dv' y3 f' x' hL'
      simp only [rX7_explore_103, rX7_explore_106, l2]
      obtain ⟨vl, vg⟩ := visG_len (nxt A F) set (L.getD k 0) (A 2).toNat L
      rw [← hL'] at vl vg
      refine ih (k + 1) h' L' ah' by'' dv' _ hn' (by omega) (by rw [vg 0 (by omega)]; exact h00) f' ?_ (by rw [hL']; exact hR)
      obtain ⟨y1, y2, y3, y4, y5, y6, y7, y8, y9, y10, y11, y12⟩ := x'
      have g0 := po.2.2.1
      exact ⟨y1, y2, y3, y4, y5, y6, y7, y8, y9, y10, y11.next, fun k' g' h1' h2 h4 h5 => y12 k' g' h1' h2 h4 (by omega)⟩
    · rw [if_neg hkL] at hR
      subst hR
      have e : L.length = k := by omega
      have c : ¬ ((k : Int) < (L.length : Int)) := by omega
      rw [rX7_explore_44]
      simp only [rX7_explore_45, rX7_explore_46, rX7_explore_49, rX7_explore_109, K0, hz, c, Int.toNat_natCast, Int.natCast_nonneg, true_and, and_true, and_self, if_true, if_false, or_true, true_or, or_false, false_or, ne_eq, not_true_eq_false, not_false_eq_true, Nat.reduceLeDiff, Nat.reduceEqDiff, Nat.reduceLT, Nat.reduceAdd, Nat.reduceMul, Nat.reduceSub, Int.reduceLT, Int.reduceLE, Int.reduceEq, Int.reduceToNat, Int.reduceAdd, Int.reduceSub, Int.reduceMul, Int.reduceNeg, Int.cast_ofNat_Int, false_and, and_false]
      rw [← e] at x
      exact cont h ah by' dv f x
theorem SW.srx {h : Hp} {se : Nat} {A F : Nat → Int} {set : Nat} {ah by' dv : Nat → Nat} (hset : set < 2 ^ (A 2).toNat) (x : SW h se A F set (Lst A F set) ah by' dv (Lst A F set).length 0) : SrX h se A F set := by
  obtain ⟨y1, y2, y3, y4, y5, y6, y7, y8, y9, y10, y11, y12⟩ := x
  exact ⟨hset, y6, y7, y9, ⟨ah, by', dv, y11, y10⟩, fun p g h1 h2 h3 => y12 p g h1 h2 h3 (Or.inl h1)⟩
/-- all of the search, for the pool and the stand as they are -/
def Sx (h : Hp) (se : Nat) (A F : Nat → Int) : Prop := DvOk h ∧ SeAt h se ∧ Shp h se ∧ SrP h se A F ∧ SrA h se A F ∧ SrM h se A F ∧ (hI h se 11 = -1 ∨ ∃ set, SrX h se A F set)
theorem ex_no11 {se k : Nat} (h3 : 314 ≤ se) : ¬ exP se (se + 11) k := by unfold exP; omega
set_option maxHeartbeats 1000000 in
theorem S_explore {d : Nat} {Q : Option PV → Hp → Prop} {h : Hp} {se : Nat} {A F : Nat → Int} (x : Sx h se A F) {set : Nat} (hset : set < 2 ^ (A 2).toNat)
    (k : ∀ h', Fp (exP se) h h' → Sx h' se A F → SrX h' se A F set → Q none h') :
    WP (d + 5) mX7_explore 0 [some (.inr (.inr se)), some (.inl (set : Int)), none, none] [] h Q := by
  obtain ⟨x1, x2, x3, x4, x5, x6, x7⟩ := id x
  have po := x4.1
  have so := x4.2.1
  have s64 : set < 64 := by have := pow6 (n := (A 2).toNat) (by have := po.2.2.2.1; omega); omega
  have h3 := x2.2.1
  obtain ⟨K0, R0, R1, R2, R3, R4, R5, R6, R7, R8, R9, K1, r0, r1, K2, K3, K4, K5, K6, K7, K8, K9, K10, K11⟩ := id x3
  simp only [rX7_explore_0, rX7_explore_1, rX7_explore_4, rX7_explore_5, rX7_explore_8, K0, Int.toNat_natCast, Int.natCast_nonneg, true_and, and_true, and_self, if_true, if_false, or_true, true_or, or_false, false_or, ne_eq, not_true_eq_false, not_false_eq_true, Nat.reduceLeDiff, Nat.reduceEqDiff, Nat.reduceLT, Nat.reduceAdd, Nat.reduceMul, Nat.reduceSub, Int.reduceLT, Int.reduceLE, Int.reduceEq, Int.reduceToNat, Int.reduceAdd, Int.reduceSub, Int.reduceMul, Int.reduceNeg, Int.cast_ofNat_Int, false_and, and_false]
  by_cases hs : hI h se 11 = (set : Int)
  · rw [if_pos hs]
    rcases x7 with q | ⟨s', q⟩
    · rw [q] at hs; exact absurd hs (by omega)
    · have : s' = set := by have := q.2.1; omega
      subst this
      exact k h (Fp.refl _ h) x q
  · rw [if_neg hs]
    have st := x4.2.2.2
    have sl := stt_lt so
    have d1 : ¬ (se + 1 = se) := by omega
    have se2 : 200 ≤ se := by omega
    obtain ⟨o1, o2, o3, o4, o5⟩ := id so
    have e2 : hI h (se + 1) 2 = (((F 0).toNat : Nat) : Int) := by rw [st.1, toN o1]
    have e3 : hI h (se + 1) 3 = (((F 1).toNat : Nat) : Int) := by rw [st.2.1, toN o3]
    have b9 : (F 0).toNat ≤ 99 := by omega
    have t6 : (F 1).toNat < 64 := by omega
    simp only [rX7_explore_9, rX7_explore_10, rX7_explore_11, rX7_explore_14, rX7_explore_15, rX7_explore_16, rX7_explore_19, rX7_explore_20, rX7_explore_21, rX7_explore_24, rX7_explore_27, rX7_explore_28, rX7_explore_31, rX7_explore_34, hN_wI, hN_wJ, hN_wR, hS_wI, hS_wJ, hS_wR, hK_wI, hK_wJ, hK_wR, hI_wI, hI_wJ, hI_wR, hJ_wI, hJ_wJ, hJ_wR, hR_wI, hR_wJ, hR_wR, hN_nw, hS_nw, hK_nw, hI_nw, hJ_nw, hR_nw, psh_some, psh_none, K0, R1, K1, e2, e3, d1, se2, S_stateOf b9 t6, psh_some, Int.toNat_natCast, Int.natCast_nonneg, true_and, and_true, and_self, if_true, if_false, or_true, true_or, or_false, false_or, ne_eq, not_true_eq_false, not_false_eq_true, Nat.reduceLeDiff, Nat.reduceEqDiff, Nat.reduceLT, Nat.reduceAdd, Nat.reduceMul, Nat.reduceSub, Int.reduceLT, Int.reduceLE, Int.reduceEq, Int.reduceToNat, Int.reduceAdd, Int.reduceSub, Int.reduceMul, Int.reduceNeg, Int.cast_ofNat_Int, false_and, and_false]
    have f1 : Fp (exP se) h (wI (wI h se 11 (set : Int)) se 12 0) := ((Fp.refl (exP se) h).wI (by unfold exP; omega) _).wI (by unfold exP; omega) _
    have z12 : hI (wI (wI h se 11 (set : Int)) se 12 0) se 12 = ((0 : Nat) : Int) := by rw [hI_wI, if_pos ⟨rfl, rfl⟩]; rfl
    have z11 : hI (wI (wI h se 11 (set : Int)) se 12 0) se 11 = (set : Int) := by rw [hI_wI, if_neg (by omega), hI_wI, if_pos ⟨rfl, rfl⟩]
    have za : ∀ j k, 0 < j → hI (wI (wI h se 11 (set : Int)) se 12 0) (se + j) k = hI h (se + j) k := fun j k hj => by rw [hI_wI, if_neg (by omega), hI_wI, if_neg (by omega)]
    generalize wI (wI h se 11 (set : Int)) se 12 0 = h1 at f1 z12 z11 za ⊢
    have sh1 := x3.fr f1
    have x51 : SrA h1 se A F := by
      obtain ⟨a1, a2, a3⟩ := x5
      refine ⟨fun g hg => by rw [za 5 _ (by omega)]; exact a1 g hg, fun g s hg hs => by rw [za 4 _ (by omega), za 5 _ (by omega)]; exact a2 g s hg hs, fun s hs => by rw [za 7 _ (by omega)]; exact a3 s hs⟩
    have x41 := x4.fr f1 x2 (fun a k q => ex_sr h3 q)
    simp only [rX7_explore_37, rX7_explore_38, rX7_explore_39, sh1.1, Int.toNat_natCast, Int.natCast_nonneg, true_and, and_true, and_self, if_true, if_false, or_true, true_or, or_false, false_or, ne_eq, not_true_eq_false, not_false_eq_true, Nat.reduceLeDiff, Nat.reduceEqDiff, Nat.reduceLT, Nat.reduceAdd, Nat.reduceMul, Nat.reduceSub, Int.reduceLT, Int.reduceLE, Int.reduceEq, Int.reduceToNat, Int.reduceAdd, Int.reduceSub, Int.reduceMul, Int.reduceNeg, Int.cast_ofNat_Int, false_and, and_false]
    refine S_findNew (n := 0) (x := stt F) (kk := 0) (dv := 0) sh1 h3 z12 sl (x51.2.2 _ sl) (by omega) (by omega) (fun hlt => ?_) (fun hz => absurd rfl hz) (by omega) ?_
    · exfalso
      have := x51.2.2 _ sl
      omega
    · intro h2 f2 e6 e7 e8 e9 e10 e12
      simp only [psh_none, rX7_explore_42, rX7_explore_43]
      rw [if_pos rfl] at e10
      have f12 := f1.trans (f2.mono (fun a k q => fi_ex q))
      have n11 : ∀ k, k ≠ 12 → hI h2 se k = hI h1 se k := fun k hk => f2.I (by unfold fiP; omega)
      have sw : SW h2 se A F set [stt F] (fun _ => 0) (fun _ => 0) (fun _ => 0) 0 0 := by
        refine ⟨x1.fr f12, x2.fr f12, sh1.fr f2, x41.fr f2 (x2.fr f1) (fun a k q => ex_sr h3 (fi_ex q)), ⟨fun g hg => by rw [f2.I fi_no5]; exact x51.1 g hg, fun g s hg hs => by rw [f2.I fi_no4, f2.I fi_no5]; exact x51.2.1 g s hg hs, fun s hs => ?_⟩, by rw [n11 11 (by omega)]; exact z11, e12, ls_one sl, fun p hp => ?_, fun p hp => ?_, Tree.one _ _ _ _ _ _ _ rfl, fun k' g' _ _ _ q => by omega⟩
        · by_cases hq : s = stt F
          · rw [hq, e7]; exact Int.le_refl _
          · rw [f2.I (fi_no7 hq)]; exact x51.2.2 s hs
        · have : p = 0 := by simp at hp; exact hp
          subst this
          exact ⟨e6, e7⟩
        · have : p = 0 := by simp at hp; exact hp
          subst this
          exact ⟨e8, fun q => by omega, e10⟩
      refine ex_outer (R := Lst A F set) po s64 ?_ 6400 0 h2 [stt F] _ _ _ _ (by omega) (by simp) rfl f12 sw rfl
      intro h' ah by' dv f' sw'
      have sx := sw'.srx hset
      obtain ⟨y1, y2, y3, y4, y5, y6, y7, y8, y9, y10, y11, y12⟩ := sw'
      refine k h' f' ⟨y1, y2, y3, y4, y5, fun s' hs' => ?_, Or.inr ⟨set, sx⟩⟩ sx
      rw [f'.I (ex_no11 h3)]
      exact x6 s' hs'
