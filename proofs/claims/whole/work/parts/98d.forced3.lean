/-! what one side can force: the reference's answers -/
def glT (t : Nat) : Nat → Bool := fun s => (s / 100).testBit t
def LW (v : Int) (P : Nat → Prop) : Prop := (v = -1 ∧ ∀ n, n < 268435456 → ¬ P n) ∨ ∃ n : Nat, v = (n : Int) ∧ n < 268435456 ∧ P n ∧ ∀ k, P k → n ≤ k
theorem least_ex {P : Nat → Prop} : ∀ n, P n → ∃ m, m ≤ n ∧ P m ∧ ∀ k, P k → m ≤ k := by
  intro n
  induction n using Nat.strongRecOn with
  | ind n ih =>
    intro h
    by_cases hk : ∃ k, k < n ∧ P k
    · obtain ⟨k, h1, h2⟩ := hk
      obtain ⟨m, m1, m2⟩ := ih k h1 h2
      exact ⟨m, by omega, m2⟩
    · exact ⟨n, Nat.le_refl _, h, fun k hp => Nat.le_of_not_lt (fun c => hk ⟨k, c, hp⟩)⟩
theorem LW_ex (P : Nat → Prop) : ∃ v, LW v P := by
  by_cases h : ∃ n, n < 268435456 ∧ P n
  · obtain ⟨n, h1, h2⟩ := h
    obtain ⟨m, m1, m2, m3⟩ := least_ex n h2
    exact ⟨(m : Int), Or.inr ⟨m, rfl, by omega, m2, m3⟩⟩
  · exact ⟨-1, Or.inl ⟨rfl, fun n h1 h2 => h ⟨n, h1, h2⟩⟩⟩
noncomputable def lwF (P : Nat → Prop) : Int := Classical.choose (LW_ex P)
theorem lwF_s (P : Nat → Prop) : LW (lwF P) P := Classical.choose_spec (LW_ex P)
theorem LW.eq {v : Int} {P : Nat → Prop} (h : LW v P) : lwF P = v := by
  rcases lwF_s P with ⟨a, b⟩ | ⟨n, a, b, c, e⟩
  · rcases h with ⟨p, q⟩ | ⟨m, p, q, r, u⟩
    · rw [a, p]
    · exact absurd r (b m q)
  · rcases h with ⟨p, q⟩ | ⟨m, p, q, r, u⟩
    · exact absurd c (q n b)
    · rw [a, p]
      have := e m r
      have := u n c
      omega
/-- as the reference has it -/
def farV (v : Int) : Int := if v = -1 then 268435456 else v
theorem far_lw {V : Int} {P : Nat → Prop} (h1 : V = 268435456 ∨ ∃ n : Nat, V = (n : Int) ∧ n < 268435456 ∧ P n) (h2 : ∀ n, n < 268435456 → P n → V ≤ (n : Int)) (mono : ∀ n k, n ≤ k → P n → P k) : V = farV (lwF P) := by
  unfold farV
  rcases h1 with q | ⟨n, e, hn, hp⟩
  · have : lwF P = -1 := LW.eq (Or.inl ⟨rfl, fun n hn hp => by have := h2 n hn hp; omega⟩)
    rw [if_pos this, q]
  · have : lwF P = (n : Int) := LW.eq (Or.inr ⟨n, rfl, hn, hp, fun k hk => by
      by_cases hkf : k < 268435456
      · have := h2 k hkf hk; omega
      · omega⟩)
    rw [this, if_neg (by omega), e]
theorem lwF_in (P : Nat → Prop) : lwF P = -1 ∨ ∃ n : Nat, lwF P = (n : Int) ∧ n < 268435456 := by
  rcases lwF_s P with ⟨a, _⟩ | ⟨n, a, b, _⟩
  · exact Or.inl a
  · exact Or.inr ⟨n, a, b⟩
/-- what the reference holds behind it -/
def FH (h : Hp) (A : Nat → Int) (f : Nat → Nat → Nat) (gl : Nat → Bool) (one other : Nat) (L : List Nat) : Prop := RG h A f one other L ∧ ∀ s, s ∈ L → hI h 305 s = farV (lwF (fun n => Wn f gl one other n 0 s)) ∧ hI h 306 s = farV (lwF (fun n => Wn f gl one other n 1 s))
theorem FI.fh {h : Hp} {A : Nat → Int} {f : Nat → Nat → Nat} {gl : Nat → Bool} {one other : Nat} {L : List Nat} (x : RG h A f one other L) (fi : FI (hI h 305) (hI h 306) f gl one other L) (dn : DN (hI h 305) (hI h 306) f gl one other L 0) : FH h A f gl one other L := by
  have po := x.1.2.2.2.2.2.2
  have c := x.cl
  have all := fi.done (set64 po x.2.1) (set64 po x.2.2) c.1 c.2 dn
  refine ⟨x, fun s hs => ⟨far_lw (fi s hs).1 (fun n hn w => ?_) (fun n k hk w => Wn_le hk w), far_lw (fi s hs).2.1 (fun n hn w => ?_) (fun n k hk w => Wn_le hk w)⟩⟩
  · have := all n 0 s hs hn w; rw [if_pos rfl] at this; exact this
  · have := all n 1 s hs hn w; rw [if_neg (by decide)] at this; exact this
/-- how much is left to lessen -/
def sm2 (h : Hp) (L : List Nat) : Nat := sumV (hI h 305) L L.length + sumV (hI h 306) L L.length
theorem sumV_le {V W : Nat → Int} {L : List Nat} : ∀ n, (∀ s, W s ≤ V s) → sumV W L n ≤ sumV V L n := by
  intro n
  induction n with
  | zero => intro _; exact Nat.le_refl _
  | succ n ih =>
    intro h
    have := ih h
    have := h (L.getD n 0)
    unfold sumV
    omega
theorem ls_le (a b : Int) : lsV2 a b ≤ b ∧ (a < b → lsV2 a b < b) ∧ (¬ a < b → lsV2 a b = b) := by
  unfold lsV2
  split <;> omega
theorem fr_heap {h : Hp} {s : Nat} {a b : Int} : (∀ t, hI (wI (wI h 305 s a) 306 s b) 305 t = if t = s then a else hI h 305 t) ∧ (∀ t, hI (wI (wI h 305 s a) 306 s b) 306 t = if t = s then b else hI h 306 t) := by
  refine ⟨fun t => ?_, fun t => ?_⟩
  · rw [hI_wI, if_neg (fun c => absurd c.1 (by decide)), hI_wI]
    by_cases ht : t = s
    · rw [if_pos ⟨rfl, ht⟩, if_pos ht]
    · rw [if_neg (fun c => ht c.2), if_neg ht]
  · rw [hI_wI]
    by_cases ht : t = s
    · rw [if_pos ⟨rfl, ht⟩, if_pos ht]
    · rw [if_neg (fun c => ht c.2), if_neg ht, hI_wI, if_neg (fun c => absurd c.1 (by decide))]
theorem fr_sum {h : Hp} {L : List Nat} (o : lsOk L) {j : Nat} (hj : j < L.length) {mi it : Int} (m0 : 0 ≤ mi) (i0 : 0 ≤ it) (v0 : 0 ≤ hI h 305 (L.getD j 0)) (v1 : 0 ≤ hI h 306 (L.getD j 0)) (hc : mi < hI h 305 (L.getD j 0) ∨ it < hI h 306 (L.getD j 0)) : sm2 (wI (wI h 305 (L.getD j 0) (lsV2 mi (hI h 305 (L.getD j 0)))) 306 (L.getD j 0) (lsV2 it (hI h 306 (L.getD j 0)))) L < sm2 h L := by
  obtain ⟨e0, e1⟩ := fr_heap (h := h) (s := L.getD j 0) (a := lsV2 mi (hI h 305 (L.getD j 0))) (b := lsV2 it (hI h 306 (L.getD j 0)))
  have a := ls_le mi (hI h 305 (L.getD j 0))
  have b := ls_le it (hI h 306 (L.getD j 0))
  have p0 : 0 ≤ lsV2 mi (hI h 305 (L.getD j 0)) := by unfold lsV2; split <;> assumption
  have p1 : 0 ≤ lsV2 it (hI h 306 (L.getD j 0)) := by unfold lsV2; split <;> assumption
  unfold sm2
  have l0 : sumV (hI (wI (wI h 305 (L.getD j 0) (lsV2 mi (hI h 305 (L.getD j 0)))) 306 (L.getD j 0) (lsV2 it (hI h 306 (L.getD j 0)))) 305) L L.length ≤ sumV (hI h 305) L L.length := sumV_le _ (fun t => by
    rw [e0]; split
    · rename_i q; rw [q]; exact a.1
    · exact Int.le_refl _)
  have l1 : sumV (hI (wI (wI h 305 (L.getD j 0) (lsV2 mi (hI h 305 (L.getD j 0)))) 306 (L.getD j 0) (lsV2 it (hI h 306 (L.getD j 0)))) 306) L L.length ≤ sumV (hI h 306) L L.length := sumV_le _ (fun t => by
    rw [e1]; split
    · rename_i q; rw [q]; exact b.1
    · exact Int.le_refl _)
  rcases hc with hc | hc
  · have := sumV_lt (V := hI h 305) (W := hI (wI (wI h 305 (L.getD j 0) (lsV2 mi (hI h 305 (L.getD j 0)))) 306 (L.getD j 0) (lsV2 it (hI h 306 (L.getD j 0)))) 305) o (k := j) (by rw [e0, if_pos rfl]; exact p0) (by rw [e0, if_pos rfl]; exact a.2.1 hc) (fun s hs => by rw [e0, if_neg hs]) L.length hj (Nat.le_refl _)
    omega
  · have := sumV_lt (V := hI h 306) (W := hI (wI (wI h 305 (L.getD j 0) (lsV2 mi (hI h 305 (L.getD j 0)))) 306 (L.getD j 0) (lsV2 it (hI h 306 (L.getD j 0)))) 306) o (k := j) (by rw [e1, if_pos rfl]; exact p1) (by rw [e1, if_pos rfl]; exact b.2.1 hc) (fun s hs => by rw [e1, if_neg hs]) L.length hj (Nat.le_refl _)
    omega
theorem up1_0 {z : Int} (h : 0 ≤ z) : 0 ≤ up1 z := by unfold up1; split <;> omega
theorem j_le {j l : Nat} (h : j + 1 ≤ l) : j < l ∧ j ≤ l := by omega
set_option maxHeartbeats 1000000 in
theorem fr_inner {d : Nat} {Q : Option PV → Hp → Prop} {A : Nat → Int} {f : Nat → Nat → Nat} {one other t : Nat} {L : List Nat} {h0 : Hp} (x0 : RG h0 A f one other L) (t6 : t < 6)
    (cont : ∀ h' fl x6 x7 x8, Fp frP h0 h' → FI (hI h' 305) (hI h' 306) f (glT t) one other L → ((fl = 0 ∧ hI h' 305 = hI h0 305 ∧ hI h' 306 = hI h0 306 ∧ DN (hI h0 305) (hI h0 306) f (glT t) one other L 0) ∨ (fl = 1 ∧ sm2 h' L < sm2 h0 L)) → WP (d + 2) mX12_laysForced 247 [some (.inr (.inr 294)), some (.inl (t : Int)), some (.inl (one : Int)), some (.inl (other : Int)), some (.inl fl), some (.inl (-1)), x6, x7, x8] [] h' Q) :
    ∀ (j : Nat) (h : Hp) (fl : Int) (x6 x7 x8 : Option PV), j ≤ L.length → Fp frP h0 h → FI (hI h 305) (hI h 306) f (glT t) one other L → ((fl = 0 ∧ hI h 305 = hI h0 305 ∧ hI h 306 = hI h0 306 ∧ DN (hI h0 305) (hI h0 306) f (glT t) one other L j) ∨ (fl = 1 ∧ sm2 h L < sm2 h0 L)) → WP (d + 2) mX12_laysForced 101 [some (.inr (.inr 294)), some (.inl (t : Int)), some (.inl (one : Int)), some (.inl (other : Int)), some (.inl fl), some (.inl ((j : Int) - 1)), x6, x7, x8] [] h Q := by
  have ok := x0.1.2.2.2.1
  have po := x0.1.2.2.2.2.2.2
  have cl := x0.cl
  intro j
  induction j with
  | zero =>
    intro h fl x6 x7 x8 hj f si c
    rw [rX12_laysForced_101]
    simp only [rX12_laysForced_103, show ((0 : Nat) : Int) - 1 = -1 from rfl, Int.toNat_natCast, Int.natCast_nonneg, true_and, and_true, and_self, if_true, if_false, or_true, true_or, or_false, false_or, ne_eq, not_true_eq_false, not_false_eq_true, Nat.reduceLeDiff, Nat.reduceEqDiff, Nat.reduceLT, Nat.reduceAdd, Nat.reduceMul, Nat.reduceSub, Int.reduceLT, Int.reduceLE, Int.reduceEq, Int.reduceToNat, Int.reduceAdd, Int.reduceSub, Int.reduceMul, Int.reduceNeg, Int.cast_ofNat_Int, false_and, and_false]
    exact cont h fl x6 x7 x8 f si c
  | succ j ih =>
    intro h fl x6 x7 x8 hj fp fi c
    obtain ⟨jl, jle⟩ := j_le hj
    have j6 := (i_64 ok jl).2.2.2
    have x := x0.fr fp (fun a k q => fr_no q)
    have m := x.1.1
    have hfl : fl = 0 ∨ fl = 1 := c.elim (fun q => Or.inl q.1) (fun q => Or.inr q.1)
    have dn' := dn2 j6
    rw [dn1]
    by_cases hg : (L.getD j 0 / 100).testBit t = true
    · obtain ⟨j1, j2, j3, j4⟩ := i_64 ok jl
      have c0 : ¬ ((j : Int) < 0) := Int.not_lt.2 (Int.natCast_nonneg j)
      have oj := x.1.2.2.2.2.1 j jl
      rw [rX12_laysForced_101]
      simp only [rX12_laysForced_103, rX12_laysForced_106, rX12_laysForced_107, rX12_laysForced_110, rX12_laysForced_112, rX12_laysForced_113, rX12_laysForced_115, rX12_laysForced_117, rX12_laysForced_118, rX12_laysForced_121, c0, Md_K280 m, Md_R281 m, Md_K281 m, Md_R282 m, Md_K282 m, Md_R283 m, Md_K283 m, Md_R284 m, Md_K284 m, Md_R285 m, Md_K285 m, Md_R286 m, Md_K286 m, Md_R287 m, Md_K287 m, Md_R288 m, Md_K288 m, Md_R289 m, Md_K289 m, Md_R290 m, Md_K290 m, Md_R291 m, Md_K291 m, Md_R292 m, Md_K292 m, Md_R293 m, Md_K293 m, Md_R294 m, Md_K294 m, Md_R295 m, Md_K295 m, Md_R296 m, Md_K296 m, Md_R297 m, Md_K297 m, Md_R298 m, Md_K298 m, Md_R299 m, Md_K299 m, j2, oj, S_isGoal (getD_lt ok jl) t6, psh_some, Int.toNat_natCast, Int.natCast_nonneg, true_and, and_true, and_self, if_true, if_false, or_true, true_or, or_false, false_or, ne_eq, not_true_eq_false, not_false_eq_true, Nat.reduceLeDiff, Nat.reduceEqDiff, Nat.reduceLT, Nat.reduceAdd, Nat.reduceMul, Nat.reduceSub, Int.reduceLT, Int.reduceLE, Int.reduceEq, Int.reduceToNat, Int.reduceAdd, Int.reduceSub, Int.reduceMul, Int.reduceNeg, Int.cast_ofNat_Int, false_and, and_false]
      simp only [if_pos hg]
      rw [if_neg (by decide)]
      simp only [rX12_laysForced_124, rX12_laysForced_241, rX12_laysForced_244, dn']
      refine ih h fl _ _ _ jle fp fi (c.elim (fun q => Or.inl ⟨q.1, q.2.1, q.2.2.1, fun p h1 h2 h3 => ?_⟩) Or.inr)
      by_cases he : p = j
      · rw [he] at h3; exact absurd hg h3
      · exact q.2.2.2 p (Nat.lt_of_le_of_ne h1 (fun z => he z.symm)) h2 h3
    · refine fr_step x fi.v.1 fi.v.2 t6 jl hg hfl ?_
      intro y6 y7 y8
      simp only [rX12_laysForced_241, rX12_laysForced_244, dn']
      have hs := getD_mem jl
      have m0 := mn_in fi.v.2 (f := f) (s := L.getD j 0) (set := one) hs (fun g hb => cl.1 _ g hs hb) 6
      have i0 := mx_in fi.v.1 (f := f) (s := L.getD j 0) (set := other) hs (fun g hb => cl.2 _ g hs hb) 6
      obtain ⟨e0, e1⟩ := fr_heap (h := h) (s := L.getD j 0) (a := lsV2 (oneV (hI h 306) f (L.getD j 0) one) (hI h 305 (L.getD j 0))) (b := lsV2 (othV (hI h 305) f (L.getD j 0) other) (hI h 306 (L.getD j 0)))
      refine ih _ _ _ _ _ jle ((fp.wI (Or.inl rfl) _).wI (Or.inr rfl) _) (fi.put (set64 po x0.2.2) hs hg (fun g hb => cl.1 _ g hs hb) (fun g hb => cl.2 _ g hs hb) e0 e1) ?_
      by_cases hc : oneV (hI h 306) f (L.getD j 0) one < hI h 305 (L.getD j 0) ∨ othV (hI h 305) f (L.getD j 0) other < hI h 306 (L.getD j 0)
      · rw [if_pos hc]
        refine Or.inr ⟨rfl, ?_⟩
        have lt := fr_sum ok jl (up1_0 m0.1) (up1_0 i0.1) (fi.v.1 _ hs).1 (fi.v.2 _ hs).1 hc
        rcases c with ⟨_, q1, q2, _⟩ | ⟨_, q⟩
        · have : sm2 h L = sm2 h0 L := by unfold sm2; rw [q1, q2]
          rw [← this]; exact lt
        · exact Nat.lt_trans lt q
      · rw [if_neg hc]
        have n1 : ¬ oneV (hI h 306) f (L.getD j 0) one < hI h 305 (L.getD j 0) := fun q => hc (Or.inl q)
        have n2 : ¬ othV (hI h 305) f (L.getD j 0) other < hI h 306 (L.getD j 0) := fun q => hc (Or.inr q)
        have q0 : hI (wI (wI h 305 (L.getD j 0) (lsV2 (oneV (hI h 306) f (L.getD j 0) one) (hI h 305 (L.getD j 0)))) 306 (L.getD j 0) (lsV2 (othV (hI h 305) f (L.getD j 0) other) (hI h 306 (L.getD j 0)))) 305 = hI h 305 := by
          funext s
          rw [e0, (ls_le _ _).2.2 n1]
          split
          · rename_i q; rw [q]
          · rfl
        have q1 : hI (wI (wI h 305 (L.getD j 0) (lsV2 (oneV (hI h 306) f (L.getD j 0) one) (hI h 305 (L.getD j 0)))) 306 (L.getD j 0) (lsV2 (othV (hI h 305) f (L.getD j 0) other) (hI h 306 (L.getD j 0)))) 306 = hI h 306 := by
          funext s
          rw [e1, (ls_le _ _).2.2 n2]
          split
          · rename_i q; rw [q]
          · rfl
        rcases c with ⟨c1, c2, c3, c4⟩ | ⟨c1, c2⟩
        · refine Or.inl ⟨c1, q0.trans c2, q1.trans c3, fun p h1 h2 h3 => ?_⟩
          by_cases he : p = j
          · rw [he, ← c2, ← c3]
            exact ⟨Int.not_lt.1 n1, Int.not_lt.1 n2⟩
          · exact c4 p (Nat.lt_of_le_of_ne h1 (fun z => he z.symm)) h2 h3
        · refine Or.inr ⟨c1, ?_⟩
          have : sm2 (wI (wI h 305 (L.getD j 0) (lsV2 (oneV (hI h 306) f (L.getD j 0) one) (hI h 305 (L.getD j 0)))) 306 (L.getD j 0) (lsV2 (othV (hI h 305) f (L.getD j 0) other) (hI h 306 (L.getD j 0)))) L = sm2 h L := by unfold sm2; rw [q0, q1]
          rw [this]; exact c2
set_option maxHeartbeats 1000000 in
theorem fr_outer {d : Nat} {Q : Option PV → Hp → Prop} {A : Nat → Int} {f : Nat → Nat → Nat} {one other t : Nat} {L : List Nat} {h0 : Hp} (x0 : RG h0 A f one other L) (t6 : t < 6)
    (cont : ∀ h' x5 x6 x7 x8, Fp frP h0 h' → FH h' A f (glT t) one other L → WP (d + 2) mX12_laysForced 250 [some (.inr (.inr 294)), some (.inl (t : Int)), some (.inl (one : Int)), some (.inl (other : Int)), some (.inl 0), x5, x6, x7, x8] [] h' Q) :
    ∀ (m : Nat) (h : Hp) (x5 x6 x7 x8 : Option PV), sm2 h L ≤ m → Fp frP h0 h → FI (hI h 305) (hI h 306) f (glT t) one other L → WP (d + 2) mX12_laysForced 85 [some (.inr (.inr 294)), some (.inl (t : Int)), some (.inl (one : Int)), some (.inl (other : Int)), some (.inl 1), x5, x6, x7, x8] [] h Q := by
  have ll := x0.1.2.2.2.1.len
  have body : ∀ (h : Hp) (x5 x6 x7 x8 : Option PV), Fp frP h0 h → FI (hI h 305) (hI h 306) f (glT t) one other L → (∀ h', Fp frP h0 h' → FI (hI h' 305) (hI h' 306) f (glT t) one other L → sm2 h' L < sm2 h L → ∀ y5 y6 y7 y8, WP (d + 2) mX12_laysForced 85 [some (.inr (.inr 294)), some (.inl (t : Int)), some (.inl (one : Int)), some (.inl (other : Int)), some (.inl 1), y5, y6, y7, y8] [] h' Q) → WP (d + 2) mX12_laysForced 85 [some (.inr (.inr 294)), some (.inl (t : Int)), some (.inl (one : Int)), some (.inl (other : Int)), some (.inl 1), x5, x6, x7, x8] [] h Q := by
    intro h x5 x6 x7 x8 fp fi again
    have x := x0.fr fp (fun a k q => fr_no q)
    have m := x.1.1
    rw [rX12_laysForced_85]
    simp only [rX12_laysForced_87, rX12_laysForced_90, rX12_laysForced_91, rX12_laysForced_93, rX12_laysForced_94, rX12_laysForced_97, rX12_laysForced_98, rX12_laysForced_99, Md_K280 m, Md_R281 m, Md_K281 m, Md_R282 m, Md_K282 m, Md_R283 m, Md_K283 m, Md_R284 m, Md_K284 m, Md_R285 m, Md_K285 m, Md_R286 m, Md_K286 m, Md_R287 m, Md_K287 m, Md_R288 m, Md_K288 m, Md_R289 m, Md_K289 m, Md_R290 m, Md_K290 m, Md_R291 m, Md_K291 m, Md_R292 m, Md_K292 m, Md_R293 m, Md_K293 m, Md_R294 m, Md_K294 m, Md_R295 m, Md_K295 m, Md_R296 m, Md_K296 m, Md_R297 m, Md_K297 m, Md_R298 m, Md_K298 m, Md_R299 m, Md_K299 m, x.1.2.2.1, dn3 ll, Int.toNat_natCast, Int.natCast_nonneg, true_and, and_true, and_self, if_true, if_false, or_true, true_or, or_false, false_or, ne_eq, not_true_eq_false, not_false_eq_true, Nat.reduceLeDiff, Nat.reduceEqDiff, Nat.reduceLT, Nat.reduceAdd, Nat.reduceMul, Nat.reduceSub, Int.reduceLT, Int.reduceLE, Int.reduceEq, Int.reduceToNat, Int.reduceAdd, Int.reduceSub, Int.reduceMul, Int.reduceNeg, Int.cast_ofNat_Int, false_and, and_false]
    refine fr_inner x t6 ?_ _ h 0 _ _ _ (Nat.le_refl _) (Fp.refl _ h) fi (Or.inl ⟨rfl, rfl, rfl, fun p h1 h2 => absurd h2 (Nat.not_lt.2 h1)⟩)
    intro h' fl y6 y7 y8 f' fi' c
    simp only [rX12_laysForced_247]
    rcases c with ⟨e1, e2, e3, e4⟩ | ⟨e1, e2⟩
    · subst e1
      rw [rX12_laysForced_85]
      simp only [rX12_laysForced_87, Int.toNat_natCast, Int.natCast_nonneg, true_and, and_true, and_self, if_true, if_false, or_true, true_or, or_false, false_or, ne_eq, not_true_eq_false, not_false_eq_true, Nat.reduceLeDiff, Nat.reduceEqDiff, Nat.reduceLT, Nat.reduceAdd, Nat.reduceMul, Nat.reduceSub, Int.reduceLT, Int.reduceLE, Int.reduceEq, Int.reduceToNat, Int.reduceAdd, Int.reduceSub, Int.reduceMul, Int.reduceNeg, Int.cast_ofNat_Int, false_and, and_false]
      refine cont h' _ _ _ _ (fp.trans f') (FI.fh (x.fr f' (fun a k q => fr_no q)) fi' ?_)
      rw [e2, e3]; exact e4
    · subst e1
      exact again h' (fp.trans f') fi' e2 _ _ _ _
  intro m
  induction m with
  | zero => intro h x5 x6 x7 x8 hm fp fi; exact body h x5 x6 x7 x8 fp fi (fun h' _ _ hlt => absurd (Nat.lt_of_lt_of_le hlt hm) (Nat.not_lt_zero _))
  | succ m ih => intro h x5 x6 x7 x8 hm fp fi; exact body h x5 x6 x7 x8 fp fi (fun h' f' fi' hlt y5 y6 y7 y8 => ih h' y5 y6 y7 y8 (Nat.le_of_lt_succ (Nat.lt_of_lt_of_le hlt hm)) f' fi')
