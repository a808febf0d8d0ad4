/-! the reference: all that can be -/
theorem S_standOf {d : Nat} {h : Hp} {Q : Option PV → Hp → Prop} {b t : Nat} (hb : b ≤ 99) (ht : t < 64) : WP d mX12_standOf 0 [some (.inl (t : Int)), some (.inl (b : Int))] [] h Q = Q (some (.inl ((100 * t + b : Nat) : Int))) h := by
  have e1 : w32 (100 * (t : Int)) = ((100 * t : Nat) : Int) := by rw [w32_i (by omega) (by omega)]; omega
  have e2 : w32 (((100 * t : Nat) : Int) + (b : Int)) = ((100 * t + b : Nat) : Int) := w32_ll (by omega)
  simp only [rX12_standOf_0, rX12_standOf_2, rX12_standOf_3, rX12_standOf_4, rX12_standOf_5, rX12_standOf_6, e1, e2]
theorem S_standNow {d : Nat} {h : Hp} {Q : Option PV → Hp → Prop} {A : Nat → Int} (x : RpF h A) (so : stOk (stA A)) : WP (d + 1) mX12_standNow 0 [some (.inr (.inr 294))] [] h Q = Q (some (.inl (stt (stA A) : Int))) h := by
  obtain ⟨m, a, po⟩ := x
  obtain ⟨o1, o2, o3, o4, o5⟩ := so
  have e3 : hI h 295 33 = (((stA A 0).toNat : Nat) : Int) := by rw [a 33 (by omega), toN o1]; rfl
  have e4 : hI h 295 34 = (((stA A 1).toNat : Nat) : Int) := by rw [a 34 (by omega), toN o3]; rfl
  have b9 : (stA A 0).toNat ≤ 99 := by omega
  have t6 : (stA A 1).toNat < 64 := by omega
  simp only [rX12_standNow_0, rX12_standNow_1, rX12_standNow_4, rX12_standNow_6, rX12_standNow_7, rX12_standNow_8, rX12_standNow_11, rX12_standNow_13, rX12_standNow_14, rX12_standNow_17, Md_K280 m, Md_R281 m, Md_K281 m, Md_R282 m, Md_K282 m, Md_R283 m, Md_K283 m, Md_R284 m, Md_K284 m, Md_R285 m, Md_K285 m, Md_R286 m, Md_K286 m, Md_R287 m, Md_K287 m, Md_R288 m, Md_K288 m, Md_R289 m, Md_K289 m, Md_R290 m, Md_K290 m, Md_R291 m, Md_K291 m, Md_R292 m, Md_K292 m, Md_R293 m, Md_K293 m, Md_R294 m, Md_K294 m, Md_R295 m, Md_K295 m, Md_R296 m, Md_K296 m, Md_R297 m, Md_K297 m, Md_R298 m, Md_K298 m, Md_R299 m, Md_K299 m, e3, e4, S_standOf b9 t6, psh_some, Int.toNat_natCast, Int.natCast_nonneg, true_and, and_true, and_self, if_true, if_false, or_true, true_or, or_false, false_or, ne_eq, not_true_eq_false, not_false_eq_true, Nat.reduceLeDiff, Nat.reduceEqDiff, Nat.reduceLT, Nat.reduceAdd, Nat.reduceMul, Nat.reduceSub, Int.reduceLT, Int.reduceLE, Int.reduceEq, Int.reduceToNat, Int.reduceAdd, Int.reduceSub, Int.reduceMul, Int.reduceNeg, Int.cast_ofNat_Int, false_and, and_false]
  rfl
def rsP (a k : Nat) : Prop := lP a k ∨ a = 302 ∨ a = 303 ∨ a = 304 ∨ (a = 294 ∧ k = 27)
theorem rsP_u {a k : Nat} (q : rsP a k) : uP a k := by unfold rsP lP at q; unfold uP; omega
theorem AtA.fr {P : Nat → Nat → Prop} {h h' : Hp} {A : Nat → Int} (f : Fp P h h') (hp : ∀ k, ¬ P 295 k) (a : AtA h A) : AtA h' A := fun k hk => by rw [f.I (hp k)]; exact a k hk
/-- the reference at work: at place k, goer g -/
def RW (h : Hp) (A : Nat → Int) (set : Nat) (L : List Nat) (k g : Nat) : Prop := MdOk h ∧ AtA h A ∧ hI h 294 27 = (L.length : Int) ∧ lsOk L ∧ (∀ p, p < L.length → hI h 303 p = (L.getD p 0 : Int)) ∧ (∀ p, p < L.length → 0 ≤ hI h 302 (L.getD p 0) ∧ hI h 302 (L.getD p 0) ≤ (p : Int)) ∧ (∀ s, s < 6400 → ¬ s ∈ L → hI h 302 s = 268435456) ∧ ∀ k' g' : Nat, k' < L.length → (g' : Int) < A 2 → set.testBit g' = true → (k' < k ∨ (k' = k ∧ g' < g)) → hI h 304 (6 * L.getD k' 0 + g') = (nxt A (stA A) g' (L.getD k' 0) : Int)
theorem RW.lp {h h' : Hp} {A : Nat → Int} {set : Nat} {L : List Nat} {k g : Nat} (f : Fp lP h h') (x : RW h A set L k g) : RW h' A set L k g := by
  obtain ⟨x1, x2, x3, x4, x5, x6, x7, x8⟩ := x
  have n : ∀ a k, a = 302 ∨ a = 303 ∨ a = 304 ∨ (a = 294 ∧ k = 27) → ¬ lP a k := fun a k h1 => by unfold lP; omega
  refine ⟨x1.fr f, x2.fr f (fun k => by unfold lP; omega), by rw [f.I (n _ _ (by omega))]; exact x3, x4, fun p hp => by rw [f.I (n _ _ (by omega))]; exact x5 p hp, fun p hp => by rw [f.I (n _ _ (by omega))]; exact x6 p hp, fun s hs hn => by rw [f.I (n _ _ (by omega))]; exact x7 s hs hn, fun k' g' h1 h2 h3 h4 => by rw [f.I (n _ _ (by omega))]; exact x8 k' g' h1 h2 h3 h4⟩
theorem ix6 {g s : Nat} (hg : g < 6) (hs : s < 6400) : w32 (6 * (s : Int)) = ((6 * s : Nat) : Int) ∧ w32 (((6 * s : Nat) : Int) + (g : Int)) = ((6 * s + g : Nat) : Int) ∧ ((6 * s + g : Nat) : Int) < 38400 ∧ (s : Int) < 6400 ∧ w32 ((s : Int).tdiv 100) = ((s / 100 : Nat) : Int) ∧ (s : Int).tmod 100 = ((s % 100 : Nat) : Int) ∧ s % 100 ≤ 99 ∧ s / 100 < 64 := by
  refine ⟨by rw [w32_i (by omega) (by omega)]; omega, w32_ll (by omega), by omega, by omega, by rw [tdiv_n (by omega), w32_i (by omega) (by omega)]; omega, by rw [tmod_n (by omega)]; omega, by omega, by omega⟩
theorem ix6_inj {g s g' s' : Nat} (hg : g < 6) (hg' : g' < 6) (e : 6 * s' + g' = 6 * s + g) : g' = g ∧ s' = s := by omega
theorem far_lt {z : Int} {p : Nat} (h : z ≤ (p : Int)) (hp : p < 6400) : z < 268435456 := by omega
theorem far_n {z : Int} {p : Nat} (h0 : 0 ≤ z) (h : z ≤ (p : Int)) (hp : p < 6400) : w32 (z + 1) = z + 1 := w32_i (by omega) (by omega)
theorem LdC_s {h : Hp} {A : Nat → Int} (m : MdOk h) (a : AtA h A) (po : poolOk A) (so : stOk (stA A)) {g s : Nat} (hg : g < 6) (hs : s < 6400) : LdC h A g (s % 100) (s / 100) (A (35 + g)) (A (41 + g)) := by
  obtain ⟨o1, o2, o3, o4, o5⟩ := so
  obtain ⟨o6, o7, o8, o9⟩ := o5 g hg
  rw [stA_br] at o6 o7
  rw [stA_bo] at o8 o9
  exact ⟨m, a, po, rfl, rfl, o6, o7, o8, o9, hg, by omega, by omega⟩
theorem nxt_ref {A : Nat → Int} {g s q : Nat} (h : dPst (pdA A) (A (35 + g)) (A (41 + g)) g (s / 100) (s % 100) = (q : Int)) : nxt A (stA A) g s = 100 * dThr (pdA A) (A (35 + g)) (A (41 + g)) g (s / 100) (s % 100) + q := by
  unfold nxt
  rw [stA_br, stA_bo, h]; rfl
theorem RW.put {h : Hp} {A : Nat → Int} {set : Nat} {L : List Nat} {k g : Nat} (x : RW h A set L k g) (hk : k < L.length) (g6 : g < 6) (G6 : A 2 ≤ 6) : RW (wI h 304 (6 * L.getD k 0 + g) (nxt A (stA A) g (L.getD k 0) : Int)) A set L k (g + 1) := by
  obtain ⟨x1, x2, x3, x4, x5, x6, x7, x8⟩ := x
  have f : Fp (fun a _ => a = 304) h (wI h 304 (6 * L.getD k 0 + g) (nxt A (stA A) g (L.getD k 0) : Int)) := (Fp.refl (fun a _ => a = 304) h).wI rfl _
  refine ⟨x1.fr f, x2.fr f (fun k => by decide), by rw [f.I (by decide)]; exact x3, x4, fun p hp => by rw [f.I (by decide)]; exact x5 p hp, fun p hp => by rw [f.I (by decide)]; exact x6 p hp, fun s hs hn => by rw [f.I (by decide)]; exact x7 s hs hn, fun k' g' h1 h2 h3 h4 => ?_⟩
  rw [hI_wI]
  by_cases he : 6 * L.getD k' 0 + g' = 6 * L.getD k 0 + g
  · obtain ⟨eg, es⟩ := ix6_inj g6 (by omega) he
    rw [if_pos ⟨rfl, he⟩, eg, es]
  · have hne : ¬ (k' = k ∧ g' = g) := fun q => he (by rw [q.1, q.2])
    rw [if_neg (fun q => he q.2)]
    exact x8 k' g' h1 h2 h3 (by omega)
theorem RW.new {h : Hp} {A : Nat → Int} {set : Nat} {L : List Nat} {k g : Nat} {x : Nat} {v : Int} (w : RW h A set L k g) (hk : k < L.length) (hx : x < 6400) (hn : ¬ x ∈ L) (h0 : 0 ≤ v) (hv : v ≤ (L.length : Int)) : RW (wI (wI (wI h 302 x v) 303 L.length (x : Int)) 294 27 ((L.length + 1 : Nat) : Int)) A set (L ++ [x]) k g := by
  obtain ⟨x1, x2, x3, x4, x5, x6, x7, x8⟩ := w
  have f : Fp (fun a k => a = 302 ∨ a = 303 ∨ (a = 294 ∧ k = 27)) h (wI (wI (wI h 302 x v) 303 L.length (x : Int)) 294 27 ((L.length + 1 : Nat) : Int)) := (((Fp.refl (fun a k => a = 302 ∨ a = 303 ∨ (a = 294 ∧ k = 27)) h).wI (Or.inl rfl) _).wI (Or.inr (Or.inl rfl)) _).wI (Or.inr (Or.inr ⟨rfl, rfl⟩)) _
  have ok := x4.vis hx
  rw [vis_out hn] at ok
  have ll : (L ++ [x]).length = L.length + 1 := by rw [List.length_append]; rfl
  have e8 : ∀ j, hI (wI (wI (wI h 302 x v) 303 L.length (x : Int)) 294 27 ((L.length + 1 : Nat) : Int)) 302 j = if j = x then v else hI h 302 j := fun j => by
    rw [hI_wI, if_neg (by omega), hI_wI, if_neg (by omega), hI_wI]
    by_cases hj : j = x
    · rw [if_pos ⟨rfl, hj⟩, if_pos hj]
    · rw [if_neg (fun q => hj q.2), if_neg hj]
  have e9 : ∀ j, hI (wI (wI (wI h 302 x v) 303 L.length (x : Int)) 294 27 ((L.length + 1 : Nat) : Int)) 303 j = if j = L.length then (x : Int) else hI h 303 j := fun j => by
    rw [hI_wI, if_neg (by omega), hI_wI]
    by_cases hj : j = L.length
    · rw [if_pos ⟨rfl, hj⟩, if_pos hj]
    · rw [if_neg (fun q => hj q.2), if_neg hj, hI_wI, if_neg (by omega)]
  refine ⟨x1.fr f, x2.fr f (fun k => by omega), by rw [hI_wI, if_pos ⟨rfl, rfl⟩, ll], ok, fun p hp => ?_, fun p hp => ?_, fun s hs hns => ?_, fun k' g' h1 h2 h3 h4 => ?_⟩
  · rw [ll] at hp
    rw [e9]
    by_cases hpl : p = L.length
    · rw [if_pos hpl, hpl, getD_end]
    · rw [if_neg hpl, getD_app (by omega)]; exact x5 p (by omega)
  · rw [ll] at hp
    rw [e8]
    by_cases hpl : p = L.length
    · rw [hpl, getD_end, if_pos rfl]; exact ⟨h0, hv⟩
    · have hp' : p < L.length := by omega
      rw [getD_app hp', if_neg (fun q => hn (by rw [← q]; exact getD_mem hp'))]; exact x6 p hp'
  · have a1 : s ≠ x := fun q => hns (by rw [q]; exact List.mem_append_right _ (List.mem_singleton.2 rfl))
    have a2 : ¬ s ∈ L := fun q => hns (List.mem_append_left _ q)
    rw [e8, if_neg a1]; exact x7 s hs a2
  · rw [ll] at h1
    have hk' : k' < L.length := by omega
    rw [getD_app hk', f.I (by omega)]
    exact x8 k' g' hk' h2 h3 h4
theorem rsP_l {a k : Nat} (q : lP a k) : rsP a k := Or.inl q
theorem far_v {z : Int} {k l : Nat} (h0 : 0 ≤ z) (h1 : z ≤ (k : Int)) (hk : k < l) : 0 ≤ z + 1 ∧ z + 1 ≤ (l : Int) := by omega
set_option maxHeartbeats 1000000 in
theorem rs_inner {d : Nat} {Q : Option PV → Hp → Prop} {h0 : Hp} {A : Nat → Int} {set k : Nat} {L0 : List Nat} (po : poolOk A) (so : stOk (stA A)) (hset : set < 64) (hk0 : k < L0.length) (ok0 : lsOk L0)
    (cont : ∀ h' L' x5, Fp rsP h0 h' → RW h' A set L' k (A 2).toNat → L' = visG (nxt A (stA A)) set (L0.getD k 0) (A 2).toNat L0 → WP (d + 3) mX12_laysStands 194 [some (.inr (.inr 294)), some (.inl (set : Int)), some (.inl (k : Int)), some (.inl (L0.getD k 0 : Int)), some (.inl (((A 2).toNat : Nat) : Int)), x5] [] h' Q) :
    ∀ (n g : Nat) (h : Hp) (L : List Nat) (x5 : Option PV), g + n = (A 2).toNat → Fp rsP h0 h → RW h A set L k g → L = visG (nxt A (stA A)) set (L0.getD k 0) g L0 → WP (d + 3) mX12_laysStands 71 [some (.inr (.inr 294)), some (.inl (set : Int)), some (.inl (k : Int)), some (.inl (L0.getD k 0 : Int)), some (.inl (g : Int)), x5] [] h Q := by
  have g0 := po.2.2.1
  have g6 := po.2.2.2.1
  have hs := getD_lt ok0 hk0
  intro n
  induction n with
  | zero =>
    intro g h L x5 hg f x hL
    have e : (g : Int) = A 2 := by omega
    have e' : g = (A 2).toNat := by omega
    have m := x.1
    rw [rX12_laysStands_71]
    simp only [rX12_laysStands_73, rX12_laysStands_74, rX12_laysStands_77, rX12_laysStands_78, rX12_laysStands_79, Md_K280 m, Md_R281 m, Md_K281 m, Md_R282 m, Md_K282 m, Md_R283 m, Md_K283 m, Md_R284 m, Md_K284 m, Md_R285 m, Md_K285 m, Md_R286 m, Md_K286 m, Md_R287 m, Md_K287 m, Md_R288 m, Md_K288 m, Md_R289 m, Md_K289 m, Md_R290 m, Md_K290 m, Md_R291 m, Md_K291 m, Md_R292 m, Md_K292 m, Md_R293 m, Md_K293 m, Md_R294 m, Md_K294 m, Md_R295 m, Md_K295 m, Md_R296 m, Md_K296 m, Md_R297 m, Md_K297 m, Md_R298 m, Md_K298 m, Md_R299 m, Md_K299 m, x.2.1 2 (by omega), e, Int.lt_irrefl, Int.toNat_natCast, Int.natCast_nonneg, true_and, and_true, and_self, if_true, if_false, or_true, true_or, or_false, false_or, ne_eq, not_true_eq_false, not_false_eq_true, Nat.reduceLeDiff, Nat.reduceEqDiff, Nat.reduceLT, Nat.reduceAdd, Nat.reduceMul, Nat.reduceSub, Int.reduceLT, Int.reduceLE, Int.reduceEq, Int.reduceToNat, Int.reduceAdd, Int.reduceSub, Int.reduceMul, Int.reduceNeg, Int.cast_ofNat_Int, false_and, and_false]
    rw [e'] at x hL
    have e9 : A 2 = (((A 2).toNat : Nat) : Int) := by omega
    rw [e9]
    exact cont h L x5 f x hL
  | succ n ih =>
    intro g h L x5 hg f x hL
    have l1 : (g : Int) < A 2 := by omega
    have gg : g < 6 := by omega
    have l2 : w32 ((g : Int) + 1) = ((g + 1 : Nat) : Int) := w32_s (by omega)
    have hn' : g + 1 + n = (A 2).toNat := by omega
    obtain ⟨vl, vg⟩ := visG_len (nxt A (stA A)) set (L0.getD k 0) g L0
    rw [← hL] at vl vg
    have hk : k < L.length := by omega
    have ek : L.getD k 0 = L0.getD k 0 := vg k hk0
    have llen := x.2.2.2.1.len
    have k6 : k < 6400 := by omega
    have pl : ∀ p, p < L.length → p < 6400 := fun p hp => by omega
    have nk : ∀ k' g', (k' < k ∨ (k' = k ∧ g' < g + 1)) → g' ≠ g → (k' < k ∨ (k' = k ∧ g' < g)) := fun k' g' h1 h2 => by omega
    obtain ⟨i1, i2, i3, i4, i5, i6, i7, i8⟩ := ix6 gg hs
    have m := x.1
    have a2 := x.2.1 2 (by omega)
    rw [rX12_laysStands_71]
    simp only [rX12_laysStands_73, rX12_laysStands_74, rX12_laysStands_77, rX12_laysStands_78, rX12_laysStands_79, rX12_laysStands_82, rX12_laysStands_83, rX12_laysStands_84, rX12_laysStands_86, rX12_laysStands_89, Md_K280 m, Md_R281 m, Md_K281 m, Md_R282 m, Md_K282 m, Md_R283 m, Md_K283 m, Md_R284 m, Md_K284 m, Md_R285 m, Md_K285 m, Md_R286 m, Md_K286 m, Md_R287 m, Md_K287 m, Md_R288 m, Md_K288 m, Md_R289 m, Md_K289 m, Md_R290 m, Md_K290 m, Md_R291 m, Md_K291 m, Md_R292 m, Md_K292 m, Md_R293 m, Md_K293 m, Md_R294 m, Md_K294 m, Md_R295 m, Md_K295 m, Md_R296 m, Md_K296 m, Md_R297 m, Md_K297 m, Md_R298 m, Md_K298 m, Md_R299 m, Md_K299 m, a2, l1, S_isIn hset gg, psh_some, Int.toNat_natCast, Int.natCast_nonneg, true_and, and_true, and_self, if_true, if_false, or_true, true_or, or_false, false_or, ne_eq, not_true_eq_false, not_false_eq_true, Nat.reduceLeDiff, Nat.reduceEqDiff, Nat.reduceLT, Nat.reduceAdd, Nat.reduceMul, Nat.reduceSub, Int.reduceLT, Int.reduceLE, Int.reduceEq, Int.reduceToNat, Int.reduceAdd, Int.reduceSub, Int.reduceMul, Int.reduceNeg, Int.cast_ofNat_Int, false_and, and_false]
    by_cases hb : set.testBit g = true
    · rw [if_pos hb, if_neg (by decide)]
      simp only [rX12_laysStands_95, rX12_laysStands_96, rX12_laysStands_98, rX12_laysStands_99, rX12_laysStands_101, rX12_laysStands_102, rX12_laysStands_103, rX12_laysStands_105, rX12_laysStands_106, Md_K280 m, Md_R281 m, Md_K281 m, Md_R282 m, Md_K282 m, Md_R283 m, Md_K283 m, Md_R284 m, Md_K284 m, Md_R285 m, Md_K285 m, Md_R286 m, Md_K286 m, Md_R287 m, Md_K287 m, Md_R288 m, Md_K288 m, Md_R289 m, Md_K289 m, Md_R290 m, Md_K290 m, Md_R291 m, Md_K291 m, Md_R292 m, Md_K292 m, Md_R293 m, Md_K293 m, Md_R294 m, Md_K294 m, Md_R295 m, Md_K295 m, Md_R296 m, Md_K296 m, Md_R297 m, Md_K297 m, Md_R298 m, Md_K298 m, Md_R299 m, Md_K299 m, i5, i6, Int.toNat_natCast, Int.natCast_nonneg, true_and, and_true, and_self, if_true, if_false, or_true, true_or, or_false, false_or, ne_eq, not_true_eq_false, not_false_eq_true, Nat.reduceLeDiff, Nat.reduceEqDiff, Nat.reduceLT, Nat.reduceAdd, Nat.reduceMul, Nat.reduceSub, Int.reduceLT, Int.reduceLE, Int.reduceEq, Int.reduceToNat, Int.reduceAdd, Int.reduceSub, Int.reduceMul, Int.reduceNeg, Int.cast_ofNat_Int, false_and, and_false]
      refine S_laysDive (LdC_s m x.2.1 po so gg hs) ?_
      intro h1 f1 a1 a2' a3
      have x1 := x.lp f1
      have m1 := x1.1
      have pin := dPst_in (p := pdA A) (br := A (35 + g)) (bo := A (41 + g)) (g := g) (th := L0.getD k 0 / 100) (bd := L0.getD k 0 % 100)
      have tin := dThr_in po.2.2.2.2.1 (br := A (35 + g)) (bo := A (41 + g)) (g := g) (th := L0.getD k 0 / 100) (bd := L0.getD k 0 % 100) i8
      obtain ⟨q, hq'⟩ := Int.eq_ofNat_of_zero_le pin.1
      have q99 : q ≤ 99 := le99 hq' pin.2
      have nx := nxt_ref hq'
      rw [hq'] at a3
      have xlt : nxt A (stA A) g (L0.getD k 0) < 6400 := nxt_lt po.2.2.2.2.1 hs
      have xlt' : (nxt A (stA A) g (L0.getD k 0) : Int) < 6400 := Int.ofNat_lt.2 xlt
      have x2 := x1.put hk gg g6
      rw [ek] at x2
      have hL' : visG (nxt A (stA A)) set (L0.getD k 0) (g + 1) L0 = vis L (nxt A (stA A) g (L0.getD k 0)) := by
        show (if set.testBit g = true then vis (visG (nxt A (stA A)) set (L0.getD k 0) g L0) (nxt A (stA A) g (L0.getD k 0)) else _) = _
        rw [if_pos hb, ← hL]
      have f2 : Fp rsP h0 (wI h1 304 (6 * L0.getD k 0 + g) (nxt A (stA A) g (L0.getD k 0) : Int)) := (f.trans (f1.mono (fun a k q => rsP_l q))).wI (Or.inr (Or.inr (Or.inr (Or.inl rfl)))) _
      simp only [psh_none, rX12_laysStands_109, rX12_laysStands_110, rX12_laysStands_113, rX12_laysStands_114, rX12_laysStands_117, rX12_laysStands_120, rX12_laysStands_122, rX12_laysStands_123, rX12_laysStands_126, rX12_laysStands_128, rX12_laysStands_129, rX12_laysStands_130, rX12_laysStands_132, rX12_laysStands_133, rX12_laysStands_135, Md_K280 m1, Md_R281 m1, Md_K281 m1, Md_R282 m1, Md_K282 m1, Md_R283 m1, Md_K283 m1, Md_R284 m1, Md_K284 m1, Md_R285 m1, Md_K285 m1, Md_R286 m1, Md_K286 m1, Md_R287 m1, Md_K287 m1, Md_R288 m1, Md_K288 m1, Md_R289 m1, Md_K289 m1, Md_R290 m1, Md_K290 m1, Md_R291 m1, Md_K291 m1, Md_R292 m1, Md_K292 m1, Md_R293 m1, Md_K293 m1, Md_R294 m1, Md_K294 m1, Md_R295 m1, Md_K295 m1, Md_R296 m1, Md_K296 m1, Md_R297 m1, Md_K297 m1, Md_R298 m1, Md_K298 m1, Md_R299 m1, Md_K299 m1, a2', a3, S_standOf q99 tin, ← nx, psh_some, i1, i2, i3, i4, Int.toNat_natCast, Int.natCast_nonneg, true_and, and_true, and_self, if_true, if_false, or_true, true_or, or_false, false_or, ne_eq, not_true_eq_false, not_false_eq_true, Nat.reduceLeDiff, Nat.reduceEqDiff, Nat.reduceLT, Nat.reduceAdd, Nat.reduceMul, Nat.reduceSub, Int.reduceLT, Int.reduceLE, Int.reduceEq, Int.reduceToNat, Int.reduceAdd, Int.reduceSub, Int.reduceMul, Int.reduceNeg, Int.cast_ofNat_Int, false_and, and_false]
      generalize wI h1 304 (6 * L0.getD k 0 + g) (nxt A (stA A) g (L0.getD k 0) : Int) = h2 at x2 f2 ⊢
      have m2 := x2.1
      simp only [rX12_laysStands_136, rX12_laysStands_137, rX12_laysStands_140, rX12_laysStands_142, rX12_laysStands_143, rX12_laysStands_146, Md_K280 m2, Md_R281 m2, Md_K281 m2, Md_R282 m2, Md_K282 m2, Md_R283 m2, Md_K283 m2, Md_R284 m2, Md_K284 m2, Md_R285 m2, Md_K285 m2, Md_R286 m2, Md_K286 m2, Md_R287 m2, Md_K287 m2, Md_R288 m2, Md_K288 m2, Md_R289 m2, Md_K289 m2, Md_R290 m2, Md_K290 m2, Md_R291 m2, Md_K291 m2, Md_R292 m2, Md_K292 m2, Md_R293 m2, Md_K293 m2, Md_R294 m2, Md_K294 m2, Md_R295 m2, Md_K295 m2, Md_R296 m2, Md_K296 m2, Md_R297 m2, Md_K297 m2, Md_R298 m2, Md_K298 m2, Md_R299 m2, Md_K299 m2, xlt', Int.toNat_natCast, Int.natCast_nonneg, true_and, and_true, and_self, if_true, if_false, or_true, true_or, or_false, false_or, ne_eq, not_true_eq_false, not_false_eq_true, Nat.reduceLeDiff, Nat.reduceEqDiff, Nat.reduceLT, Nat.reduceAdd, Nat.reduceMul, Nat.reduceSub, Int.reduceLT, Int.reduceLE, Int.reduceEq, Int.reduceToNat, Int.reduceAdd, Int.reduceSub, Int.reduceMul, Int.reduceNeg, Int.cast_ofNat_Int, false_and, and_false]
      by_cases hin : nxt A (stA A) g (L0.getD k 0) ∈ L
      · obtain ⟨p, hp, ep⟩ := mem_getD hin
        have b := (x2.2.2.2.2.2.1 p hp).2
        rw [ep] at b
        rw [if_pos (far_lt b (pl p hp))]
        simp only [rX12_laysStands_149, rX12_laysStands_188, rX12_laysStands_191, l2]
        exact ih (g + 1) h2 L _ hn' f2 x2 (by rw [hL', vis_in hin])
      · have e8 := x2.2.2.2.2.2.2.1 _ xlt hin
        rw [e8, if_neg (by decide)]
        obtain ⟨b0, b1⟩ := x2.2.2.2.2.2.1 k hk
        rw [ek] at b0 b1
        have fn := far_n b0 b1 k6
        have llt := x2.2.2.2.1.lt xlt hin
        have ll' : (L.length : Int) < 6400 := Int.ofNat_lt.2 llt
        have ls : w32 ((L.length : Int) + 1) = ((L.length + 1 : Nat) : Int) := w32_s (Nat.lt_trans llt (by decide))
        have z27 := x2.2.2.1
        simp only [rX12_laysStands_152, rX12_laysStands_153, rX12_laysStands_156, rX12_laysStands_158, rX12_laysStands_159, rX12_laysStands_162, rX12_laysStands_163, rX12_laysStands_164, rX12_laysStands_165, rX12_laysStands_166, rX12_laysStands_167, rX12_laysStands_168, rX12_laysStands_171, rX12_laysStands_172, rX12_laysStands_175, rX12_laysStands_177, rX12_laysStands_178, rX12_laysStands_179, rX12_laysStands_180, rX12_laysStands_183, rX12_laysStands_184, rX12_laysStands_185, hN_wI, hN_wJ, hN_wR, hS_wI, hS_wJ, hS_wR, hK_wI, hK_wJ, hK_wR, hI_wI, hI_wJ, hI_wR, hJ_wI, hJ_wJ, hJ_wR, hR_wI, hR_wJ, hR_wR, hN_nw, hS_nw, hK_nw, hI_nw, hJ_nw, hR_nw, psh_some, psh_none, Md_K280 m2, Md_R281 m2, Md_K281 m2, Md_R282 m2, Md_K282 m2, Md_R283 m2, Md_K283 m2, Md_R284 m2, Md_K284 m2, Md_R285 m2, Md_K285 m2, Md_R286 m2, Md_K286 m2, Md_R287 m2, Md_K287 m2, Md_R288 m2, Md_K288 m2, Md_R289 m2, Md_K289 m2, Md_R290 m2, Md_K290 m2, Md_R291 m2, Md_K291 m2, Md_R292 m2, Md_K292 m2, Md_R293 m2, Md_K293 m2, Md_R294 m2, Md_K294 m2, Md_R295 m2, Md_K295 m2, Md_R296 m2, Md_K296 m2, Md_R297 m2, Md_K297 m2, Md_R298 m2, Md_K298 m2, Md_R299 m2, Md_K299 m2, xlt', i4, fn, z27, ll', ls, Int.toNat_natCast, Int.natCast_nonneg, true_and, and_true, and_self, if_true, if_false, or_true, true_or, or_false, false_or, ne_eq, not_true_eq_false, not_false_eq_true, Nat.reduceLeDiff, Nat.reduceEqDiff, Nat.reduceLT, Nat.reduceAdd, Nat.reduceMul, Nat.reduceSub, Int.reduceLT, Int.reduceLE, Int.reduceEq, Int.reduceToNat, Int.reduceAdd, Int.reduceSub, Int.reduceMul, Int.reduceNeg, Int.cast_ofNat_Int, false_and, and_false]
        simp only [rX12_laysStands_188, rX12_laysStands_191, l2]
        have x3 := x2.new hk xlt hin (v := hI h2 302 (L0.getD k 0) + 1) (far_v b0 b1 hk).1 (far_v b0 b1 hk).2
        refine ih (g + 1) _ _ _ hn' ?_ x3 (by rw [hL', vis_out hin])
        exact ((f2.wI (Or.inr (Or.inl rfl)) _).wI (Or.inr (Or.inr (Or.inl rfl))) _).wI (Or.inr (Or.inr (Or.inr (Or.inr ⟨rfl, rfl⟩)))) _
    · rw [if_neg hb, if_pos (by trivial)]
      simp only [rX12_laysStands_92, rX12_laysStands_188, rX12_laysStands_191, l2]
      refine ih (g + 1) h L _ hn' f ?_ ?_
      · obtain ⟨y1, y2, y3, y4, y5, y6, y7, y8⟩ := x
        refine ⟨y1, y2, y3, y4, y5, y6, y7, fun k' g' h1' h2 h4 h5 => ?_⟩
        have : ¬ (g' = g) := fun q => hb (by rw [← q]; exact h4)
        exact y8 k' g' h1' h2 h4 (nk k' g' h5 this)
      · show L = (if set.testBit g = true then _ else visG (nxt A (stA A)) set (L0.getD k 0) g L0)
        rw [if_neg hb]; exact hL
set_option maxHeartbeats 1000000 in
theorem rs_outer {d : Nat} {Q : Option PV → Hp → Prop} {h0 : Hp} {A : Nat → Int} {set : Nat} {R : List Nat} (po : poolOk A) (so : stOk (stA A)) (hset : set < 64)
    (cont : ∀ h', Fp rsP h0 h' → RW h' A set R R.length 0 → Q none h') :
    ∀ (n k : Nat) (h : Hp) (L : List Nat) (x3 x4 x5 : Option PV), k + n = 6400 → k ≤ L.length → Fp rsP h0 h → RW h A set L k 0 → bfs (nxt A (stA A)) set (A 2).toNat n k L = R → WP (d + 3) mX12_laysStands 53 [some (.inr (.inr 294)), some (.inl (set : Int)), some (.inl (k : Int)), x3, x4, x5] [] h Q := by
  have fin : ∀ (k : Nat) (h : Hp) (x3 x4 x5 : Option PV), R.length = k → Fp rsP h0 h → RW h A set R k 0 → WP (d + 3) mX12_laysStands 53 [some (.inr (.inr 294)), some (.inl (set : Int)), some (.inl (k : Int)), x3, x4, x5] [] h Q := by
    intro k h x3 x4 x5 e f x
    subst e
    have m := x.1
    rw [rX12_laysStands_53]
    simp only [rX12_laysStands_54, rX12_laysStands_55, rX12_laysStands_58, rX12_laysStands_200, Md_K280 m, Md_R281 m, Md_K281 m, Md_R282 m, Md_K282 m, Md_R283 m, Md_K283 m, Md_R284 m, Md_K284 m, Md_R285 m, Md_K285 m, Md_R286 m, Md_K286 m, Md_R287 m, Md_K287 m, Md_R288 m, Md_K288 m, Md_R289 m, Md_K289 m, Md_R290 m, Md_K290 m, Md_R291 m, Md_K291 m, Md_R292 m, Md_K292 m, Md_R293 m, Md_K293 m, Md_R294 m, Md_K294 m, Md_R295 m, Md_K295 m, Md_R296 m, Md_K296 m, Md_R297 m, Md_K297 m, Md_R298 m, Md_K298 m, Md_R299 m, Md_K299 m, x.2.2.1, Int.lt_irrefl, Int.toNat_natCast, Int.natCast_nonneg, true_and, and_true, and_self, if_true, if_false, or_true, true_or, or_false, false_or, ne_eq, not_true_eq_false, not_false_eq_true, Nat.reduceLeDiff, Nat.reduceEqDiff, Nat.reduceLT, Nat.reduceAdd, Nat.reduceMul, Nat.reduceSub, Int.reduceLT, Int.reduceLE, Int.reduceEq, Int.reduceToNat, Int.reduceAdd, Int.reduceSub, Int.reduceMul, Int.reduceNeg, Int.cast_ofNat_Int, false_and, and_false]
    exact cont h f x
  intro n
  induction n with
  | zero =>
    intro k h L x3 x4 x5 hk hkl f x hR
    have ll := x.2.2.2.1.len
    have hR' : L = R := hR
    subst hR'
    exact fin k h _ _ _ (by omega) f x
  | succ n ih =>
    intro k h L x3 x4 x5 hk hkl f x hR
    unfold bfs at hR
    by_cases hkL : k < L.length
    · rw [if_pos hkL] at hR
      have c1 : (k : Int) < (L.length : Int) := by omega
      have c2 : (k : Int) < 6400 := by omega
      have l2 : w32 ((k : Int) + 1) = ((k + 1 : Nat) : Int) := w32_s (by omega)
      have hn' : k + 1 + n = 6400 := by omega
      have m := x.1
      have e5 := x.2.2.2.2.1 k hkL
      rw [rX12_laysStands_53]
      simp only [rX12_laysStands_54, rX12_laysStands_55, rX12_laysStands_58, rX12_laysStands_61, rX12_laysStands_62, rX12_laysStands_65, rX12_laysStands_66, rX12_laysStands_67, rX12_laysStands_68, rX12_laysStands_69, Md_K280 m, Md_R281 m, Md_K281 m, Md_R282 m, Md_K282 m, Md_R283 m, Md_K283 m, Md_R284 m, Md_K284 m, Md_R285 m, Md_K285 m, Md_R286 m, Md_K286 m, Md_R287 m, Md_K287 m, Md_R288 m, Md_K288 m, Md_R289 m, Md_K289 m, Md_R290 m, Md_K290 m, Md_R291 m, Md_K291 m, Md_R292 m, Md_K292 m, Md_R293 m, Md_K293 m, Md_R294 m, Md_K294 m, Md_R295 m, Md_K295 m, Md_R296 m, Md_K296 m, Md_R297 m, Md_K297 m, Md_R298 m, Md_K298 m, Md_R299 m, Md_K299 m, x.2.2.1, c1, c2, e5, Int.toNat_natCast, Int.natCast_nonneg, true_and, and_true, and_self, if_true, if_false, or_true, true_or, or_false, false_or, ne_eq, not_true_eq_false, not_false_eq_true, Nat.reduceLeDiff, Nat.reduceEqDiff, Nat.reduceLT, Nat.reduceAdd, Nat.reduceMul, Nat.reduceSub, Int.reduceLT, Int.reduceLE, Int.reduceEq, Int.reduceToNat, Int.reduceAdd, Int.reduceSub, Int.reduceMul, Int.reduceNeg, Int.cast_ofNat_Int, false_and, and_false]
      refine rs_inner (L0 := L) po so hset hkL x.2.2.2.1 ?_ (A 2).toNat 0 h L _ (Nat.zero_add _) f x rfl
      intro h' L' y5 f' x' hL'
      simp only [rX12_laysStands_194, rX12_laysStands_197, l2]
      have vl := (visG_len (nxt A (stA A)) set (L.getD k 0) (A 2).toNat L).1
      rw [← hL'] at vl
      refine ih (k + 1) h' L' _ _ _ hn' (by omega) f' ?_ (by rw [hL']; exact hR)
      obtain ⟨y1, y2, y3, y4, y5, y6, y7, y8⟩ := x'
      have g0 := po.2.2.1
      exact ⟨y1, y2, y3, y4, y5, y6, y7, fun k' g' h1' h2 h4 h5 => y8 k' g' h1' h2 h4 (by omega)⟩
    · rw [if_neg hkL] at hR
      subst hR
      exact fin k h _ _ _ (by omega) f x
/-- what the reference holds behind it -/
def RLs (h : Hp) (A : Nat → Int) (set : Nat) : Prop := RW h A set (Lst A (stA A) set) (Lst A (stA A) set).length 0
set_option maxHeartbeats 1000000 in
theorem S_laysStands {d : Nat} {Q : Option PV → Hp → Prop} {h : Hp} {A : Nat → Int} (x : RpF h A) (so : stOk (stA A)) {set : Nat} (hset : set < 64)
    (k : ∀ h', Fp rsP h h' → RLs h' A set → Q none h') : WP (d + 3) mX12_laysStands 0 [some (.inr (.inr 294)), some (.inl (set : Int)), none, none, none, none] [] h Q := by
  obtain ⟨m, a, po⟩ := id x
  simp only [rX12_laysStands_0, rX12_laysStands_1]
  refine wp_for (fun i h' => WP (d + 3) mX12_laysStands 2 [some (.inr (.inr 294)), some (.inl (set : Int)), some (.inl (i : Int)), none, none, none] [] h' Q) (fun i h' => Fp (fun a _ => a = 302) h h' ∧ ∀ j, j < i → hI h' 302 j = 268435456) 6400 ?_ ?_ 0 h (by omega) ⟨Fp.refl _ h, fun j hj => by omega⟩
  · rintro i h' hi ⟨f, e⟩ kk
    have m' := m.fr f
    rw [rX12_laysStands_2]
    simp only [rX12_laysStands_3, rX12_laysStands_6, rX12_laysStands_9, rX12_laysStands_10, rX12_laysStands_13, rX12_laysStands_14, rX12_laysStands_17, rX12_laysStands_18, rX12_laysStands_21, Md_K280 m', Md_R281 m', Md_K281 m', Md_R282 m', Md_K282 m', Md_R283 m', Md_K283 m', Md_R284 m', Md_K284 m', Md_R285 m', Md_K285 m', Md_R286 m', Md_K286 m', Md_R287 m', Md_K287 m', Md_R288 m', Md_K288 m', Md_R289 m', Md_K289 m', Md_R290 m', Md_K290 m', Md_R291 m', Md_K291 m', Md_R292 m', Md_K292 m', Md_R293 m', Md_K293 m', Md_R294 m', Md_K294 m', Md_R295 m', Md_K295 m', Md_R296 m', Md_K296 m', Md_R297 m', Md_K297 m', Md_R298 m', Md_K298 m', Md_R299 m', Md_K299 m', Int.toNat_natCast, Int.natCast_nonneg, true_and, and_true, and_self, if_true, if_false, or_true, true_or, or_false, false_or, ne_eq, not_true_eq_false, not_false_eq_true, Nat.reduceLeDiff, Nat.reduceEqDiff, Nat.reduceLT, Nat.reduceAdd, Nat.reduceMul, Nat.reduceSub, Int.reduceLT, Int.reduceLE, Int.reduceEq, Int.reduceToNat, Int.reduceAdd, Int.reduceSub, Int.reduceMul, Int.reduceNeg, Int.cast_ofNat_Int, false_and, and_false, show (i : Int) < 6400 by omega, w32_s (i := i) (by omega)]
    refine kk _ ⟨f.wI (by exact rfl) _, fun j hj => ?_⟩
    rw [hI_wI]
    by_cases hji : j = i
    · rw [if_pos ⟨rfl, hji⟩]
    · rw [if_neg (fun q => hji q.2)]; exact e j (by omega)
  · rintro h' ⟨f, e⟩
    have m' := m.fr f
    have a' := a.fr f (fun k => by decide)
    have sl := stt_lt so
    have sl' : (stt (stA A) : Int) < 6400 := Int.ofNat_lt.2 sl
    rw [rX12_laysStands_2]
    simp only [rX12_laysStands_3, rX12_laysStands_6, rX12_laysStands_24, rX12_laysStands_25, rX12_laysStands_28, rX12_laysStands_29, rX12_laysStands_30, Md_K280 m', Md_R281 m', Md_K281 m', Md_R282 m', Md_K282 m', Md_R283 m', Md_K283 m', Md_R284 m', Md_K284 m', Md_R285 m', Md_K285 m', Md_R286 m', Md_K286 m', Md_R287 m', Md_K287 m', Md_R288 m', Md_K288 m', Md_R289 m', Md_K289 m', Md_R290 m', Md_K290 m', Md_R291 m', Md_K291 m', Md_R292 m', Md_K292 m', Md_R293 m', Md_K293 m', Md_R294 m', Md_K294 m', Md_R295 m', Md_K295 m', Md_R296 m', Md_K296 m', Md_R297 m', Md_K297 m', Md_R298 m', Md_K298 m', Md_R299 m', Md_K299 m', Int.toNat_natCast, Int.natCast_nonneg, true_and, and_true, and_self, if_true, if_false, or_true, true_or, or_false, false_or, ne_eq, not_true_eq_false, not_false_eq_true, Nat.reduceLeDiff, Nat.reduceEqDiff, Nat.reduceLT, Nat.reduceAdd, Nat.reduceMul, Nat.reduceSub, Int.reduceLT, Int.reduceLE, Int.reduceEq, Int.reduceToNat, Int.reduceAdd, Int.reduceSub, Int.reduceMul, Int.reduceNeg, Int.cast_ofNat_Int, false_and, and_false, S_standNow ⟨m', a', po⟩ so, psh_some]
    simp only [rX12_laysStands_33, rX12_laysStands_34, rX12_laysStands_35, rX12_laysStands_38, rX12_laysStands_39, rX12_laysStands_42, rX12_laysStands_43, rX12_laysStands_44, rX12_laysStands_45, rX12_laysStands_46, rX12_laysStands_47, rX12_laysStands_48, rX12_laysStands_51, rX12_laysStands_52, hN_wI, hN_wJ, hN_wR, hS_wI, hS_wJ, hS_wR, hK_wI, hK_wJ, hK_wR, hI_wI, hI_wJ, hI_wR, hJ_wI, hJ_wJ, hJ_wR, hR_wI, hR_wJ, hR_wR, hN_nw, hS_nw, hK_nw, hI_nw, hJ_nw, hR_nw, psh_some, psh_none, Md_K280 m', Md_R281 m', Md_K281 m', Md_R282 m', Md_K282 m', Md_R283 m', Md_K283 m', Md_R284 m', Md_K284 m', Md_R285 m', Md_K285 m', Md_R286 m', Md_K286 m', Md_R287 m', Md_K287 m', Md_R288 m', Md_K288 m', Md_R289 m', Md_K289 m', Md_R290 m', Md_K290 m', Md_R291 m', Md_K291 m', Md_R292 m', Md_K292 m', Md_R293 m', Md_K293 m', Md_R294 m', Md_K294 m', Md_R295 m', Md_K295 m', Md_R296 m', Md_K296 m', Md_R297 m', Md_K297 m', Md_R298 m', Md_K298 m', Md_R299 m', Md_K299 m', Int.toNat_natCast, Int.natCast_nonneg, true_and, and_true, and_self, if_true, if_false, or_true, true_or, or_false, false_or, ne_eq, not_true_eq_false, not_false_eq_true, Nat.reduceLeDiff, Nat.reduceEqDiff, Nat.reduceLT, Nat.reduceAdd, Nat.reduceMul, Nat.reduceSub, Int.reduceLT, Int.reduceLE, Int.reduceEq, Int.reduceToNat, Int.reduceAdd, Int.reduceSub, Int.reduceMul, Int.reduceNeg, Int.cast_ofNat_Int, false_and, and_false, sl']
    have f3 : Fp rsP h (wI (wI (wI h' 303 0 (stt (stA A) : Int)) 302 (stt (stA A)) 0) 294 27 1) := (((f.mono (P' := rsP) (fun a k q => Or.inr (Or.inl q))).wI (Or.inr (Or.inr (Or.inl rfl))) _).wI (Or.inr (Or.inl rfl)) _).wI (Or.inr (Or.inr (Or.inr (Or.inr ⟨rfl, rfl⟩)))) _
    refine rs_outer (R := Lst A (stA A) set) po so hset (fun h2 f2 x2 => k h2 f2 x2) 6400 0 _ [stt (stA A)] _ _ _ (by omega) (by simp) f3 ?_ rfl
    refine ⟨m.fr f3, a.fr f3 (fun k => by unfold rsP lP; omega), by rw [hI_wI, if_pos ⟨rfl, rfl⟩]; rfl, ls_one sl, fun p hp => ?_, fun p hp => ?_, fun s hs hn => ?_, fun k' g' _ _ _ q => by omega⟩
    · have : p = 0 := by simp at hp; exact hp
      subst this
      rw [hI_wI, if_neg (by omega), hI_wI, if_neg (by omega), hI_wI, if_pos ⟨rfl, rfl⟩]; rfl
    · have : p = 0 := by simp at hp; exact hp
      subst this
      rw [hI_wI, if_neg (by omega), hI_wI, if_pos ⟨rfl, rfl⟩]
      exact ⟨Int.le_refl _, Int.le_refl _⟩
    · have hne : s ≠ stt (stA A) := fun q => hn (by rw [q]; exact List.mem_singleton.2 rfl)
      rw [hI_wI, if_neg (by omega), hI_wI, if_neg (fun q => hne q.2), hI_wI, if_neg (by omega)]
      exact e s hs
