/-! the reference's rows, posted -/
theorem RW.fr {P : Nat → Nat → Prop} {h h' : Hp} {A : Nat → Int} {set : Nat} {L : List Nat} {k g : Nat} (f : Fp P h h') (n : ∀ a k, a = 295 ∨ a = 302 ∨ a = 303 ∨ a = 304 ∨ (a = 294 ∧ k = 27) → ¬ P a k) (x : RW h A set L k g) : RW h' A set L k g := by
  obtain ⟨x1, x2, x3, x4, x5, x6, x7, x8⟩ := x
  refine ⟨x1.fr f, x2.fr f (fun k => n _ _ (by omega)), by rw [f.I (n _ _ (by omega))]; exact x3, x4, fun p hp => by rw [f.I (n _ _ (by omega))]; exact x5 p hp, fun p hp => by rw [f.I (n _ _ (by omega))]; exact x6 p hp, fun s hs hn => by rw [f.I (n _ _ (by omega))]; exact x7 s hs hn, fun k' g' h1 h2 h3 h4 => by rw [f.I (n _ _ (by omega))]; exact x8 k' g' h1 h2 h3 h4⟩
def mP (a _k : Nat) : Prop := a = 307 ∨ a = 308
theorem mP_no {a k : Nat} (h : a = 295 ∨ a = 302 ∨ a = 303 ∨ a = 304 ∨ (a = 294 ∧ k = 27)) : ¬ mP a k := by unfold mP; omega
/-- what the reference reads of all states -/
def RQ (h : Hp) (A : Nat → Int) (f : Nat → Nat → Nat) (set : Nat) (L : List Nat) : Prop := MdOk h ∧ AtA h A ∧ hI h 294 27 = (L.length : Int) ∧ lsOk L ∧ (∀ p, p < L.length → hI h 303 p = (L.getD p 0 : Int)) ∧ (∀ p g : Nat, p < L.length → (g : Int) < A 2 → set.testBit g = true → hI h 304 (6 * L.getD p 0 + g) = (f g (L.getD p 0) : Int) ∧ f g (L.getD p 0) ∈ L) ∧ poolOk A
theorem RQ.fr {P : Nat → Nat → Prop} {h h' : Hp} {A : Nat → Int} {f : Nat → Nat → Nat} {set : Nat} {L : List Nat} (fp : Fp P h h') (n : ∀ a k, a = 295 ∨ a = 302 ∨ a = 303 ∨ a = 304 ∨ (a = 294 ∧ k = 27) → ¬ P a k) (x : RQ h A f set L) : RQ h' A f set L := by
  obtain ⟨x1, x2, x3, x4, x5, x6, x7⟩ := x
  exact ⟨x1.fr fp, x2.fr fp (fun k => n _ _ (by omega)), by rw [fp.I (n _ _ (by omega))]; exact x3, x4, fun p hp => by rw [fp.I (n _ _ (by omega))]; exact x5 p hp, fun p g h1 h2 h3 => by rw [fp.I (n _ _ (by omega))]; exact x6 p g h1 h2 h3, x7⟩
theorem RLs.rq {h : Hp} {A : Nat → Int} {set : Nat} (x : RLs h A set) (po : poolOk A) (so : stOk (stA A)) (hset : set < 2 ^ (A 2).toNat) : RQ h A (nxt A (stA A)) set (Lst A (stA A) set) := by
  obtain ⟨x1, x2, x3, x4, x5, x6, x7, x8⟩ := x
  refine ⟨x1, x2, x3, x4, x5, fun p g h1 h2 h3 => ⟨x8 p g h1 h2 h3 (Or.inl h1), ?_⟩, po⟩
  obtain ⟨ah, by', dv, t⟩ := Lst_tree po so set
  have g0 := po.2.2.1
  obtain ⟨q, hq, e, _⟩ := t.2.2.2 p g h1 (by omega) h3 (Or.inl h1)
  rw [← e]
  exact getD_mem hq
def MV (h : Hp) (a : Nat) (L : List Nat) (D : Nat → Nat) : Prop := ∀ p, p < L.length → hJ h a (L.getD p 0) = w64 (D (L.getD p 0) : Int)
def MZ (h : Hp) (a : Nat) (L : List Nat) : Prop := ∀ p, p < L.length → hJ h a (L.getD p 0) = 0
theorem S_beginsMany {d : Nat} {Q : Option PV → Hp → Prop} {h : Hp} {A : Nat → Int} (x : RpF h A) (so : stOk (stA A)) {L : List Nat} (ok : lsOk L) (l0 : L.getD 0 0 = stt (stA A))
    (k : ∀ h', Fp mP h h' → MV h' 307 L (fun s => if s = L.getD 0 0 then 1 else 0) → MZ h' 308 L → Q none h') : WP (d + 2) mX12_beginsMany 0 [some (.inr (.inr 294)), none] [] h Q := by
  obtain ⟨m, a, po⟩ := id x
  simp only [rX12_beginsMany_0, rX12_beginsMany_1]
  refine wp_for (fun i e => WP (d + 2) mX12_beginsMany 2 [some (.inr (.inr 294)), some (.inl (i : Int))] [] e Q) (fun i e => Fp mP h e ∧ ∀ s, s < i → hJ e 307 s = (if s = L.getD 0 0 then 1 else 0) ∧ hJ e 308 s = 0) 6400 ?_ ?_ 0 h (Nat.zero_le _) ⟨Fp.refl _ h, fun p hp => absurd hp (Nat.not_lt_zero _)⟩
  · rintro i e hi ⟨fe, ze⟩ kk
    have me := m.fr fe
    have ae := a.fr fe (fun k => mP_no (Or.inl rfl))
    have i6 : (i : Int) < 6400 := Int.ofNat_lt.2 hi
    have i1 : w32 ((i : Int) + 1) = ((i + 1 : Nat) : Int) := w32_s (Nat.lt_trans hi (by decide))
    rw [rX12_beginsMany_2]
    simp only [rX12_beginsMany_3, rX12_beginsMany_6, rX12_beginsMany_9, rX12_beginsMany_10, rX12_beginsMany_13, rX12_beginsMany_14, rX12_beginsMany_15, rX12_beginsMany_16, rX12_beginsMany_19, Md_K280 me, Md_R281 me, Md_K281 me, Md_R282 me, Md_K282 me, Md_R283 me, Md_K283 me, Md_R284 me, Md_K284 me, Md_R285 me, Md_K285 me, Md_R286 me, Md_K286 me, Md_R287 me, Md_K287 me, Md_R288 me, Md_K288 me, Md_R289 me, Md_K289 me, Md_R290 me, Md_K290 me, Md_R291 me, Md_K291 me, Md_R292 me, Md_K292 me, Md_R293 me, Md_K293 me, Md_R294 me, Md_K294 me, Md_R295 me, Md_K295 me, Md_R296 me, Md_K296 me, Md_R297 me, Md_K297 me, Md_R298 me, Md_K298 me, Md_R299 me, Md_K299 me, i6, S_standNow ⟨me, ae, po⟩ so, psh_some, eq_n, Int.toNat_natCast, Int.natCast_nonneg, true_and, and_true, and_self, if_true, if_false, or_true, true_or, or_false, false_or, ne_eq, not_true_eq_false, not_false_eq_true, Nat.reduceLeDiff, Nat.reduceEqDiff, Nat.reduceLT, Nat.reduceAdd, Nat.reduceMul, Nat.reduceSub, Int.reduceLT, Int.reduceLE, Int.reduceEq, Int.reduceToNat, Int.reduceAdd, Int.reduceSub, Int.reduceMul, Int.reduceNeg, Int.cast_ofNat_Int, false_and, and_false]
    rw [← l0]
    have go : ∀ v : Int, v = (if i = L.getD 0 0 then 1 else 0) → WP (d + 2) mX12_beginsMany 2 [some (.inr (.inr 294)), some (.inl ((i + 1 : Nat) : Int))] [] (wJ (wJ e 307 i v) 308 i 0) Q := by
      intro v hv
      refine kk _ ⟨(fe.wJ (Or.inl rfl) _).wJ (Or.inr rfl) _, fun s hs => ?_⟩
      have n1 : ¬ (307 = 308 ∧ s = i) := fun c => absurd c.1 (by decide)
      have n2 : ¬ (308 = 307 ∧ s = i) := fun c => absurd c.1 (by decide)
      have e3 : hJ (wJ (wJ e 307 i v) 308 i 0) 307 s = if s = i then v else hJ e 307 s := by
        rw [hJ_wJ, if_neg n1, hJ_wJ]
        by_cases hsi : s = i
        · rw [if_pos ⟨rfl, hsi⟩, if_pos hsi]
        · rw [if_neg (fun c => hsi c.2), if_neg hsi]
      have e4 : hJ (wJ (wJ e 307 i v) 308 i 0) 308 s = if s = i then 0 else hJ e 308 s := by
        rw [hJ_wJ]
        by_cases hsi : s = i
        · rw [if_pos ⟨rfl, hsi⟩, if_pos hsi]
        · rw [if_neg (fun c => hsi c.2), if_neg hsi, hJ_wJ, if_neg n2]
      rw [e3, e4]
      by_cases hsi : s = i
      · subst hsi
        exact ⟨by rw [if_pos (show s = s from rfl)]; exact hv, if_pos rfl⟩
      · rw [if_neg hsi, if_neg hsi]
        exact ze s (lt_one hs hsi)
    by_cases hs : i = L.getD 0 0
    · have g1 := go 1 (by rw [if_pos hs])
      rw [if_pos hs]
      simp only [rX12_beginsMany_22, rX12_beginsMany_23, rX12_beginsMany_26, rX12_beginsMany_27, rX12_beginsMany_28, rX12_beginsMany_29, rX12_beginsMany_32, rX12_beginsMany_33, rX12_beginsMany_34, rX12_beginsMany_35, rX12_beginsMany_38, hN_wI, hN_wJ, hN_wR, hS_wI, hS_wJ, hS_wR, hK_wI, hK_wJ, hK_wR, hI_wI, hI_wJ, hI_wR, hJ_wI, hJ_wJ, hJ_wR, hR_wI, hR_wJ, hR_wR, hN_nw, hS_nw, hK_nw, hI_nw, hJ_nw, hR_nw, psh_some, psh_none, Md_K280 me, Md_R281 me, Md_K281 me, Md_R282 me, Md_K282 me, Md_R283 me, Md_K283 me, Md_R284 me, Md_K284 me, Md_R285 me, Md_K285 me, Md_R286 me, Md_K286 me, Md_R287 me, Md_K287 me, Md_R288 me, Md_K288 me, Md_R289 me, Md_K289 me, Md_R290 me, Md_K290 me, Md_R291 me, Md_K291 me, Md_R292 me, Md_K292 me, Md_R293 me, Md_K293 me, Md_R294 me, Md_K294 me, Md_R295 me, Md_K295 me, Md_R296 me, Md_K296 me, Md_R297 me, Md_K297 me, Md_R298 me, Md_K298 me, Md_R299 me, Md_K299 me, i6, i1, Int.toNat_natCast, Int.natCast_nonneg, true_and, and_true, and_self, if_true, if_false, or_true, true_or, or_false, false_or, ne_eq, not_true_eq_false, not_false_eq_true, Nat.reduceLeDiff, Nat.reduceEqDiff, Nat.reduceLT, Nat.reduceAdd, Nat.reduceMul, Nat.reduceSub, Int.reduceLT, Int.reduceLE, Int.reduceEq, Int.reduceToNat, Int.reduceAdd, Int.reduceSub, Int.reduceMul, Int.reduceNeg, Int.cast_ofNat_Int, false_and, and_false]
      exact g1
    · have g1 := go 0 (by rw [if_neg hs])
      rw [if_neg hs]
      simp only [rX12_beginsMany_26, rX12_beginsMany_27, rX12_beginsMany_28, rX12_beginsMany_29, rX12_beginsMany_32, rX12_beginsMany_33, rX12_beginsMany_34, rX12_beginsMany_35, rX12_beginsMany_38, hN_wI, hN_wJ, hN_wR, hS_wI, hS_wJ, hS_wR, hK_wI, hK_wJ, hK_wR, hI_wI, hI_wJ, hI_wR, hJ_wI, hJ_wJ, hJ_wR, hR_wI, hR_wJ, hR_wR, hN_nw, hS_nw, hK_nw, hI_nw, hJ_nw, hR_nw, psh_some, psh_none, Md_K280 me, Md_R281 me, Md_K281 me, Md_R282 me, Md_K282 me, Md_R283 me, Md_K283 me, Md_R284 me, Md_K284 me, Md_R285 me, Md_K285 me, Md_R286 me, Md_K286 me, Md_R287 me, Md_K287 me, Md_R288 me, Md_K288 me, Md_R289 me, Md_K289 me, Md_R290 me, Md_K290 me, Md_R291 me, Md_K291 me, Md_R292 me, Md_K292 me, Md_R293 me, Md_K293 me, Md_R294 me, Md_K294 me, Md_R295 me, Md_K295 me, Md_R296 me, Md_K296 me, Md_R297 me, Md_K297 me, Md_R298 me, Md_K298 me, Md_R299 me, Md_K299 me, i6, i1, Int.toNat_natCast, Int.natCast_nonneg, true_and, and_true, and_self, if_true, if_false, or_true, true_or, or_false, false_or, ne_eq, not_true_eq_false, not_false_eq_true, Nat.reduceLeDiff, Nat.reduceEqDiff, Nat.reduceLT, Nat.reduceAdd, Nat.reduceMul, Nat.reduceSub, Int.reduceLT, Int.reduceLE, Int.reduceEq, Int.reduceToNat, Int.reduceAdd, Int.reduceSub, Int.reduceMul, Int.reduceNeg, Int.cast_ofNat_Int, false_and, and_false]
      exact g1
  · rintro e ⟨fe, ze⟩
    rw [rX12_beginsMany_2]
    simp only [rX12_beginsMany_3, rX12_beginsMany_6, rX12_beginsMany_41, Int.toNat_natCast, Int.natCast_nonneg, true_and, and_true, and_self, if_true, if_false, or_true, true_or, or_false, false_or, ne_eq, not_true_eq_false, not_false_eq_true, Nat.reduceLeDiff, Nat.reduceEqDiff, Nat.reduceLT, Nat.reduceAdd, Nat.reduceMul, Nat.reduceSub, Int.reduceLT, Int.reduceLE, Int.reduceEq, Int.reduceToNat, Int.reduceAdd, Int.reduceSub, Int.reduceMul, Int.reduceNeg, Int.cast_ofNat_Int, false_and, and_false]
    refine k e fe (fun p hp => ?_) (fun p hp => (ze _ (getD_lt ok hp)).2)
    rw [(ze _ (getD_lt ok hp)).1]
    show _ = w64 ((if L.getD p 0 = L.getD 0 0 then 1 else 0 : Nat) : Int)
    split
    · exact w64_1.symm
    · exact w64_0.symm
theorem x27 {g : Nat} (h : g < 6) : w32 (27 + (g : Int)) = ((27 + g : Nat) : Int) ∧ ((27 + g : Nat) : Int) < 3267 ∧ 27 + g < 3267 := ⟨w32_la 27 (27 + g) (by omega) (by omega), by omega, by omega⟩
theorem MV.ad {h : Hp} {a : Nat} {L : List Nat} {D : Nat → Nat} (x : MV h a L D) {t v : Nat} : MV (wJ h a t (w64 (((D t : Nat) : Int) + (v : Int)))) a L (adN D t v) := by
  intro p hp
  rw [hJ_wJ]
  unfold adN
  by_cases hpq : L.getD p 0 = t
  · rw [if_pos ⟨rfl, hpq⟩, hpq, if_pos rfl, Int.natCast_add]
  · rw [if_neg (fun z => hpq z.2), if_neg hpq]; exact x p hp
theorem m294 {h h' : Hp} (f : Fp (fun a _ => a = 308) h h') : Fp mP h h' := f.mono (fun _ _ q => Or.inr q)
theorem g_6 {g G : Nat} (h : g < G) (hG : G ≤ 6) : (g : Int) < (G : Int) ∧ g < 6 ∧ w32 ((g : Int) + 1) = ((g + 1 : Nat) : Int) := ⟨by omega, by omega, w32_s (by omega)⟩
set_option maxHeartbeats 1000000 in
theorem gm_inner {d : Nat} {Q : Option PV → Hp → Prop} {h : Hp} {A : Nat → Int} {f : Nat → Nat → Nat} {L : List Nat} {G : Nat} (x : RQ h A f (2 ^ G - 1) L) (hG : A 2 = (G : Int)) {o : Int} {W : Nat → Nat} (ho : (o = 0 ∧ ∀ g, g < G → W g = 1) ∨ (o = 1 ∧ ∀ g, g < G → A (27 + g) = (W g : Int))) {p v : Nat} (hp : p < L.length) {x2 : Option PV} (et : hJ h 307 (L.getD p 0) = (v : Int)) (hv : 0 < v) {D : Nat → Nat}
    (k : ∀ h', Fp (fun a _ => a = 308) h h' → MV h' 308 L (spG f W (fun _ => true) (L.getD p 0) v G D) → WP d mX12_goesMany 94 [some (.inr (.inr 294)), some (.inl o), x2, some (.inl (L.getD p 0 : Int)), some (.inl (G : Int))] [] h' Q) :
    ∀ n g (e : Hp), g + n = G → Fp (fun a _ => a = 308) h e → MV e 308 L (spG f W (fun _ => true) (L.getD p 0) v g D) → WP d mX12_goesMany 20 [some (.inr (.inr 294)), some (.inl o), x2, some (.inl (L.getD p 0 : Int)), some (.inl (g : Int))] [] e Q := by
  have ok := x.2.2.2.1
  have G6 : G ≤ 6 := by have := x.2.2.2.2.2.2.2.2.2.1; omega
  have sl := getD_lt ok hp
  have v0 : (0 : Int) < (v : Int) := Int.ofNat_lt.2 hv
  intro n
  induction n with
  | zero =>
    intro g e hg fe te
    have eg : g = G := by omega
    subst eg
    have xe := x.fr fe (fun a k q => by omega)
    have me := xe.1
    rw [rX12_goesMany_20]
    simp only [rX12_goesMany_22, rX12_goesMany_23, rX12_goesMany_26, rX12_goesMany_27, rX12_goesMany_28, Md_K280 me, Md_R281 me, Md_K281 me, Md_R282 me, Md_K282 me, Md_R283 me, Md_K283 me, Md_R284 me, Md_K284 me, Md_R285 me, Md_K285 me, Md_R286 me, Md_K286 me, Md_R287 me, Md_K287 me, Md_R288 me, Md_K288 me, Md_R289 me, Md_K289 me, Md_R290 me, Md_K290 me, Md_R291 me, Md_K291 me, Md_R292 me, Md_K292 me, Md_R293 me, Md_K293 me, Md_R294 me, Md_K294 me, Md_R295 me, Md_K295 me, Md_R296 me, Md_K296 me, Md_R297 me, Md_K297 me, Md_R298 me, Md_K298 me, Md_R299 me, Md_K299 me, xe.2.1 2 (by decide), hG, Int.lt_irrefl, Int.toNat_natCast, Int.natCast_nonneg, true_and, and_true, and_self, if_true, if_false, or_true, true_or, or_false, false_or, ne_eq, not_true_eq_false, not_false_eq_true, Nat.reduceLeDiff, Nat.reduceEqDiff, Nat.reduceLT, Nat.reduceAdd, Nat.reduceMul, Nat.reduceSub, Int.reduceLT, Int.reduceLE, Int.reduceEq, Int.reduceToNat, Int.reduceAdd, Int.reduceSub, Int.reduceMul, Int.reduceNeg, Int.cast_ofNat_Int, false_and, and_false]
    exact k e fe te
  | succ n ih =>
    intro g e hg fe te
    have gG : g < G := by omega
    have hn : g + 1 + n = G := by omega
    obtain ⟨gG', g6, g1⟩ := g_6 gG G6
    have xe := x.fr fe (fun a k q => by omega)
    have me := xe.1
    obtain ⟨i1, i2, i3, i4, _⟩ := ix6 g6 sl
    obtain ⟨y1, y2, y3⟩ := x27 g6
    have A27 := xe.2.1 (27 + g) y3
    obtain ⟨th, tm⟩ := xe.2.2.2.2.2.1 p g hp (by rw [hG]; exact gG') (all_bt gG)
    obtain ⟨q, hq, eq⟩ := mem_getD tm
    have t6 : (f g (L.getD p 0) : Int) < 6400 := by rw [← eq]; exact Int.ofNat_lt.2 (getD_lt ok hq)
    have dq := te q hq
    rw [eq] at dq
    have et' : hJ e 307 (L.getD p 0) = (v : Int) := by rw [fe.J (show ¬ (307 = 308) by decide)]; exact et
    have hs : spG f W (fun _ => true) (L.getD p 0) v (g + 1) D = adN (spG f W (fun _ => true) (L.getD p 0) v g D) (f g (L.getD p 0)) (v * W g) := if_pos rfl
    have fin := te.ad (t := f g (L.getD p 0)) (v := v * W g)
    rw [← hs] at fin
    have go := ih (g + 1) _ hn (fe.wJ (by exact rfl) _) fin
    rw [Int.natCast_mul, ← w64_addl, ← w64_addr] at go
    rw [rX12_goesMany_20]
    simp only [rX12_goesMany_22, rX12_goesMany_23, rX12_goesMany_26, rX12_goesMany_27, rX12_goesMany_28, rX12_goesMany_31, rX12_goesMany_32, rX12_goesMany_35, rX12_goesMany_36, rX12_goesMany_37, rX12_goesMany_38, rX12_goesMany_39, rX12_goesMany_42, rX12_goesMany_43, rX12_goesMany_46, rX12_goesMany_47, rX12_goesMany_50, rX12_goesMany_52, rX12_goesMany_53, rX12_goesMany_54, rX12_goesMany_56, rX12_goesMany_57, rX12_goesMany_58, rX12_goesMany_59, rX12_goesMany_60, rX12_goesMany_61, rX12_goesMany_64, rX12_goesMany_65, rX12_goesMany_66, rX12_goesMany_67, Md_K280 me, Md_R281 me, Md_K281 me, Md_R282 me, Md_K282 me, Md_R283 me, Md_K283 me, Md_R284 me, Md_K284 me, Md_R285 me, Md_K285 me, Md_R286 me, Md_K286 me, Md_R287 me, Md_K287 me, Md_R288 me, Md_K288 me, Md_R289 me, Md_K289 me, Md_R290 me, Md_K290 me, Md_R291 me, Md_K291 me, Md_R292 me, Md_K292 me, Md_R293 me, Md_K293 me, Md_R294 me, Md_K294 me, Md_R295 me, Md_K295 me, Md_R296 me, Md_K296 me, Md_R297 me, Md_K297 me, Md_R298 me, Md_K298 me, Md_R299 me, Md_K299 me, xe.2.1 2 (by decide), hG, gG', i1, i2, i3, i4, et', th, t6, dq, lcm_pos, v0, Int.toNat_natCast, Int.natCast_nonneg, true_and, and_true, and_self, if_true, if_false, or_true, true_or, or_false, false_or, ne_eq, not_true_eq_false, not_false_eq_true, Nat.reduceLeDiff, Nat.reduceEqDiff, Nat.reduceLT, Nat.reduceAdd, Nat.reduceMul, Nat.reduceSub, Int.reduceLT, Int.reduceLE, Int.reduceEq, Int.reduceToNat, Int.reduceAdd, Int.reduceSub, Int.reduceMul, Int.reduceNeg, Int.cast_ofNat_Int, false_and, and_false]
    rcases ho with ⟨rfl, hw⟩ | ⟨rfl, hw⟩
    · rw [hw g gG] at go
      simp only [rX12_goesMany_83, rX12_goesMany_84, rX12_goesMany_85, rX12_goesMany_86, rX12_goesMany_87, rX12_goesMany_88, rX12_goesMany_91, Md_K280 me, Md_R281 me, Md_K281 me, Md_R282 me, Md_K282 me, Md_R283 me, Md_K283 me, Md_R284 me, Md_K284 me, Md_R285 me, Md_K285 me, Md_R286 me, Md_K286 me, Md_R287 me, Md_K287 me, Md_R288 me, Md_K288 me, Md_R289 me, Md_K289 me, Md_R290 me, Md_K290 me, Md_R291 me, Md_K291 me, Md_R292 me, Md_K292 me, Md_R293 me, Md_K293 me, Md_R294 me, Md_K294 me, Md_R295 me, Md_K295 me, Md_R296 me, Md_K296 me, Md_R297 me, Md_K297 me, Md_R298 me, Md_K298 me, Md_R299 me, Md_K299 me, i4, t6, g1, Int.toNat_natCast, Int.natCast_nonneg, true_and, and_true, and_self, if_true, if_false, or_true, true_or, or_false, false_or, ne_eq, not_true_eq_false, not_false_eq_true, Nat.reduceLeDiff, Nat.reduceEqDiff, Nat.reduceLT, Nat.reduceAdd, Nat.reduceMul, Nat.reduceSub, Int.reduceLT, Int.reduceLE, Int.reduceEq, Int.reduceToNat, Int.reduceAdd, Int.reduceSub, Int.reduceMul, Int.reduceNeg, Int.cast_ofNat_Int, false_and, and_false]
      exact go
    · simp only [rX12_goesMany_70, rX12_goesMany_71, rX12_goesMany_74, rX12_goesMany_76, rX12_goesMany_78, rX12_goesMany_79, rX12_goesMany_80, rX12_goesMany_83, rX12_goesMany_84, rX12_goesMany_85, rX12_goesMany_86, rX12_goesMany_87, rX12_goesMany_88, rX12_goesMany_91, Md_K280 me, Md_R281 me, Md_K281 me, Md_R282 me, Md_K282 me, Md_R283 me, Md_K283 me, Md_R284 me, Md_K284 me, Md_R285 me, Md_K285 me, Md_R286 me, Md_K286 me, Md_R287 me, Md_K287 me, Md_R288 me, Md_K288 me, Md_R289 me, Md_K289 me, Md_R290 me, Md_K290 me, Md_R291 me, Md_K291 me, Md_R292 me, Md_K292 me, Md_R293 me, Md_K293 me, Md_R294 me, Md_K294 me, Md_R295 me, Md_K295 me, Md_R296 me, Md_K296 me, Md_R297 me, Md_K297 me, Md_R298 me, Md_K298 me, Md_R299 me, Md_K299 me, y1, y2, A27, hw g gG, i4, t6, g1, Int.toNat_natCast, Int.natCast_nonneg, true_and, and_true, and_self, if_true, if_false, or_true, true_or, or_false, false_or, ne_eq, not_true_eq_false, not_false_eq_true, Nat.reduceLeDiff, Nat.reduceEqDiff, Nat.reduceLT, Nat.reduceAdd, Nat.reduceMul, Nat.reduceSub, Int.reduceLT, Int.reduceLE, Int.reduceEq, Int.reduceToNat, Int.reduceAdd, Int.reduceSub, Int.reduceMul, Int.reduceNeg, Int.cast_ofNat_Int, false_and, and_false]
      exact go
set_option maxHeartbeats 1000000 in
theorem gm_outer {d : Nat} {Q : Option PV → Hp → Prop} {h : Hp} {A : Nat → Int} {f : Nat → Nat → Nat} {L : List Nat} {G : Nat} (x : RQ h A f (2 ^ G - 1) L) (hG : A 2 = (G : Int)) {o : Int} {W : Nat → Nat} (ho : (o = 0 ∧ ∀ g, g < G → W g = 1) ∨ (o = 1 ∧ ∀ g, g < G → A (27 + g) = (W g : Int))) {D0 : Nat → Nat} (et : MV h 307 L D0) (bd : ∀ p, p < L.length → D0 (L.getD p 0) < 9223372036854775808)
    (k : ∀ h' x3 x4, Fp (fun a _ => a = 308) h h' → MV h' 308 L (spL f W (fun _ => true) L G D0 L.length) → WP d mX12_goesMany 100 [some (.inr (.inr 294)), some (.inl o), some (.inl (L.length : Int)), x3, x4] [] h' Q) :
    ∀ n p (e : Hp) (x3 x4 : Option PV), p + n = L.length → Fp (fun a _ => a = 308) h e → MV e 308 L (spL f W (fun _ => true) L G D0 p) → WP d mX12_goesMany 2 [some (.inr (.inr 294)), some (.inl o), some (.inl (p : Int)), x3, x4] [] e Q := by
  have ok := x.2.2.2.1
  intro n
  induction n with
  | zero =>
    intro p e x3 x4 hp fe te
    have ep : p = L.length := by omega
    subst ep
    have xe := x.fr fe (fun a k q => by omega)
    have me := xe.1
    rw [rX12_goesMany_2]
    simp only [rX12_goesMany_3, rX12_goesMany_4, rX12_goesMany_7, Md_K280 me, Md_R281 me, Md_K281 me, Md_R282 me, Md_K282 me, Md_R283 me, Md_K283 me, Md_R284 me, Md_K284 me, Md_R285 me, Md_K285 me, Md_R286 me, Md_K286 me, Md_R287 me, Md_K287 me, Md_R288 me, Md_K288 me, Md_R289 me, Md_K289 me, Md_R290 me, Md_K290 me, Md_R291 me, Md_K291 me, Md_R292 me, Md_K292 me, Md_R293 me, Md_K293 me, Md_R294 me, Md_K294 me, Md_R295 me, Md_K295 me, Md_R296 me, Md_K296 me, Md_R297 me, Md_K297 me, Md_R298 me, Md_K298 me, Md_R299 me, Md_K299 me, xe.2.2.1, Int.lt_irrefl, Int.toNat_natCast, Int.natCast_nonneg, true_and, and_true, and_self, if_true, if_false, or_true, true_or, or_false, false_or, ne_eq, not_true_eq_false, not_false_eq_true, Nat.reduceLeDiff, Nat.reduceEqDiff, Nat.reduceLT, Nat.reduceAdd, Nat.reduceMul, Nat.reduceSub, Int.reduceLT, Int.reduceLE, Int.reduceEq, Int.reduceToNat, Int.reduceAdd, Int.reduceSub, Int.reduceMul, Int.reduceNeg, Int.cast_ofNat_Int, false_and, and_false]
    exact k e x3 x4 fe te
  | succ n ih =>
    intro p e x3 x4 hp fe te
    have pl : p < L.length := by omega
    have hn : p + 1 + n = L.length := by omega
    obtain ⟨p1, p2, p3, p4⟩ := i_64 ok pl
    have xe := x.fr fe (fun a k q => by omega)
    have me := xe.1
    have s6 : (L.getD p 0 : Int) < 6400 := Int.ofNat_lt.2 (getD_lt ok pl)
    have et' : hJ e 307 (L.getD p 0) = (D0 (L.getD p 0) : Int) := by rw [fe.J (show ¬ (307 = 308) by decide), et p pl, w64_nat (bd p pl)]
    rw [rX12_goesMany_2]
    simp only [rX12_goesMany_3, rX12_goesMany_4, rX12_goesMany_7, rX12_goesMany_10, rX12_goesMany_11, rX12_goesMany_14, rX12_goesMany_15, rX12_goesMany_16, rX12_goesMany_17, rX12_goesMany_18, Md_K280 me, Md_R281 me, Md_K281 me, Md_R282 me, Md_K282 me, Md_R283 me, Md_K283 me, Md_R284 me, Md_K284 me, Md_R285 me, Md_K285 me, Md_R286 me, Md_K286 me, Md_R287 me, Md_K287 me, Md_R288 me, Md_K288 me, Md_R289 me, Md_K289 me, Md_R290 me, Md_K290 me, Md_R291 me, Md_K291 me, Md_R292 me, Md_K292 me, Md_R293 me, Md_K293 me, Md_R294 me, Md_K294 me, Md_R295 me, Md_K295 me, Md_R296 me, Md_K296 me, Md_R297 me, Md_K297 me, Md_R298 me, Md_K298 me, Md_R299 me, Md_K299 me, xe.2.2.1, p1, p2, xe.2.2.2.2.1 p pl, Int.toNat_natCast, Int.natCast_nonneg, true_and, and_true, and_self, if_true, if_false, or_true, true_or, or_false, false_or, ne_eq, not_true_eq_false, not_false_eq_true, Nat.reduceLeDiff, Nat.reduceEqDiff, Nat.reduceLT, Nat.reduceAdd, Nat.reduceMul, Nat.reduceSub, Int.reduceLT, Int.reduceLE, Int.reduceEq, Int.reduceToNat, Int.reduceAdd, Int.reduceSub, Int.reduceMul, Int.reduceNeg, Int.cast_ofNat_Int, false_and, and_false]
    by_cases hz : 0 < D0 (L.getD p 0)
    · refine gm_inner (D := spL f W (fun _ => true) L G D0 p) xe hG ho pl et' hz ?_ G 0 e (Nat.zero_add _) (Fp.refl _ e) te
      intro e2 f2 t2
      simp only [rX12_goesMany_94, rX12_goesMany_97, p3]
      exact ih (p + 1) e2 _ _ hn (fe.trans f2) t2
    · have hz' : D0 (L.getD p 0) = 0 := Nat.eq_zero_of_not_pos hz
      have et0 : hJ e 307 (L.getD p 0) = 0 := by rw [et', hz']; rfl
      have hs : spL f W (fun _ => true) L G D0 (p + 1) = spL f W (fun _ => true) L G D0 p := by
        show spG f W (fun _ => true) (L.getD p 0) (D0 (L.getD p 0)) G (spL f W (fun _ => true) L G D0 p) = _
        rw [hz', spG_0]
      have go := ih (p + 1) e (some (.inl (L.getD p 0 : Int))) (some (.inl 0)) hn fe (by rw [hs]; exact te)
      rw [rX12_goesMany_20]
      by_cases hg : (0 : Int) < (G : Int)
      · simp only [rX12_goesMany_22, rX12_goesMany_23, rX12_goesMany_26, rX12_goesMany_27, rX12_goesMany_28, rX12_goesMany_31, rX12_goesMany_32, rX12_goesMany_35, rX12_goesMany_36, rX12_goesMany_37, rX12_goesMany_38, rX12_goesMany_39, Md_K280 me, Md_R281 me, Md_K281 me, Md_R282 me, Md_K282 me, Md_R283 me, Md_K283 me, Md_R284 me, Md_K284 me, Md_R285 me, Md_K285 me, Md_R286 me, Md_K286 me, Md_R287 me, Md_K287 me, Md_R288 me, Md_K288 me, Md_R289 me, Md_K289 me, Md_R290 me, Md_K290 me, Md_R291 me, Md_K291 me, Md_R292 me, Md_K292 me, Md_R293 me, Md_K293 me, Md_R294 me, Md_K294 me, Md_R295 me, Md_K295 me, Md_R296 me, Md_K296 me, Md_R297 me, Md_K297 me, Md_R298 me, Md_K298 me, Md_R299 me, Md_K299 me, xe.2.1 2 (by decide), hG, hg, s6, et0, lcm_pos, Int.lt_irrefl, Int.toNat_natCast, Int.natCast_nonneg, true_and, and_true, and_self, if_true, if_false, or_true, true_or, or_false, false_or, ne_eq, not_true_eq_false, not_false_eq_true, Nat.reduceLeDiff, Nat.reduceEqDiff, Nat.reduceLT, Nat.reduceAdd, Nat.reduceMul, Nat.reduceSub, Int.reduceLT, Int.reduceLE, Int.reduceEq, Int.reduceToNat, Int.reduceAdd, Int.reduceSub, Int.reduceMul, Int.reduceNeg, Int.cast_ofNat_Int, false_and, and_false]
        simp only [rX12_goesMany_94, rX12_goesMany_97, p3]
        exact go
      · simp only [rX12_goesMany_22, rX12_goesMany_23, rX12_goesMany_26, rX12_goesMany_27, rX12_goesMany_28, Md_K280 me, Md_R281 me, Md_K281 me, Md_R282 me, Md_K282 me, Md_R283 me, Md_K283 me, Md_R284 me, Md_K284 me, Md_R285 me, Md_K285 me, Md_R286 me, Md_K286 me, Md_R287 me, Md_K287 me, Md_R288 me, Md_K288 me, Md_R289 me, Md_K289 me, Md_R290 me, Md_K290 me, Md_R291 me, Md_K291 me, Md_R292 me, Md_K292 me, Md_R293 me, Md_K293 me, Md_R294 me, Md_K294 me, Md_R295 me, Md_K295 me, Md_R296 me, Md_K296 me, Md_R297 me, Md_K297 me, Md_R298 me, Md_K298 me, Md_R299 me, Md_K299 me, xe.2.1 2 (by decide), hG, hg, Int.toNat_natCast, Int.natCast_nonneg, true_and, and_true, and_self, if_true, if_false, or_true, true_or, or_false, false_or, ne_eq, not_true_eq_false, not_false_eq_true, Nat.reduceLeDiff, Nat.reduceEqDiff, Nat.reduceLT, Nat.reduceAdd, Nat.reduceMul, Nat.reduceSub, Int.reduceLT, Int.reduceLE, Int.reduceEq, Int.reduceToNat, Int.reduceAdd, Int.reduceSub, Int.reduceMul, Int.reduceNeg, Int.cast_ofNat_Int, false_and, and_false]
        simp only [rX12_goesMany_94, rX12_goesMany_97, p3]
        exact go
set_option maxHeartbeats 1000000 in
theorem S_goesMany {d : Nat} {Q : Option PV → Hp → Prop} {h : Hp} {A : Nat → Int} {f : Nat → Nat → Nat} {L : List Nat} {G : Nat} (x : RQ h A f (2 ^ G - 1) L) (hG : A 2 = (G : Int)) {o : Int} {W : Nat → Nat} (ho : (o = 0 ∧ ∀ g, g < G → W g = 1) ∨ (o = 1 ∧ ∀ g, g < G → A (27 + g) = (W g : Int))) {D0 : Nat → Nat} (et : MV h 307 L D0) (ez : MZ h 308 L) (bd : ∀ p, p < L.length → D0 (L.getD p 0) < 9223372036854775808)
    (k : ∀ h', Fp mP h h' → MV h' 307 L (spL f W (fun _ => true) L G D0 L.length) → MZ h' 308 L → Q none h') : WP d mX12_goesMany 0 [some (.inr (.inr 294)), some (.inl o), none, none, none] [] h Q := by
  have ok := x.2.2.2.1
  simp only [rX12_goesMany_0, rX12_goesMany_1]
  refine gm_outer x hG ho et bd ?_ L.length 0 h _ _ (Nat.zero_add _) (Fp.refl _ h) (fun p hp => by rw [ez p hp]; exact w64_0.symm)
  intro h1 y3 y4 f1 t1
  generalize spL f W (fun _ => true) L G D0 L.length = D1 at k t1
  have x1 := x.fr f1 (fun a k q => by omega)
  simp only [rX12_goesMany_100, rX12_goesMany_101]
  have f1' := m294 f1
  clear et ez bd
  refine wp_for (fun i e => WP d mX12_goesMany 102 [some (.inr (.inr 294)), some (.inl o), some (.inl (i : Int)), y3, y4] [] e Q) (fun i e => Fp mP h1 e ∧ (∀ p, p < L.length → i ≤ p → hJ e 308 (L.getD p 0) = w64 (D1 (L.getD p 0) : Int)) ∧ ∀ p, p < i → p < L.length → hJ e 307 (L.getD p 0) = w64 (D1 (L.getD p 0) : Int) ∧ hJ e 308 (L.getD p 0) = 0) L.length ?_ ?_ 0 h1 (Nat.zero_le _) ⟨Fp.refl _ h1, fun p hp _ => t1 p hp, fun p hp => absurd hp (Nat.not_lt_zero _)⟩
  · rintro i e hi ⟨fe, ze, ye⟩ kk
    obtain ⟨p1, p2, p3, p4⟩ := i_64 ok hi
    have xe := x1.fr fe (fun a k q => mP_no q)
    have me := xe.1
    have s6 : (L.getD i 0 : Int) < 6400 := Int.ofNat_lt.2 (getD_lt ok hi)
    have zi := ze i hi (Nat.le_refl _)
    have oi := xe.2.2.2.2.1 i hi
    rw [rX12_goesMany_102]
    simp only [rX12_goesMany_103, rX12_goesMany_104, rX12_goesMany_107, rX12_goesMany_110, rX12_goesMany_111, rX12_goesMany_114, rX12_goesMany_115, rX12_goesMany_118, rX12_goesMany_119, rX12_goesMany_120, rX12_goesMany_121, rX12_goesMany_124, rX12_goesMany_125, rX12_goesMany_128, rX12_goesMany_129, rX12_goesMany_130, rX12_goesMany_131, rX12_goesMany_132, rX12_goesMany_133, rX12_goesMany_136, rX12_goesMany_137, rX12_goesMany_140, rX12_goesMany_141, rX12_goesMany_142, rX12_goesMany_143, rX12_goesMany_144, rX12_goesMany_147, hN_wI, hN_wJ, hN_wR, hS_wI, hS_wJ, hS_wR, hK_wI, hK_wJ, hK_wR, hI_wI, hI_wJ, hI_wR, hJ_wI, hJ_wJ, hJ_wR, hR_wI, hR_wJ, hR_wR, hN_nw, hS_nw, hK_nw, hI_nw, hJ_nw, hR_nw, psh_some, psh_none, Md_K280 me, Md_R281 me, Md_K281 me, Md_R282 me, Md_K282 me, Md_R283 me, Md_K283 me, Md_R284 me, Md_K284 me, Md_R285 me, Md_K285 me, Md_R286 me, Md_K286 me, Md_R287 me, Md_K287 me, Md_R288 me, Md_K288 me, Md_R289 me, Md_K289 me, Md_R290 me, Md_K290 me, Md_R291 me, Md_K291 me, Md_R292 me, Md_K292 me, Md_R293 me, Md_K293 me, Md_R294 me, Md_K294 me, Md_R295 me, Md_K295 me, Md_R296 me, Md_K296 me, Md_R297 me, Md_K297 me, Md_R298 me, Md_K298 me, Md_R299 me, Md_K299 me, xe.2.2.1, p1, p2, p3, oi, s6, zi, Int.toNat_natCast, Int.natCast_nonneg, true_and, and_true, and_self, if_true, if_false, or_true, true_or, or_false, false_or, ne_eq, not_true_eq_false, not_false_eq_true, Nat.reduceLeDiff, Nat.reduceEqDiff, Nat.reduceLT, Nat.reduceAdd, Nat.reduceMul, Nat.reduceSub, Int.reduceLT, Int.reduceLE, Int.reduceEq, Int.reduceToNat, Int.reduceAdd, Int.reduceSub, Int.reduceMul, Int.reduceNeg, Int.cast_ofNat_Int, false_and, and_false]
    refine kk _ ⟨(fe.wJ (Or.inl rfl) _).wJ (Or.inr rfl) _, fun p hp hip => ?_, fun p hp hpl => ?_⟩
    · have hne : L.getD p 0 ≠ L.getD i 0 := fun c => absurd (getD_inj ok hp hi c) (Nat.ne_of_gt hip)
      rw [hJ_wJ, if_neg (fun c => hne c.2), hJ_wJ, if_neg (fun c => hne c.2)]
      exact ze p hp (Nat.le_of_succ_le hip)
    · by_cases hpi : p = i
      · subst hpi
        constructor
        · rw [hJ_wJ, if_neg (fun c => absurd c.1 (by decide)), hJ_wJ, if_pos ⟨rfl, rfl⟩]
        · rw [hJ_wJ, if_pos ⟨rfl, rfl⟩]
      · have hne : L.getD p 0 ≠ L.getD i 0 := fun c => hpi (getD_inj ok hpl hi c)
        obtain ⟨u1, u2⟩ := ye p (lt_one hp hpi) hpl
        constructor
        · rw [hJ_wJ, if_neg (fun c => hne c.2), hJ_wJ, if_neg (fun c => hne c.2)]; exact u1
        · rw [hJ_wJ, if_neg (fun c => hne c.2), hJ_wJ, if_neg (fun c => hne c.2)]; exact u2
  · rintro e ⟨fe, ze, ye⟩
    have xe := x1.fr fe (fun a k q => mP_no q)
    have me := xe.1
    rw [rX12_goesMany_102]
    simp only [rX12_goesMany_103, rX12_goesMany_104, rX12_goesMany_107, rX12_goesMany_150, Md_K280 me, Md_R281 me, Md_K281 me, Md_R282 me, Md_K282 me, Md_R283 me, Md_K283 me, Md_R284 me, Md_K284 me, Md_R285 me, Md_K285 me, Md_R286 me, Md_K286 me, Md_R287 me, Md_K287 me, Md_R288 me, Md_K288 me, Md_R289 me, Md_K289 me, Md_R290 me, Md_K290 me, Md_R291 me, Md_K291 me, Md_R292 me, Md_K292 me, Md_R293 me, Md_K293 me, Md_R294 me, Md_K294 me, Md_R295 me, Md_K295 me, Md_R296 me, Md_K296 me, Md_R297 me, Md_K297 me, Md_R298 me, Md_K298 me, Md_R299 me, Md_K299 me, xe.2.2.1, Int.lt_irrefl, Int.toNat_natCast, Int.natCast_nonneg, true_and, and_true, and_self, if_true, if_false, or_true, true_or, or_false, false_or, ne_eq, not_true_eq_false, not_false_eq_true, Nat.reduceLeDiff, Nat.reduceEqDiff, Nat.reduceLT, Nat.reduceAdd, Nat.reduceMul, Nat.reduceSub, Int.reduceLT, Int.reduceLE, Int.reduceEq, Int.reduceToNat, Int.reduceAdd, Int.reduceSub, Int.reduceMul, Int.reduceNeg, Int.cast_ofNat_Int, false_and, and_false]
    exact k e (f1'.trans fe) (fun p hp => (ye p hp hp).1) (fun p hp => (ye p hp hp).2)
theorem S_manyThere {d : Nat} {Q : Option PV → Hp → Prop} {h : Hp} {A : Nat → Int} {f : Nat → Nat → Nat} {set : Nat} {L : List Nat} (x : RQ h A f set L) {D : Nat → Nat} (mv : MV h 307 L D) {t : Nat} (t6 : t < 6)
    (k : Q (some (.inr (.inl (w64 (smT L D t L.length : Int))))) h) : WP (d + 2) mX12_manyThere 0 [some (.inr (.inr 294)), some (.inl (t : Int)), none, none, none] [] h Q := by
  have m := x.1
  have ok := x.2.2.2.1
  have ord := x.2.2.2.2.1
  simp only [rX12_manyThere_0, rX12_manyThere_1, rX12_manyThere_2, rX12_manyThere_3]
  have main : ∀ n i, i + n = L.length → WP (d + 2) mX12_manyThere 5 [some (.inr (.inr 294)), some (.inl (t : Int)), some (.inr (.inl (w64 (smT L D t i : Int)))), none, some (.inl (i : Int))] [] h Q := by
    intro n
    induction n with
    | zero =>
      intro i hi
      have e : i = L.length := by omega
      subst e
      rw [rX12_manyThere_5]
      simp only [rX12_manyThere_7, rX12_manyThere_8, rX12_manyThere_11, rX12_manyThere_53, rX12_manyThere_54, Md_K280 m, Md_R281 m, Md_K281 m, Md_R282 m, Md_K282 m, Md_R283 m, Md_K283 m, Md_R284 m, Md_K284 m, Md_R285 m, Md_K285 m, Md_R286 m, Md_K286 m, Md_R287 m, Md_K287 m, Md_R288 m, Md_K288 m, Md_R289 m, Md_K289 m, Md_R290 m, Md_K290 m, Md_R291 m, Md_K291 m, Md_R292 m, Md_K292 m, Md_R293 m, Md_K293 m, Md_R294 m, Md_K294 m, Md_R295 m, Md_K295 m, Md_R296 m, Md_K296 m, Md_R297 m, Md_K297 m, Md_R298 m, Md_K298 m, Md_R299 m, Md_K299 m, x.2.2.1, Int.lt_irrefl, Int.toNat_natCast, Int.natCast_nonneg, true_and, and_true, and_self, if_true, if_false, or_true, true_or, or_false, false_or, ne_eq, not_true_eq_false, not_false_eq_true, Nat.reduceLeDiff, Nat.reduceEqDiff, Nat.reduceLT, Nat.reduceAdd, Nat.reduceMul, Nat.reduceSub, Int.reduceLT, Int.reduceLE, Int.reduceEq, Int.reduceToNat, Int.reduceAdd, Int.reduceSub, Int.reduceMul, Int.reduceNeg, Int.cast_ofNat_Int, false_and, and_false]
      exact k
    | succ n ih =>
      intro i hi
      have il : i < L.length := by omega
      obtain ⟨c1, c2, c3, c4⟩ := i_64 ok il
      have gl := getD_lt ok il
      have s6 : (L.getD i 0 : Int) < 6400 := Int.ofNat_lt.2 gl
      have tt := mv i il
      have go := ih (i + 1) (by omega)
      have hs : smT L D t (i + 1) = smT L D t i + (if (L.getD i 0 / 100).testBit t = true then D (L.getD i 0) else 0) := rfl
      rw [rX12_manyThere_5]
      simp only [rX12_manyThere_7, rX12_manyThere_8, rX12_manyThere_11, rX12_manyThere_14, rX12_manyThere_15, rX12_manyThere_16, rX12_manyThere_19, rX12_manyThere_21, rX12_manyThere_22, rX12_manyThere_23, rX12_manyThere_26, Md_K280 m, Md_R281 m, Md_K281 m, Md_R282 m, Md_K282 m, Md_R283 m, Md_K283 m, Md_R284 m, Md_K284 m, Md_R285 m, Md_K285 m, Md_R286 m, Md_K286 m, Md_R287 m, Md_K287 m, Md_R288 m, Md_K288 m, Md_R289 m, Md_K289 m, Md_R290 m, Md_K290 m, Md_R291 m, Md_K291 m, Md_R292 m, Md_K292 m, Md_R293 m, Md_K293 m, Md_R294 m, Md_K294 m, Md_R295 m, Md_K295 m, Md_R296 m, Md_K296 m, Md_R297 m, Md_K297 m, Md_R298 m, Md_K298 m, Md_R299 m, Md_K299 m, x.2.2.1, c1, c2, ord i il, S_isGoal gl t6, psh_some, Int.toNat_natCast, Int.natCast_nonneg, true_and, and_true, and_self, if_true, if_false, or_true, true_or, or_false, false_or, ne_eq, not_true_eq_false, not_false_eq_true, Nat.reduceLeDiff, Nat.reduceEqDiff, Nat.reduceLT, Nat.reduceAdd, Nat.reduceMul, Nat.reduceSub, Int.reduceLT, Int.reduceLE, Int.reduceEq, Int.reduceToNat, Int.reduceAdd, Int.reduceSub, Int.reduceMul, Int.reduceNeg, Int.cast_ofNat_Int, false_and, and_false]
      by_cases hb : (L.getD i 0 / 100).testBit t = true
      · have e : w64 (w64 (smT L D t i : Int) + w64 (D (L.getD i 0) : Int)) = w64 (smT L D t (i + 1) : Int) := by
          rw [w64_add2, ← Int.natCast_add, hs, if_pos hb]
        simp only [if_pos hb]
        rw [if_neg (by decide)]
        simp only [rX12_manyThere_29, rX12_manyThere_30, rX12_manyThere_33, rX12_manyThere_34, rX12_manyThere_37, rX12_manyThere_39, rX12_manyThere_40, rX12_manyThere_41, rX12_manyThere_44, rX12_manyThere_45, rX12_manyThere_46, rX12_manyThere_47, rX12_manyThere_50, Md_K280 m, Md_R281 m, Md_K281 m, Md_R282 m, Md_K282 m, Md_R283 m, Md_K283 m, Md_R284 m, Md_K284 m, Md_R285 m, Md_K285 m, Md_R286 m, Md_K286 m, Md_R287 m, Md_K287 m, Md_R288 m, Md_K288 m, Md_R289 m, Md_K289 m, Md_R290 m, Md_K290 m, Md_R291 m, Md_K291 m, Md_R292 m, Md_K292 m, Md_R293 m, Md_K293 m, Md_R294 m, Md_K294 m, Md_R295 m, Md_K295 m, Md_R296 m, Md_K296 m, Md_R297 m, Md_K297 m, Md_R298 m, Md_K298 m, Md_R299 m, Md_K299 m, c2, c3, ord i il, s6, tt, e, Int.toNat_natCast, Int.natCast_nonneg, true_and, and_true, and_self, if_true, if_false, or_true, true_or, or_false, false_or, ne_eq, not_true_eq_false, not_false_eq_true, Nat.reduceLeDiff, Nat.reduceEqDiff, Nat.reduceLT, Nat.reduceAdd, Nat.reduceMul, Nat.reduceSub, Int.reduceLT, Int.reduceLE, Int.reduceEq, Int.reduceToNat, Int.reduceAdd, Int.reduceSub, Int.reduceMul, Int.reduceNeg, Int.cast_ofNat_Int, false_and, and_false]
        exact go
      · rw [if_neg hb, Nat.add_zero] at hs
        rw [hs] at go
        have e : w64 (w64 (smT L D t i : Int) + 0) = w64 (smT L D t i : Int) := by rw [w64_addl, Int.add_zero]
        simp only [if_neg hb]
        rw [if_pos (by trivial)]
        simp only [rX12_manyThere_44, rX12_manyThere_45, rX12_manyThere_46, rX12_manyThere_47, rX12_manyThere_50, c3, e]
        exact go
  have go := main L.length 0 (Nat.zero_add _)
  have e0 : w64 ((smT L D t 0 : Nat) : Int) = 0 := w64_0
  rw [e0] at go
  exact go
theorem okZ_1 : okZ (-1) = fun _ => true := by
  funext t
  unfold okZ sees
  exact decide_eq_true (Or.inl rfl)
theorem mP_u {a k : Nat} (q : mP a k) : uP a k := by unfold mP at q; unfold uP; omega
theorem G_6 {σ : AS} (w : WF σ) : GA σ ≤ 6 := by unfold GA; have := w.1.2.2.2.1; omega
theorem all_l2 (n : Nat) : 2 ^ n - 1 < 2 ^ n := by have := Nat.one_le_two_pow (n := n); omega
theorem RQ.mem {h : Hp} {A : Nat → Int} {f : Nat → Nat → Nat} {G : Nat} {L : List Nat} (x : RQ h A f (2 ^ G - 1) L) (hG : A 2 = (G : Int)) : ∀ g p, g < G → p < L.length → f g (L.getD p 0) ∈ L := fun g p hg hp => (x.2.2.2.2.2.1 p g hp (by rw [hG]; exact Int.ofNat_lt.2 hg) (all_bt hg)).2
theorem rwD_b {h : Hp} {σ : AS} (w : WF σ) (x : RQ h (sA σ) (fA σ) (2 ^ GA σ - 1) (LA σ)) {z : Nat → Int} {n : Nat} (hn : n ≤ 12) : ∀ p, p < (LA σ).length → rwD σ z n ((LA σ).getD p 0) < 9223372036854775808 := fun p hp => Nat.lt_of_le_of_lt (spN_le x.2.2.2.1 (x.mem (GA_e w)) hp) (pow12 (G_6 w) hn)
set_option maxHeartbeats 1000000 in
theorem R_rows {d : Nat} {σ : AS} {t n : Int} : RSpec (d + 4) mX12_rows [some (.inr (.inr 294)), some (.inl t), some (.inl n), none] σ (.inr (.inl (roV σ t n))) σ := by
  refine RSpec5.of (RSpec5.u ?_) (fun h Q hk => by simp only [rX12_rows_0, rX12_rows_1, rX12_rows_2, hk, Int.toNat_natCast, Int.natCast_nonneg, true_and, and_true, and_self, if_true, if_false, or_true, true_or, or_false, false_or, ne_eq, not_true_eq_false, not_false_eq_true, Nat.reduceLeDiff, Nat.reduceEqDiff, Nat.reduceLT, Nat.reduceAdd, Nat.reduceMul, Nat.reduceSub, Int.reduceLT, Int.reduceLE, Int.reduceEq, Int.reduceToNat, Int.reduceAdd, Int.reduceSub, Int.reduceMul, Int.reduceNeg, Int.cast_ofNat_Int, false_and, and_false])
  intro h Q x w k
  have m := x.1
  unfold roV at k
  simp only [rX12_rows_5, rX12_rows_6, rX12_rows_7, rX12_rows_8, rX12_rows_11, rX12_rows_14, rX12_rows_17, Md_K280 m, Md_R281 m, Md_K281 m, Md_R282 m, Md_K282 m, Md_R283 m, Md_K283 m, Md_R284 m, Md_K284 m, Md_R285 m, Md_K285 m, Md_R286 m, Md_K286 m, Md_R287 m, Md_K287 m, Md_R288 m, Md_K288 m, Md_R289 m, Md_K289 m, Md_R290 m, Md_K290 m, Md_R291 m, Md_K291 m, Md_R292 m, Md_K292 m, Md_R293 m, Md_K293 m, Md_R294 m, Md_K294 m, Md_R295 m, Md_K295 m, Md_R296 m, Md_K296 m, Md_R297 m, Md_K297 m, Md_R298 m, Md_K298 m, Md_R299 m, Md_K299 m, Int.toNat_natCast, Int.natCast_nonneg, true_and, and_true, and_self, if_true, if_false, or_true, true_or, or_false, false_or, ne_eq, not_true_eq_false, not_false_eq_true, Nat.reduceLeDiff, Nat.reduceEqDiff, Nat.reduceLT, Nat.reduceAdd, Nat.reduceMul, Nat.reduceSub, Int.reduceLT, Int.reduceLE, Int.reduceEq, Int.reduceToNat, Int.reduceAdd, Int.reduceSub, Int.reduceMul, Int.reduceNeg, Int.cast_ofNat_Int, false_and, and_false, S_rThing (x.rp w), psh_some]
  by_cases h1 : 0 ≤ t ∧ t < sA σ 1
  · simp only [if_pos h1] at k
    rw [if_pos h1, if_neg (by decide)]
    obtain ⟨tt, rfl⟩ := Int.eq_ofNat_of_zero_le h1.1
    have t6 := t_6 h1.2 w.1.2.1
    simp only [Int.toNat_natCast] at k
    simp only [rX12_rows_18, rX12_rows_19, rX12_rows_20, rX12_rows_21, rX12_rows_24, rX12_rows_27, rX12_rows_30, rX12_rows_33, S_within, psh_some]
    by_cases h2 : 0 ≤ n ∧ n ≤ 12
    · simp only [if_pos h2] at k
      rw [if_pos h2, if_neg (by decide)]
      obtain ⟨N, rfl⟩ := Int.eq_ofNat_of_zero_le h2.1
      have N12 : N ≤ 12 := Int.ofNat_le.1 h2.2
      simp only [Int.toNat_natCast] at k
      simp only [rX12_rows_34, rX12_rows_35, rX12_rows_36, rX12_rows_39, Md_K280 m, Md_R281 m, Md_K281 m, Md_R282 m, Md_K282 m, Md_R283 m, Md_K283 m, Md_R284 m, Md_K284 m, Md_R285 m, Md_K285 m, Md_R286 m, Md_K286 m, Md_R287 m, Md_K287 m, Md_R288 m, Md_K288 m, Md_R289 m, Md_K289 m, Md_R290 m, Md_K290 m, Md_R291 m, Md_K291 m, Md_R292 m, Md_K292 m, Md_R293 m, Md_K293 m, Md_R294 m, Md_K294 m, Md_R295 m, Md_K295 m, Md_R296 m, Md_K296 m, Md_R297 m, Md_K297 m, Md_R298 m, Md_K298 m, Md_R299 m, Md_K299 m, S_rAll (x.rp w), psh_some, Int.toNat_natCast, Int.natCast_nonneg, true_and, and_true, and_self, if_true, if_false, or_true, true_or, or_false, false_or, ne_eq, not_true_eq_false, not_false_eq_true, Nat.reduceLeDiff, Nat.reduceEqDiff, Nat.reduceLT, Nat.reduceAdd, Nat.reduceMul, Nat.reduceSub, Int.reduceLT, Int.reduceLE, Int.reduceEq, Int.reduceToNat, Int.reduceAdd, Int.reduceSub, Int.reduceMul, Int.reduceNeg, Int.cast_ofNat_Int, false_and, and_false]
      refine S_laysStands (x.rp w) w.2.1 (set64 w.1 (all_l2 _)) ?_
      intro h1' f1 x1
      have q1 := x1.rq w.1 w.2.1 (all_l2 _)
      have q1' : RQ h1' (sA σ) (fA σ) (2 ^ GA σ - 1) (LA σ) := q1
      have m1 := q1'.1
      have l0 : (LA σ).getD 0 0 = stt (stA (sA σ)) := (Lst_0 (sA σ) (stA (sA σ)) _).1
      simp only [psh_none, rX12_rows_42, rX12_rows_43, Md_K280 m1, Md_R281 m1, Md_K281 m1, Md_R282 m1, Md_K282 m1, Md_R283 m1, Md_K283 m1, Md_R284 m1, Md_K284 m1, Md_R285 m1, Md_K285 m1, Md_R286 m1, Md_K286 m1, Md_R287 m1, Md_K287 m1, Md_R288 m1, Md_K288 m1, Md_R289 m1, Md_K289 m1, Md_R290 m1, Md_K290 m1, Md_R291 m1, Md_K291 m1, Md_R292 m1, Md_K292 m1, Md_R293 m1, Md_K293 m1, Md_R294 m1, Md_K294 m1, Md_R295 m1, Md_K295 m1, Md_R296 m1, Md_K296 m1, Md_R297 m1, Md_K297 m1, Md_R298 m1, Md_K298 m1, Md_R299 m1, Md_K299 m1, Int.toNat_natCast, Int.natCast_nonneg, true_and, and_true, and_self, if_true, if_false, or_true, true_or, or_false, false_or, ne_eq, not_true_eq_false, not_false_eq_true, Nat.reduceLeDiff, Nat.reduceEqDiff, Nat.reduceLT, Nat.reduceAdd, Nat.reduceMul, Nat.reduceSub, Int.reduceLT, Int.reduceLE, Int.reduceEq, Int.reduceToNat, Int.reduceAdd, Int.reduceSub, Int.reduceMul, Int.reduceNeg, Int.cast_ofNat_Int, false_and, and_false]
      refine S_beginsMany (d := d + 1) ⟨m1, q1'.2.1, w.1⟩ w.2.1 q1'.2.2.2.1 l0 ?_
      intro h2' f2 mv2 mz2
      simp only [psh_none, rX12_rows_46, rX12_rows_47]
      have main : ∀ b i (e : Hp), i + b = N → Fp mP h1' e → MV e 307 (LA σ) (rwD σ (fun _ => -1) i) → MZ e 308 (LA σ) → WP (d + 4) mX12_rows 48 [some (.inr (.inr 294)), some (.inl (tt : Int)), some (.inl (N : Int)), some (.inl (i : Int))] [] e Q := by
        intro b
        induction b with
        | zero =>
          intro i e hi fe mv mz
          have ei : i = N := by omega
          subst ei
          have qe := q1'.fr fe (fun a k q => mP_no q)
          have me := qe.1
          rw [rX12_rows_48]
          simp only [rX12_rows_49, rX12_rows_50, rX12_rows_64, rX12_rows_65, rX12_rows_66, Md_K280 me, Md_R281 me, Md_K281 me, Md_R282 me, Md_K282 me, Md_R283 me, Md_K283 me, Md_R284 me, Md_K284 me, Md_R285 me, Md_K285 me, Md_R286 me, Md_K286 me, Md_R287 me, Md_K287 me, Md_R288 me, Md_K288 me, Md_R289 me, Md_K289 me, Md_R290 me, Md_K290 me, Md_R291 me, Md_K291 me, Md_R292 me, Md_K292 me, Md_R293 me, Md_K293 me, Md_R294 me, Md_K294 me, Md_R295 me, Md_K295 me, Md_R296 me, Md_K296 me, Md_R297 me, Md_K297 me, Md_R298 me, Md_K298 me, Md_R299 me, Md_K299 me, Int.lt_irrefl, Int.toNat_natCast, Int.natCast_nonneg, true_and, and_true, and_self, if_true, if_false, or_true, true_or, or_false, false_or, ne_eq, not_true_eq_false, not_false_eq_true, Nat.reduceLeDiff, Nat.reduceEqDiff, Nat.reduceLT, Nat.reduceAdd, Nat.reduceMul, Nat.reduceSub, Int.reduceLT, Int.reduceLE, Int.reduceEq, Int.reduceToNat, Int.reduceAdd, Int.reduceSub, Int.reduceMul, Int.reduceNeg, Int.cast_ofNat_Int, false_and, and_false]
          refine S_manyThere (d := d + 1) qe mv t6 ?_
          simp only [psh_some, rX12_rows_69]
          exact k e ((f1.mono (fun a k q => rsP_u q)).trans (fe.mono (fun a k q => mP_u q)))
        | succ b ih =>
          intro i e hi fe mv mz
          have iN : (i : Int) < (N : Int) := by omega
          have i12 : i ≤ 12 := by omega
          have i1 : w32 ((i : Int) + 1) = ((i + 1 : Nat) : Int) := w32_s (by omega)
          have hn : i + 1 + b = N := by omega
          have qe := q1'.fr fe (fun a k q => mP_no q)
          have me := qe.1
          rw [rX12_rows_48]
          simp only [rX12_rows_49, rX12_rows_50, rX12_rows_53, rX12_rows_54, rX12_rows_55, Md_K280 me, Md_R281 me, Md_K281 me, Md_R282 me, Md_K282 me, Md_R283 me, Md_K283 me, Md_R284 me, Md_K284 me, Md_R285 me, Md_K285 me, Md_R286 me, Md_K286 me, Md_R287 me, Md_K287 me, Md_R288 me, Md_K288 me, Md_R289 me, Md_K289 me, Md_R290 me, Md_K290 me, Md_R291 me, Md_K291 me, Md_R292 me, Md_K292 me, Md_R293 me, Md_K293 me, Md_R294 me, Md_K294 me, Md_R295 me, Md_K295 me, Md_R296 me, Md_K296 me, Md_R297 me, Md_K297 me, Md_R298 me, Md_K298 me, Md_R299 me, Md_K299 me, iN, Int.toNat_natCast, Int.natCast_nonneg, true_and, and_true, and_self, if_true, if_false, or_true, true_or, or_false, false_or, ne_eq, not_true_eq_false, not_false_eq_true, Nat.reduceLeDiff, Nat.reduceEqDiff, Nat.reduceLT, Nat.reduceAdd, Nat.reduceMul, Nat.reduceSub, Int.reduceLT, Int.reduceLE, Int.reduceEq, Int.reduceToNat, Int.reduceAdd, Int.reduceSub, Int.reduceMul, Int.reduceNeg, Int.cast_ofNat_Int, false_and, and_false]
          refine S_goesMany (W := fun _ => 1) qe (GA_e w) (Or.inl ⟨rfl, fun g _ => rfl⟩) mv mz (rwD_b w qe i12) ?_
          intro e2 f2 mv2 mz2
          simp only [psh_none, rX12_rows_58, rX12_rows_61, i1]
          refine ih (i + 1) e2 hn (fe.trans f2) ?_ mz2
          have hs : rwD σ (fun _ => -1) (i + 1) = spL (fA σ) (fun _ => 1) (fun _ => true) (LA σ) (GA σ) (rwD σ (fun _ => -1) i) (LA σ).length := by
            show spL (fA σ) (fun _ => 1) (okZ (-1)) (LA σ) (GA σ) (rwD σ (fun _ => -1) i) (LA σ).length = _
            rw [okZ_1]
          rw [hs]; exact mv2
      exact main N 0 h2' (Nat.zero_add _) f2 mv2 mz2
    · simp only [if_neg h2] at k
      rw [if_neg h2, if_pos (by trivial)]
      exact k h (Fp.refl _ h)
  · simp only [if_neg h1] at k
    rw [if_neg h1, if_pos (by trivial)]
    exact k h (Fp.refl _ h)
