/-! the class's search: where it begins -/
def cdOk (w : Nat) (c : Int) : Prop := (0 ≤ c ∧ c < 1000 + (w : Int)) ∨ (3000 ≤ c ∧ c ≤ 3009)
theorem trun_cd {w : Nat} (hw : w ≤ 6) : ∀ (l : List Int) (ts r : List Bool), trun w l ts = some r → ∀ j, j < l.length → cdOk w (l.getD j 0) := by
  intro l
  induction l with
  | nil => intro ts r _ j hj; exact absurd hj (Nat.not_lt_zero _)
  | cons c l ih =>
    intro ts r h j hj
    simp only [trun] at h
    cases hts : tstep w c ts with
    | none => rw [hts] at h; cases h
    | some ts' =>
      rw [hts] at h
      cases j with
      | zero =>
        simp only [List.getD_cons_zero]
        rcases tstep_cases hw hts with ⟨a, b, _⟩ | ⟨_, _, _, a, _⟩ | ⟨_, a, _⟩ | ⟨_, a, _⟩
        · exact Or.inl ⟨a, b⟩
        · exact Or.inr (by omega)
        · exact Or.inr (by omega)
        · exact Or.inr (by omega)
      | succ j =>
        simp only [List.getD_cons_succ]
        exact ih ts' r h j (by simpa using hj)
theorem enc_inj {w : Nat} (hw : w ≤ 6) {a b : Int} (ha : cdOk w a) (hb : cdOk w b) (e : enc a = enc b) : a = b := by
  unfold enc at e
  unfold cdOk at ha hb
  by_cases a1 : a < 1000
  · rw [if_pos a1] at e
    by_cases b1 : b < 1000
    · rw [if_pos b1] at e; omega
    · rw [if_neg b1] at e
      by_cases b2 : b < 3000
      · rw [if_pos b2] at e; omega
      · rw [if_neg b2] at e; omega
  · rw [if_neg a1] at e
    by_cases a2 : a < 3000
    · rw [if_pos a2] at e
      by_cases b1 : b < 1000
      · rw [if_pos b1] at e; omega
      · rw [if_neg b1] at e
        by_cases b2 : b < 3000
        · rw [if_pos b2] at e; omega
        · rw [if_neg b2] at e; omega
    · rw [if_neg a2] at e
      by_cases b1 : b < 1000
      · rw [if_pos b1] at e; omega
      · rw [if_neg b1] at e
        by_cases b2 : b < 3000
        · rw [if_pos b2] at e; omega
        · rw [if_neg b2] at e; omega
theorem law_eq {h : Hp} {a w : Nat} (hw : w ≤ 6) {l l' : List Int} (x : lawAt h a l) (x' : lawAt h a l') (o : lwOk w l) (o' : lwOk w l') : l = l' := by
  have e0 : l.length = l'.length := by
    have := x.1.symm.trans x'.1
    exact (Prod.mk.inj this).2
  have cd : ∀ {m : List Int}, lwOk w m → ∀ j, j < m.length → cdOk w (m.getD j 0) := fun {m} om j hj => by
    rcases om.2 with q | q
    · rw [q] at hj; exact absurd hj (Nat.not_lt_zero _)
    · exact trun_cd hw m [] [false] q j hj
  apply List.ext_getElem e0
  intro j h1 h2
  have e1 := (x.2.2 j h1).symm.trans (x'.2.2 j h2)
  have := enc_inj hw (cd o j h1) (cd o' j h2) e1
  rw [List.getD_eq_getElem?_getD, List.getD_eq_getElem?_getD, List.getElem?_eq_getElem h1, List.getElem?_eq_getElem h2] at this
  exact this
theorem pool_eq {h : Hp} {p : Nat} {A B : Nat → Int} (x : PoolIs h p A) (y : PoolIs h p B) (pa : poolOk A) (pb : poolOk B) : pdE (pdA A) (pdA B) ∧ A 2 = B 2 := by
  obtain ⟨⟨_, _, _, _, _, _, _, _, x8, x9, x10, x11⟩, x12, _⟩ := x
  obtain ⟨⟨_, _, _, _, _, _, _, _, y8, y9, y10, y11⟩, y12, _⟩ := y
  have e1 : (pdA A).1 = (pdA B).1 := by
    have := x8.symm.trans y8
    omega
  have okA := pa.2.2.2.2.1
  have okB := pb.2.2.2.2.1
  refine ⟨⟨e1, fun t ht => ?_, ?_⟩, x12.symm.trans y12⟩
  · obtain ⟨a1, a2, a3⟩ := x9 t ht
    obtain ⟨b1, b2, b3⟩ := y9 t (by omega)
    exact ⟨a1.symm.trans b1, a2.symm.trans b2, Int.ofNat.inj (a3.symm.trans b3)⟩
  · have l1 := law_eq (w := 5) (by omega) x10 y10 okA.2.2.1 okB.2.2.1
    have l2 := law_eq (w := 6) (by omega) x11 y11 okA.2.2.2 okB.2.2.2
    exact Prod.ext l1 l2
theorem nxt_E {A B F F' : Nat → Int} {g s : Nat} (e : pdE (pdA A) (pdA B)) (e2 : F (2 + g) = F' (2 + g)) (e8 : F (8 + g) = F' (8 + g)) : nxt A F g s = nxt B F' g s := by
  unfold nxt
  rw [dThr_E e, dPst_E e, e2, e8]
theorem Lst_E {A B F F' : Nat → Int} (e : pdE (pdA A) (pdA B)) (eg : A 2 = B 2) (pa : poolOk A) (so : stOk F) (ef : ∀ g : Nat, (g : Int) < A 2 → F (2 + g) = F' (2 + g) ∧ F (8 + g) = F' (8 + g)) (es : stt F = stt F') (set : Nat) : Lst A F set = Lst B F' set := by
  unfold Lst
  rw [← es, ← eg]
  exact bfs_E (fun g s hs => nxt_lt pa.2.2.2.2.1 hs) (fun g s hg _ => nxt_E e (ef g (by omega)).1 (ef g (by omega)).2) _ _ _ (ls_one (stt_lt so))
theorem Tree.E {f f' : Nat → Nat → Nat} {set G : Nat} {L : List Nat} {ah by' dv : Nat → Nat} {k g : Nat} (e : ∀ g s, g < G → f g s = f' g s) (t : Tree f set G L ah by' dv k g) : Tree f' set G L ah by' dv k g := by
  obtain ⟨t1, t2, t3, t4⟩ := t
  refine ⟨t1, fun p h1 h2 => ?_, t3, fun k' g' h1 h2 h3 h4 => ?_⟩
  · obtain ⟨a1, a2, a3, a4, a5, a6⟩ := t2 p h1 h2
    exact ⟨a1, a2, a3, by rw [← e _ _ a3]; exact a4, a5, a6⟩
  · obtain ⟨p, hp, q, r⟩ := t4 k' g' h1 h2 h3 h4
    exact ⟨p, hp, by rw [← e _ _ h2]; exact q, r⟩
theorem age_n {x y : Int} (h1 : 1 ≤ x) (h2 : x ≤ 100000) (h : y = x) : w32 (y + 1) = x + 1 := by rw [h, w32_i (by omega) (by omega)]
def fgP (se a _k : Nat) : Prop := a = se + 4 ∨ a = se + 5
set_option maxHeartbeats 1000000 in
theorem S_forget {d : Nat} {Q : Option PV → Hp → Prop} {h : Hp} {se g : Nat} (sh : Shp h se) (se3 : 314 ≤ se) (ag : ∀ g, g < 6 → 1 ≤ hI h (se + 5) g ∧ hI h (se + 5) g ≤ 100000) (hg : g < 6)
    (k : ∀ h', Fp (fgP se) h h' → (∀ g', g' ≠ g → hI h' (se + 5) g' = hI h (se + 5) g') → ((hI h' (se + 5) g = hI h (se + 5) g + 1 ∧ hI h (se + 5) g + 1 ≤ 100000 ∧ ∀ j, hI h' (se + 4) j = hI h (se + 4) j) ∨ (hI h' (se + 5) g = 1 ∧ ∀ j, j < 38400 → hI h' (se + 4) j = 0)) → Q none h') :
    WP (d + 1) mX7_forgetGoer 0 [some (.inr (.inr se)), some (.inl (g : Int))] [] h Q := by
  have g6 : (g : Int) < 6 := by omega
  have g5 : 200 ≤ se + 5 := by omega
  have g4 : 200 ≤ se + 4 := by omega
  have d45 : ¬ (se + 4 = se + 5) := by omega
  obtain ⟨a1, a2⟩ := ag g hg
  have e1 := age_n a1 a2 rfl
  obtain ⟨K0, R0, R1, R2, R3, R4, R5, R6, R7, R8, R9, K1, r0, r1, K2, K3, K4, K5, K6, K7, K8, K9, K10, K11⟩ := id sh
  have f1 : Fp (fgP se) h (wI h (se + 5) g (hI h (se + 5) g + 1)) := (Fp.refl (fgP se) h).wI (Or.inr rfl) _
  simp only [rX7_forgetGoer_0, rX7_forgetGoer_1, rX7_forgetGoer_4, rX7_forgetGoer_5, rX7_forgetGoer_6, rX7_forgetGoer_7, rX7_forgetGoer_8, rX7_forgetGoer_9, rX7_forgetGoer_10, rX7_forgetGoer_11, rX7_forgetGoer_14, rX7_forgetGoer_15, rX7_forgetGoer_16, rX7_forgetGoer_18, hN_wI, hN_wJ, hN_wR, hS_wI, hS_wJ, hS_wR, hK_wI, hK_wJ, hK_wR, hI_wI, hI_wJ, hI_wR, hJ_wI, hJ_wJ, hJ_wR, hR_wI, hR_wJ, hR_wR, hN_nw, hS_nw, hK_nw, hI_nw, hJ_nw, hR_nw, psh_some, psh_none, K0, R3, K5, g6, g5, e1, Int.toNat_natCast, Int.natCast_nonneg, true_and, and_true, and_self, if_true, if_false, or_true, true_or, or_false, false_or, ne_eq, not_true_eq_false, not_false_eq_true, Nat.reduceLeDiff, Nat.reduceEqDiff, Nat.reduceLT, Nat.reduceAdd, Nat.reduceMul, Nat.reduceSub, Int.reduceLT, Int.reduceLE, Int.reduceEq, Int.reduceToNat, Int.reduceAdd, Int.reduceSub, Int.reduceMul, Int.reduceNeg, Int.cast_ofNat_Int, false_and, and_false]
  by_cases hc : 100000 < hI h (se + 5) g + 1
  · rw [if_pos hc]
    simp only [rX7_forgetGoer_21, rX7_forgetGoer_22, rX7_forgetGoer_25, rX7_forgetGoer_26, hN_wI, hN_wJ, hN_wR, hS_wI, hS_wJ, hS_wR, hK_wI, hK_wJ, hK_wR, hI_wI, hI_wJ, hI_wR, hJ_wI, hJ_wJ, hJ_wR, hR_wI, hR_wJ, hR_wR, hN_nw, hS_nw, hK_nw, hI_nw, hJ_nw, hR_nw, psh_some, psh_none, K0, R2, Int.toNat_natCast, Int.natCast_nonneg, true_and, and_true, and_self, if_true, if_false, or_true, true_or, or_false, false_or, ne_eq, not_true_eq_false, not_false_eq_true, Nat.reduceLeDiff, Nat.reduceEqDiff, Nat.reduceLT, Nat.reduceAdd, Nat.reduceMul, Nat.reduceSub, Int.reduceLT, Int.reduceLE, Int.reduceEq, Int.reduceToNat, Int.reduceAdd, Int.reduceSub, Int.reduceMul, Int.reduceNeg, Int.cast_ofNat_Int, false_and, and_false]
    refine S_fillI (n := 38400) g4 (by rw [hK_wI]; exact K4) (by omega) ?_
    intro h2 f2 z2
    have sh2 := (sh.fr f1).fr f2
    simp only [psh_none, rX7_forgetGoer_29, rX7_forgetGoer_30, rX7_forgetGoer_33, rX7_forgetGoer_34, rX7_forgetGoer_35, rX7_forgetGoer_36, sh2.1, sh2.2.2.2.2.1, sh2.2.2.2.2.2.2.2.2.2.2.2.2.2.2.2.2.2.1, g6, g5, Int.toNat_natCast, Int.natCast_nonneg, true_and, and_true, and_self, if_true, if_false, or_true, true_or, or_false, false_or, ne_eq, not_true_eq_false, not_false_eq_true, Nat.reduceLeDiff, Nat.reduceEqDiff, Nat.reduceLT, Nat.reduceAdd, Nat.reduceMul, Nat.reduceSub, Int.reduceLT, Int.reduceLE, Int.reduceEq, Int.reduceToNat, Int.reduceAdd, Int.reduceSub, Int.reduceMul, Int.reduceNeg, Int.cast_ofNat_Int, false_and, and_false]
    have f3 : Fp (fgP se) h (wI h2 (se + 5) g 1) := (f1.trans (f2.mono (fun a k q => Or.inl q))).wI (Or.inr rfl) _
    refine k _ f3 (fun g' hg' => ?_) (Or.inr ⟨by rw [hI_wI, if_pos ⟨rfl, rfl⟩], fun j hj => ?_⟩)
    · rw [hI_wI, if_neg (fun q => hg' q.2), f2.I (fun q => d45 q.symm), hI_wI, if_neg (fun q => hg' q.2)]
    · rw [hI_wI, if_neg (fun q => d45 q.1)]; exact z2 j hj
  · rw [if_neg hc]
    simp only [rX7_forgetGoer_36]
    refine k _ f1 (fun g' hg' => by rw [hI_wI, if_neg (fun q => hg' q.2)]) (Or.inl ⟨by rw [hI_wI, if_pos ⟨rfl, rfl⟩], by omega, fun j => by rw [hI_wI, if_neg (fun q => d45 q.1)]⟩)
/-- what holds of what is kept, whatever pool it is for -/
def Ob (h : Hp) (se : Nat) : Prop := (∀ g, g < 6 → 1 ≤ hI h (se + 5) g ∧ hI h (se + 5) g ≤ 100000) ∧ (∀ (g s : Nat), g < 6 → s < 6400 → 0 ≤ hI h (se + 4) (6400 * g + s) ∧ hI h (se + 4) (6400 * g + s) / 8192 ≤ hI h (se + 5) g) ∧ ∀ s, s < 6400 → 0 ≤ hI h (se + 7) s
def Vd (h : Hp) (se : Nat) (B F : Nat → Int) (g : Nat) : Prop := ∀ s, s < 6400 → hI h (se + 4) (6400 * g + s) / 8192 = hI h (se + 5) g → hI h (se + 4) (6400 * g + s) % 8192 = (nxt B F g s : Int)
theorem SrA.ob {h : Hp} {se : Nat} {B F : Nat → Int} (x : SrA h se B F) : Ob h se ∧ ∀ g : Nat, g < 6 → (g : Int) < B 2 → Vd h se B F g := ⟨⟨x.1, fun g s hg hs => ⟨(x.2.1 g s hg hs).1, (x.2.1 g s hg hs).2.1⟩, x.2.2⟩, fun g hg hb s hs => (x.2.1 g s hg hs).2.2 hb⟩
theorem SrA.mk {h : Hp} {se : Nat} {B F : Nat → Int} (x : Ob h se) (v : ∀ g : Nat, g < 6 → (g : Int) < B 2 → Vd h se B F g) : SrA h se B F := ⟨x.1, fun g s hg hs => ⟨(x.2.1 g s hg hs).1, (x.2.1 g s hg hs).2, fun hb => v g hg hb s hs⟩, x.2.2⟩
theorem fg_lt {g s : Nat} (hg : g < 6) (hs : s < 6400) : 6400 * g + s < 38400 := by omega
theorem fg_a {x y : Int} (h1 : x / 8192 ≤ y) : x / 8192 ≤ y + 1 ∧ x / 8192 ≠ y + 1 := by omega
theorem fg_b {y : Int} (h : 1 ≤ y) : (0 : Int) / 8192 ≤ y ∧ (0 : Int) / 8192 ≠ y := by omega
theorem forget_ob {h h' : Hp} {se g : Nat} (se3 : 314 ≤ se) (hg : g < 6) (o : Ob h se) (f : Fp (fgP se) h h') (c1 : ∀ g', g' ≠ g → hI h' (se + 5) g' = hI h (se + 5) g') (c2 : (hI h' (se + 5) g = hI h (se + 5) g + 1 ∧ hI h (se + 5) g + 1 ≤ 100000 ∧ ∀ j, hI h' (se + 4) j = hI h (se + 4) j) ∨ (hI h' (se + 5) g = 1 ∧ ∀ j, j < 38400 → hI h' (se + 4) j = 0)) : Ob h' se ∧ (∀ B F, Vd h' se B F g) ∧ ∀ B F g', g' < 6 → g' ≠ g → Vd h se B F g' → Vd h' se B F g' := by
  obtain ⟨o1, o2, o3⟩ := o
  have n7 : ∀ k, ¬ fgP se (se + 7) k := fun k => by unfold fgP; omega
  have a' : ∀ g', g' < 6 → 1 ≤ hI h' (se + 5) g' ∧ hI h' (se + 5) g' ≤ 100000 := fun g' hg' => by
    by_cases he : g' = g
    · subst he
      have := (o1 g' hg').1
      rcases c2 with ⟨q1, q2, _⟩ | ⟨q1, _⟩
      · rw [q1]; exact ⟨by omega, q2⟩
      · rw [q1]; exact ⟨by decide, by decide⟩
    · rw [c1 g' he]; exact o1 g' hg'
  rcases c2 with ⟨q1, q2, q3⟩ | ⟨q1, q3⟩
  · refine ⟨⟨a', fun g' s hg' hs => ?_, fun s hs => by rw [f.I (n7 _)]; exact o3 s hs⟩, fun B F s hs he => ?_, fun B F g' hg' hne v s hs he => ?_⟩
    · rw [q3]
      refine ⟨(o2 g' s hg' hs).1, ?_⟩
      by_cases he : g' = g
      · subst he; rw [q1]; exact (fg_a (o2 g' s hg' hs).2).1
      · rw [c1 g' he]; exact (o2 g' s hg' hs).2
    · rw [q3, q1] at he
      exact absurd he (fg_a (o2 g s hg hs).2).2
    · rw [q3] at he ⊢
      rw [c1 g' hne] at he
      exact v s hs he
  · refine ⟨⟨a', fun g' s hg' hs => ?_, fun s hs => by rw [f.I (n7 _)]; exact o3 s hs⟩, fun B F s hs he => ?_, fun B F g' hg' hne v s hs he => ?_⟩
    · rw [q3 _ (fg_lt hg' hs)]
      exact ⟨Int.le_refl _, (fg_b (a' g' hg').1).1⟩
    · rw [q3 _ (fg_lt hg hs)] at he
      exact absurd he (fg_b (a' g hg).1).2
    · rw [q3 _ (fg_lt hg' hs)] at he
      exact absurd he (fg_b (a' g' hg').1).2
