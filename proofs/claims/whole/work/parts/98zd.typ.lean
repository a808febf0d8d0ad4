/-! what is read is a law that can be reckoned -/
/-- nothing but one more of a kind lies on the pile behind it -/
def Grow (X : TX) (w : Nat) (ty : Bool) (B q : Nat) (cs : List Int) (q' : Nat) (cs' : List Int) : Prop := q ≤ q' ∧ (q ≤ X.2 → q' ≤ X.2) ∧ ∃ e, cs' = cs ++ e ∧ e.length + q ≤ q' ∧ ∀ t, t.length ≤ B → trun w e t = some (ty :: t)
def TYP (X : TX) (w : Nat) (f : PS → PS) (ty : Bool) (B : Nat) : Prop := (∀ e, f (.inr e) = .inr e) ∧ ∀ q cs q' cs', f (.inl (q, cs)) = .inl (q', cs') → Grow X w ty B q cs q' cs'
theorem nx_ok {X : TX} {r : PS} {q' : Nat} {cs' : List Int} (h : nx X r = .inl (q', cs')) : ∃ q, r = .inl (q, cs') ∧ q' = tBh X q := by
  cases r with
  | inl x => obtain ⟨q, cs⟩ := x; cases h; exact ⟨q, rfl, rfl⟩
  | inr e => cases h
theorem fl_ok {X : TX} {z : Int} {r : PS} {x : Nat × List Int} (h : fl X z r = .inl x) : False := by
  cases r with
  | inl x => cases h
  | inr e => cases h
theorem em_ok {c : Int} {r : PS} {q' : Nat} {cs' : List Int} (h : em c r = .inl (q', cs')) : ∃ cs, r = .inl (q', cs) ∧ cs' = cs ++ [c] := by
  cases r with
  | inl x => obtain ⟨q, cs⟩ := x; cases h; exact ⟨cs, rfl, rfl⟩
  | inr e => cases h
theorem eat_ok {X : TX} {k : Int} {r : PS} {q' : Nat} {cs' : List Int} (h : eat X k r = .inl (q', cs')) : ∃ q, r = .inl (q, cs') ∧ q' = tBh X q ∧ tk X q = k := by
  unfold eat at h
  split at h
  · rename_i hk
    obtain ⟨q, rfl, e⟩ := nx_ok h
    exact ⟨q, rfl, e, hk⟩
  · exact (fl_ok h).elim
theorem TYP.ok {X : TX} {w : Nat} {f : PS → PS} {ty : Bool} {B : Nat} (a : TYP X w f ty B) {r : PS} {q' : Nat} {cs' : List Int} (h : f r = .inl (q', cs')) : ∃ q cs, r = .inl (q, cs) ∧ Grow X w ty B q cs q' cs' := by
  cases r with
  | inl x => obtain ⟨q, cs⟩ := x; exact ⟨q, cs, rfl, a.2 q cs q' cs' h⟩
  | inr e => rw [a.1 e] at h; cases h
theorem TYP.mono {X : TX} {w : Nat} {f : PS → PS} {ty : Bool} {B B' : Nat} (a : TYP X w f ty B) (h : B' ≤ B) : TYP X w f ty B' := by
  refine ⟨a.1, fun q cs q' cs' e => ?_⟩
  obtain ⟨h1, h2, x, h3, h4, h5⟩ := a.2 q cs q' cs' e
  exact ⟨h1, h2, x, h3, h4, fun t ht => h5 t (Nat.le_trans ht h)⟩
theorem tr1 {w : Nat} {c : Int} {t u : List Bool} (h : tstep w c t = some u) : trun w [c] t = some u := by
  unfold trun; rw [h]; rfl
theorem tr2 {w : Nat} {a b : List Int} {t u v : List Bool} (h1 : trun w a t = some u) (h2 : trun w b u = some v) : trun w (a ++ b) t = some v := by
  rw [trun_app, h1]; exact h2
theorem bad_nx (X : TX) (e : Int × Nat) : nx X (.inr e) = .inr e := rfl
theorem bad_tk (X : TX) (e : Int × Nat) : tkr X (.inr e) = -1 := rfl
theorem lp_bad {X : TX} {g : Int → Int} {A : PS → PS} (hg : g (-1) = 0) (m : Nat) (e : Int × Nat) : lp X g A m (.inr e) = .inr e := by
  cases m with
  | zero => rfl
  | succ m => unfold lp; rw [bad_tk, hg, if_neg (by decide)]
theorem lp_typ {X : TX} {w : Nat} {g : Int → Int} {A : PS → PS} {ty : Bool} {B : Nat} (a : TYP X w A ty (B + 1)) (hg : ∀ k, g k ≠ 0 → k ≠ 25 ∧ ∀ t, tstep w (g k) (ty :: ty :: t) = some (ty :: t)) : ∀ m q cs q' cs', lp X g A m (.inl (q, cs)) = .inl (q', cs') → q ≤ q' ∧ (q ≤ X.2 → q' ≤ X.2) ∧ ∃ e, cs' = cs ++ e ∧ e.length + q ≤ q' ∧ ∀ t, t.length ≤ B → trun w e (ty :: t) = some (ty :: t) := by
  intro m
  induction m with
  | zero => intro q cs q' cs' h; cases h; exact ⟨Nat.le_refl _, id, [], by simp, by simp, fun t _ => rfl⟩
  | succ m ih =>
    intro q cs q' cs' h
    unfold lp at h
    by_cases hk : g (tkr X (.inl (q, cs))) ≠ 0
    · rw [if_pos hk] at h
      obtain ⟨g1, g2⟩ := hg _ hk
      have hq : q + 1 ≤ tBh X q := tBh_gt g1
      have hx : nx X (.inl (q, cs)) = .inl (tBh X q, cs) := rfl
      rw [hx] at h
      cases hA : A (.inl (tBh X q, cs)) with
      | inr e =>
        rw [hA] at h
        have : g (-1) = 0 := by
          by_cases z : g (-1) = 0
          · exact z
          · exfalso
            cases m with
            | zero => cases h
            | succ m =>
              rw [show em (g (tkr X (.inl (q, cs)))) (.inr e) = .inr e from rfl] at h
              have : ∀ m, lp X g A m (.inr e) = .inr e := by
                intro m
                induction m with
                | zero => rfl
                | succ m ih => unfold lp; rw [bad_tk, if_pos z, bad_nx, a.1 e]; exact ih
              rw [this] at h; cases h
        rw [show em (g (tkr X (.inl (q, cs)))) (.inr e) = .inr e from rfl, lp_bad this] at h
        cases h
      | inl x =>
        obtain ⟨q1, c1⟩ := x
        obtain ⟨a1, a2, e1, a3, a4, a5⟩ := a.2 _ _ _ _ hA
        rw [hA] at h
        obtain ⟨b1, b2, e2, b3, b4, b5⟩ := ih _ _ _ _ h
        refine ⟨by omega, fun hq => b2 (a2 (tBh_le hq)), e1 ++ ([g (tkr X (.inl (q, cs)))] ++ e2), ?_, ?_, fun t ht => ?_⟩
        · rw [b3, a3]; simp
        · simp only [List.length_append, List.length_cons, List.length_nil]; omega
        · refine tr2 (a5 (ty :: t) (by simp only [List.length_cons]; omega)) ?_
          exact tr2 (tr1 (g2 t)) (b5 t ht)
    · rw [if_neg hk] at h; cases h; exact ⟨Nat.le_refl _, id, [], by simp, by simp, fun t _ => rfl⟩
theorem two_typ {X : TX} {w : Nat} {g : Int → Int} {A : PS → PS} {ty : Bool} {B : Nat} (a : TYP X w A ty (B + 1)) (hb : g (-1) = 0) (hg : ∀ k, g k ≠ 0 → k ≠ 25 ∧ ∀ t, tstep w (g k) (ty :: ty :: t) = some (ty :: t)) (m : Nat) : TYP X w (fun r => lp X g A m (A r)) ty B := by
  refine ⟨fun e => by show lp X g A m (A (.inr e)) = .inr e; rw [a.1 e, lp_bad hb], fun q cs q' cs' h => ?_⟩
  have h : lp X g A m (A (.inl (q, cs))) = .inl (q', cs') := h
  cases hA : A (.inl (q, cs)) with
  | inr e => rw [hA, lp_bad hb] at h; cases h
  | inl x =>
    obtain ⟨q1, c1⟩ := x
    rw [hA] at h
    obtain ⟨a1, a2, e1, a3, a4, a5⟩ := a.2 _ _ _ _ hA
    obtain ⟨b1, b2, e2, b3, b4, b5⟩ := lp_typ a hg m _ _ _ _ h
    refine ⟨by omega, fun hq => b2 (a2 hq), e1 ++ e2, ?_, ?_, fun t ht => ?_⟩
    · rw [b3, a3]; simp
    · simp only [List.length_append]; omega
    · exact tr2 (a5 t (by omega)) (b5 t ht)
theorem hg_T {law : Nat} (hl : law < 2) (k : Int) (h : gT k ≠ 0) : k ≠ 25 ∧ ∀ t, tstep (5 + law) (gT k) (false :: false :: t) = some (false :: t) := by
  have hw : law = 0 ∨ law = 1 := by omega
  unfold gT at h ⊢
  by_cases e : k = 34
  · subst e; rcases hw with rfl | rfl <;> exact ⟨by decide, fun t => rfl⟩
  · rw [if_neg e] at h; exact absurd rfl h
theorem hg_S {law : Nat} (hl : law < 2) (k : Int) (h : gS k ≠ 0) : k ≠ 25 ∧ ∀ t, tstep (5 + law) (gS k) (false :: false :: t) = some (false :: t) := by
  have hw : law = 0 ∨ law = 1 := by omega
  unfold gS at h ⊢
  by_cases e : k = 32
  · subst e; rcases hw with rfl | rfl <;> exact ⟨by decide, fun t => rfl⟩
  · by_cases e2 : k = 33
    · subst e2; rcases hw with rfl | rfl <;> exact ⟨by decide, fun t => rfl⟩
    · rw [if_neg e, if_neg e2] at h; exact absurd rfl h
theorem hg_A {law : Nat} (hl : law < 2) (k : Int) (h : gA k ≠ 0) : k ≠ 25 ∧ ∀ t, tstep (5 + law) (gA k) (true :: true :: t) = some (true :: t) := by
  have hw : law = 0 ∨ law = 1 := by omega
  unfold gA at h ⊢
  by_cases e : k = 20
  · subst e; rcases hw with rfl | rfl <;> exact ⟨by decide, fun t => rfl⟩
  · rw [if_neg e] at h; exact absurd rfl h
theorem hg_O {law : Nat} (hl : law < 2) (k : Int) (h : gO k ≠ 0) : k ≠ 25 ∧ ∀ t, tstep (5 + law) (gO k) (true :: true :: t) = some (true :: t) := by
  have hw : law = 0 ∨ law = 1 := by omega
  unfold gO at h ⊢
  by_cases e : k = 21
  · subst e; rcases hw with rfl | rfl <;> exact ⟨by decide, fun t => rfl⟩
  · rw [if_neg e] at h; exact absurd rfl h
theorem hg_C {law : Nat} (hl : law < 2) (k : Int) (h : gC k ≠ 0) : k ≠ 25 ∧ ∀ t, tstep (5 + law) (gC k) (false :: false :: t) = some (true :: t) := by
  have hw : law = 0 ∨ law = 1 := by omega
  unfold gC at h ⊢
  by_cases e : k = 39
  · subst e; rcases hw with rfl | rfl <;> exact ⟨by decide, fun t => rfl⟩
  · by_cases e2 : k = 40
    · subst e2; rcases hw with rfl | rfl <;> exact ⟨by decide, fun t => rfl⟩
    · by_cases e3 : k = 41
      · subst e3; rcases hw with rfl | rfl <;> exact ⟨by decide, fun t => rfl⟩
      · rw [if_neg e, if_neg e2, if_neg e3] at h; exact absurd rfl h
theorem wof_r {law : Nat} {k : Int} (h : wof law k ≠ -1) : 0 ≤ wof law k ∧ wof law k < 5 + (law : Int) := by
  unfold wof at h ⊢
  by_cases a : k = 16
  · rw [if_pos a]; omega
  rw [if_neg a] at h ⊢
  by_cases b : k = 8
  · rw [if_pos b]; omega
  rw [if_neg b] at h ⊢
  by_cases c : k = 17
  · rw [if_pos c]; omega
  rw [if_neg c] at h ⊢
  by_cases d : k = 18
  · rw [if_pos d]; omega
  rw [if_neg d] at h ⊢
  by_cases e : k = 7
  · rw [if_pos e] at h ⊢
    by_cases l : law = 0
    · rw [if_pos l]; omega
    · rw [if_neg l] at h; exact absurd rfl h
  rw [if_neg e] at h ⊢
  by_cases f : k = 19
  · rw [if_pos f] at h ⊢
    by_cases l : law = 1
    · rw [if_pos l]; omega
    · rw [if_neg l] at h; exact absurd rfl h
  · rw [if_neg f] at h; exact absurd rfl h
theorem push_ty {law : Nat} {c : Int} (h0 : 0 ≤ c) (h1 : c < 1000 + ((5 + law : Nat) : Int)) {t : List Bool} (ht : t.length ≤ 35) : tstep (5 + law) c t = some (false :: t) := by
  unfold tstep
  rw [if_pos ⟨h0, h1⟩, if_pos (by omega)]
theorem atom_typ {X : TX} {law n B : Nat} (hl : law < 2) {S T : PS → PS} (hB : B ≤ 35) (hs : n ≠ 0 → TYP X (5 + law) S false (B + 2)) (ht : n ≠ 0 → TYP X (5 + law) T true B) : TYP X (5 + law) (pAtom X law n S T) false B := by
  refine ⟨fun e => rfl, fun q cs q' cs' h => ?_⟩
  have hw : law = 0 ∨ law = 1 := by omega
  unfold pAtom at h
  by_cases a : tkr X (.inl (q, cs)) = 24
  · rw [if_pos a] at h
    obtain ⟨rfl, rfl⟩ : q' = tBh X q ∧ cs' = cs ++ [tNm X q] := by cases h; exact ⟨rfl, rfl⟩
    have a : tk X q = 24 := a
    have := tBh_gt (X := X) (q := q) (by rw [a]; decide)
    have nm := tNm_ok X q
    exact ⟨by omega, fun h => tBh_le h, _, rfl, by simp only [List.length_cons, List.length_nil]; omega, fun t ht => tr1 (push_ty nm.1 (by show tNm X q < _; omega) (by omega))⟩
  rw [if_neg a] at h
  by_cases b : wof law (tkr X (.inl (q, cs))) ≠ -1
  · rw [if_pos b] at h
    have wr := wof_r b
    have : tk X q ≠ 25 := fun e => b (by show wof law (tk X q) = -1; rw [e]; rfl)
    have := tBh_gt this
    obtain ⟨rfl, rfl⟩ : q' = tBh X q ∧ cs' = cs ++ [1000 + wof law (tkr X (.inl (q, cs)))] := by cases h; exact ⟨rfl, rfl⟩
    exact ⟨by omega, fun h => tBh_le h, _, rfl, by simp only [List.length_cons, List.length_nil]; omega, fun t ht => tr1 (push_ty (by omega) (by omega) (by omega))⟩
  rw [if_neg b] at h
  by_cases c : tkr X (.inl (q, cs)) = 35
  · rw [if_pos c] at h
    by_cases hn : n = 0
    · rw [if_pos hn] at h; exact (fl_ok h).elim
    rw [if_neg hn] at h
    have g0 : q + 1 ≤ tBh X q := tBh_gt (by show tkr X (.inl (q, cs)) ≠ 25; rw [c]; decide)
    obtain ⟨q1, h_1, rfl, k1⟩ := eat_ok h
    obtain ⟨g1, g2, e, rfl, g4, g5⟩ := (hs hn).2 (tBh X q) cs _ _ h_1
    have g3 : q1 + 1 ≤ tBh X q1 := tBh_gt (by rw [k1]; decide)
    exact ⟨by omega, fun h => tBh_le (g2 (tBh_le h)), e, rfl, by omega, fun t ht => g5 t (by omega)⟩
  rw [if_neg c] at h
  by_cases d : tkr X (.inl (q, cs)) = 12
  · rw [if_pos d] at h
    by_cases hn : n = 0
    · rw [if_pos hn] at h; exact (fl_ok h).elim
    rw [if_neg hn] at h
    have g0 : q + 1 ≤ tBh X q := tBh_gt (by show tkr X (.inl (q, cs)) ≠ 25; rw [d]; decide)
    obtain ⟨c5, h_2, rfl⟩ := em_ok h
    obtain ⟨q5, h_3, rfl, k5⟩ := eat_ok h_2
    obtain ⟨q4, c4, h_4, i1, i2, e3, rfl, i4, i5⟩ := (hs hn).ok h_3
    obtain ⟨q3, h_5, rfl, k3⟩ := eat_ok h_4
    obtain ⟨q2, c2, h_6, j1, j2, e2, rfl, j4, j5⟩ := (hs hn).ok h_5
    obtain ⟨q1, h_7, rfl, k1⟩ := eat_ok h_6
    obtain ⟨m1, m2, e1, rfl, m4, m5⟩ := (ht hn).2 (tBh X q) cs _ _ h_7
    have g1 : q1 + 1 ≤ tBh X q1 := tBh_gt (by rw [k1]; decide)
    have g3 : q3 + 1 ≤ tBh X q3 := tBh_gt (by rw [k3]; decide)
    have g5 : q5 + 1 ≤ tBh X q5 := tBh_gt (by rw [k5]; decide)
    refine ⟨by omega, fun h => tBh_le (i2 (tBh_le (j2 (tBh_le (m2 (tBh_le h)))))), e1 ++ (e2 ++ (e3 ++ [3009])), by simp, ?_, fun t ht => ?_⟩
    · simp only [List.length_append, List.length_cons, List.length_nil]; omega
    · refine tr2 (m5 t (by omega)) (tr2 (j5 _ (by simp only [List.length_cons]; omega)) (tr2 (i5 _ (by simp only [List.length_cons]; omega)) (tr1 ?_)))
      rcases hw with rfl | rfl <;> rfl
  rw [if_neg d] at h
  exact (fl_ok h).elim
theorem unit_typ {X : TX} {law n B : Nat} (hl : law < 2) {S U T : PS → PS} (hs : TYP X (5 + law) S false (B + 1)) (hu : n ≠ 0 → TYP X (5 + law) U true B) (ht : n ≠ 0 → TYP X (5 + law) T true B) : TYP X (5 + law) (pUnit X n S U T) true B := by
  have hw : law = 0 ∨ law = 1 := by omega
  refine ⟨fun e => ?_, fun q cs q' cs' h => ?_⟩
  · unfold pUnit pCmp; rw [hs.1 e]; rfl
  unfold pUnit at h
  by_cases a : tkr X (.inl (q, cs)) = 22
  · rw [if_pos a] at h
    by_cases hn : n = 0
    · rw [if_pos hn] at h; exact (fl_ok h).elim
    rw [if_neg hn] at h
    have g0 : q + 1 ≤ tBh X q := tBh_gt (by show tkr X (.inl (q, cs)) ≠ 25; rw [a]; decide)
    obtain ⟨c1, h_8, rfl⟩ := em_ok h
    obtain ⟨m1, m2, e1, rfl, m4, m5⟩ := (hu hn).2 (tBh X q) cs _ _ h_8
    refine ⟨by omega, fun h => m2 (tBh_le h), e1 ++ [3006], by simp, by simp only [List.length_append, List.length_cons, List.length_nil]; omega, fun t ht => tr2 (m5 t ht) (tr1 ?_)⟩
    rcases hw with rfl | rfl <;> rfl
  rw [if_neg a] at h
  by_cases b : tkr X (.inl (q, cs)) = 37
  · rw [if_pos b] at h
    by_cases hn : n = 0
    · rw [if_pos hn] at h; exact (fl_ok h).elim
    rw [if_neg hn] at h
    have g0 : q + 1 ≤ tBh X q := tBh_gt (by show tkr X (.inl (q, cs)) ≠ 25; rw [b]; decide)
    obtain ⟨q1, h_9, rfl, k1⟩ := eat_ok h
    obtain ⟨g1, g2, e, rfl, g4, g5⟩ := (ht hn).2 (tBh X q) cs _ _ h_9
    have g3 : q1 + 1 ≤ tBh X q1 := tBh_gt (by rw [k1]; decide)
    exact ⟨by omega, fun h => tBh_le (g2 (tBh_le h)), e, rfl, by omega, fun t ht => g5 t (by omega)⟩
  rw [if_neg b] at h
  unfold pCmp at h
  by_cases c : gC (tkr X (S (.inl (q, cs)))) ≠ 0
  · rw [if_pos c] at h
    obtain ⟨z1, z2⟩ := hg_C hl _ c
    obtain ⟨c1, h_10, rfl⟩ := em_ok h
    obtain ⟨q2, c2, h_11, i1, i2, e3, rfl, i4, i5⟩ := hs.ok h_10
    obtain ⟨q1, h_12, rfl⟩ := nx_ok h_11
    rw [h_12] at z1 z2
    obtain ⟨m1, m2, e1, rfl, m4, m5⟩ := hs.2 q cs _ _ h_12
    have g1 : q1 + 1 ≤ tBh X q1 := tBh_gt z1
    refine ⟨by omega, fun h => i2 (tBh_le (m2 h)), e1 ++ (e3 ++ [gC (tkr X (S (.inl (q, cs))))]), by simp, ?_, fun t ht => ?_⟩
    · simp only [List.length_append, List.length_cons, List.length_nil]; omega
    · rw [h_12]
      exact tr2 (m5 t (by omega)) (tr2 (i5 _ (by simp only [List.length_cons]; omega)) (tr1 (z2 t)))
  · rw [if_neg c] at h; exact (fl_ok h).elim
def LT (X : TX) (law n : Nat) (l : LV) : Prop := TYP X (5 + law) l.1 false (33 - 5 * n) ∧ TYP X (5 + law) l.2.1 true (32 - 5 * n) ∧ TYP X (5 + law) l.2.2 true (30 - 5 * n)
theorem mk_typ {X : TX} {law n : Nat} (hl : law < 2) {l : LV} (hn : n ≤ 6) (hs : n ≠ 0 → LT X law (n - 1) l) : LT X law n (pSum X law n l, pUn X law n l, pTruth X law n l) := by
  have a : TYP X (5 + law) (pAtom X law n l.1 l.2.2) false (35 - 5 * n) := atom_typ hl (by omega) (fun h => (hs h).1.mono (by omega)) (fun h => (hs h).2.2.mono (by omega))
  have t : TYP X (5 + law) (pTerm X law n l) false (34 - 5 * n) := two_typ (a.mono (by omega)) rfl (hg_T hl) 900
  have s : TYP X (5 + law) (pSum X law n l) false (33 - 5 * n) := two_typ (t.mono (by omega)) rfl (hg_S hl) 900
  have u : TYP X (5 + law) (pUn X law n l) true (32 - 5 * n) := unit_typ hl (s.mono (by omega)) (fun h => (hs h).2.1.mono (by omega)) (fun h => (hs h).2.2.mono (by omega))
  have b : TYP X (5 + law) (pBoth X law n l) true (31 - 5 * n) := two_typ (u.mono (by omega)) rfl (hg_A hl) 900
  exact ⟨s, u, two_typ (b.mono (by omega)) rfl (hg_O hl) 900⟩
theorem lvl_typ {X : TX} {law : Nat} (hl : law < 2) : ∀ n, n ≤ 6 → LT X law n (lvl X law n)
  | 0, h => mk_typ hl h (fun z => absurd rfl z)
  | n + 1, h => mk_typ hl h (fun _ => lvl_typ hl n (by omega))
