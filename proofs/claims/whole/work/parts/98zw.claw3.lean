/-! the class reads lines: what is kept besides, laws -/
def LX (k : Nat) : Prop := (3 ≤ k ∧ k ≤ 8) ∨ 188 ≤ k
/-- a step that touches no law -/
def Kp (X : TX) (r r' : LN) : Prop := ∀ q' A', r' = .inl (q', A') → ∃ q A, r = .inl (q, A) ∧ (q ≤ X.2 → q ≤ q' ∧ q' ≤ X.2) ∧ ∀ k, LX k → A' k = A k
theorem Kp.refl (X : TX) (r : LN) : Kp X r r := fun q A e => ⟨q, A, e, fun h => ⟨Nat.le_refl q, h⟩, fun _ _ => rfl⟩
theorem Kp.trans {X : TX} {r r1 r2 : LN} (a : Kp X r r1) (b : Kp X r1 r2) : Kp X r r2 := fun q A e => by
  obtain ⟨q1, A1, e1, m1, k1⟩ := b q A e
  obtain ⟨q0, A0, e0, m0, k0⟩ := a q1 A1 e1
  exact ⟨q0, A0, e0, fun h => ⟨Nat.le_trans (m0 h).1 (m1 (m0 h).2).1, (m1 (m0 h).2).2⟩, fun k hk => (k1 k hk).trans (k0 k hk)⟩
theorem kp_mv {X : TX} {s : TS → TS} (hs : ∀ q q', q ≤ X.2 → s (.inl q) = .inl q' → q ≤ q' ∧ q' ≤ X.2) (r : LN) : Kp X r (mvn s r) := fun q A e => by
  obtain ⟨q0, e0, e1⟩ := mvn_inl e
  exact ⟨q0, A, e0, fun h => hs q0 q h e1, fun _ _ => rfl⟩
theorem kp_mp {X : TX} {f : (Nat → Int) → (Nat → Int)} (hf : ∀ A k, LX k → f A k = A k) (r : LN) : Kp X r (mpl f r) := fun q A e => by
  cases r with
  | inl y =>
    obtain ⟨q0, A0⟩ := y
    have e1 : q0 = q ∧ f A0 = A := by cases e; exact ⟨rfl, rfl⟩
    exact ⟨q0, A0, rfl, fun h => by rw [← e1.1]; exact ⟨Nat.le_refl _, h⟩, fun k hk => by rw [← e1.2]; exact hf A0 k hk⟩
  | inr e1 => cases e
theorem kp_st {X : TX} {m : Int} {f : Int → (Nat → Int) → (Nat → Int)} (hf : ∀ v A k, LX k → f v A k = A k) (r : LN) : Kp X r (stl X m f r) := (kp_mv tkN_mono r).trans (kp_mp (hf _) _)
theorem up_lx {A : Nat → Int} {i : Nat} {v : Int} (h : i < 188) (h2 : ¬ (3 ≤ i ∧ i ≤ 8)) (k : Nat) (hk : LX k) : upA A i v k = A k := if_neg (by unfold LX at hk; omega)
theorem kp_part {X : TX} {t : Nat} (ht : t < 6) (r : LN) : Kp X r (gPart X t r) := by
  unfold gPart
  split
  · exact (kp_mv nx_mono r).trans (kp_st (fun v A k hk => up_lx (by omega) (by omega) k hk) _)
  · split
    · exact (kp_mv nx_mono r).trans (kp_st (fun v A k hk => up_lx (by omega) (by omega) k hk) _)
    · exact (kp_mv nx_mono r).trans (kp_mp (fun A k hk => up_lx (by omega) (by omega) k hk) _)
theorem kp_parts {X : TX} {t : Nat} (ht : t < 6) : ∀ m r, Kp X r (pParts X t m r) := by
  intro m
  induction m with
  | zero => intro r; exact Kp.refl X r
  | succ m ih =>
    intro r
    unfold pParts
    split
    · exact (kp_part ht r).trans (ih _)
    · exact Kp.refl X r
theorem kp_thing {X : TX} {r : LN} (iv : Inv X AI r) : Kp X r (pThing X r) := by
  cases r with
  | inr e => exact Kp.refl X _
  | inl y =>
    have b := ((iv y.1 y.2 rfl).1.1 1 (by decide)).1 (by decide) (by decide)
    show Kp X (.inl y) (if y.2 1 = 6 then _ else _)
    by_cases c : y.2 1 = 6
    · rw [if_pos c]; exact kp_mv fl_mono _
    · rw [if_neg c]
      have ht : (y.2 1).toNat < 6 := by omega
      exact (kp_mv nx_mono _).trans ((kp_mv eat_mono _).trans ((kp_st (fun v A k hk => up_lx (by omega) (by omega) k hk) _).trans ((kp_parts ht 900 _).trans (kp_mp (fun A k hk => up_lx (by omega) (by omega) k hk) _))))
theorem kp_flag {X : TX} {t : Nat} (ht : t < 6) (r : LN) : Kp X r (gFlag X t r) := by
  unfold gFlag
  split
  · exact (kp_mv nx_mono r).trans (kp_st (fun v A k hk => up_lx (by omega) (by omega) k hk) _)
  · exact (kp_mv nx_mono r).trans (kp_st (fun v A k hk => up_lx (by omega) (by omega) k hk) _)
theorem kp_flags {X : TX} {t : Nat} (ht : t < 6) : ∀ m r, Kp X r (pFlags X t m r) := by
  intro m
  induction m with
  | zero => intro r; exact Kp.refl X r
  | succ m ih =>
    intro r
    unfold pFlags
    split
    · exact (kp_flag ht r).trans (ih _)
    · exact Kp.refl X r
theorem kp_goer {X : TX} {r : LN} (iv : Inv X AI r) : Kp X r (pGoer X r) := by
  cases r with
  | inr e => exact Kp.refl X _
  | inl y =>
    have b := ((iv y.1 y.2 rfl).1.1 2 (by decide)).1 (by decide) (by decide)
    show Kp X (.inl y) (if y.2 2 = 6 then _ else _)
    by_cases c : y.2 2 = 6
    · rw [if_pos c]; exact kp_mv fl_mono _
    · rw [if_neg c]
      have ht : (y.2 2).toNat < 6 := by omega
      exact (kp_mv nx_mono _).trans ((kp_mv eat_mono _).trans ((kp_st (fun v A k hk => up_lx (by omega) (by omega) k hk) _).trans ((kp_mp (fun A k hk => up_lx (by omega) (by omega) k hk) _).trans ((kp_flags ht 900 _).trans (kp_mp (fun A k hk => up_lx (by omega) (by omega) k hk) _)))))
theorem kp_end (X : TX) (r : LN) : Kp X r (pEnd X r) := (kp_mv eat_mono r).trans (kp_mp (fun A k hk => up_lx (by omega) (by omega) k hk) _)
theorem lawA_kp {A A' : Nat → Int} (h : ∀ k, LX k → A' k = A k) {l : Nat} (hl : l < 2) : lawA A' l = lawA A l := by
  unfold lawA
  rw [h (3 + l) (by unfold LX; omega), h (5 + l) (by unfold LX; omega), h (7 + l) (by unfold LX; omega)]
  have : (fun k => A' (189 + (A (5 + l)).toNat + k)) = fun k => A (189 + (A (5 + l)).toNat + k) := funext (fun k => h _ (by unfold LX; omega))
  rw [this]
def CS (pl a : Nat) : Prop := a = 201 ∨ a = 203 ∨ (pl ≤ a ∧ a ≤ pl + 6)
def LwIs (h0 h : Hp) (pl : Nat) (A : Nat → Int) : Prop := ∀ l, l < 2 → lawAt h (hR h pl (6 + l)) (lawA A l) ∧ (hR h pl (6 + l) = 90 ∨ (200 + hN h0 ≤ hR h pl (6 + l) ∧ hR h pl (6 + l) < 200 + hN h))
def CFu (X : TX) (pl : Nat) (h0 h : Hp) (b : Nat) (r : LN) : Prop := CLn X pl h b r ∧ Fa (CS pl) h0 h ∧ pl + 6 < 200 + hN h0 ∧ (hN h ≤ hN h0 + X.2 ∧ hS h ≤ hS h0 + X.2) ∧ ∀ q A, r = .inl (q, A) → (hN h ≤ hN h0 + q ∧ hS h ≤ hS h0 + q) ∧ LwIs h0 h pl A
theorem LwIs.fp {h0 h h' : Hp} {pl : Nat} {A A' : Nat → Int} (x : LwIs h0 h pl A) (f : Fp (PW pl) h h') (hp : pl + 6 < 200 + hN h0) (h3 : 314 ≤ pl) (ka : ∀ k, LX k → A' k = A k) : LwIs h0 h' pl A' := by
  intro l hl
  obtain ⟨⟨a1, a2, a3⟩, b1⟩ := x l hl
  rw [f.R, lawA_kp ka hl, f.N]
  refine ⟨⟨(f.K _).trans a1, a2, fun j hj => (f.I ?_).trans (a3 j hj)⟩, b1⟩
  clear a1 a3
  unfold PW
  omega
theorem CFu.fp {X : TX} {pl : Nat} {h0 h h' : Hp} {b b' : Nat} {r r' : LN} (x : CFu X pl h0 h b r) (f : Fp (PW pl) h h') (y : CLn X pl h' b' r') (kp : Kp X r r') : CFu X pl h0 h' b' r' := by
  obtain ⟨x1, x2, x3, x4, x5⟩ := x
  refine ⟨y, x2.trans (f.fa (fun a k p => by unfold PW at p; unfold CS; omega)), x3, by rw [f.N, f.S]; exact x4, fun q A e => ?_⟩
  obtain ⟨q0, A0, e0, m0, k0⟩ := kp q A e
  obtain ⟨⟨n1, n2⟩, l1⟩ := x5 q0 A0 e0
  have hq : q0 ≤ X.2 := by
    have t := x1.2.1
    rw [e0] at t
    exact t.2.1
  have mm := (m0 hq).1
  refine ⟨⟨by rw [f.N]; omega, by rw [f.S]; omega⟩, l1.fp f x3 x1.2.2.2.1.1 k0⟩
theorem CGd.fa {S : Nat → Prop} {X : TX} {h h' : Hp} (g : CGd X h) (f : Fa S h h') (n : 114 ≤ hN h) (hs : ∀ a, a < 204 → ¬ S a) : CGd X h' := by
  obtain ⟨sg, K, R0, R1, K2, K3, I4, hX, T⟩ := g
  refine ⟨sg.eq (fun a ha => ⟨f.K (by omega) (hs a (by omega)), fun k => ⟨f.I (by omega) (hs a (by omega)) k, f.R (by omega) (hs a (by omega)) k⟩⟩), (f.K (by omega) (hs _ (by decide))).trans K, (f.R (by omega) (hs _ (by decide)) _).trans R0, (f.R (by omega) (hs _ (by decide)) _).trans R1, (f.K (by omega) (hs _ (by decide))).trans K2, (f.K (by omega) (hs _ (by decide))).trans K3, (f.I (by omega) (hs _ (by decide)) _).trans I4, hX, fun k hk => ⟨(f.I (by omega) (hs _ (by decide)) _).trans (T k hk).1, (T k hk).2⟩⟩
theorem CTok.eq {X : TX} {h h' : Hp} {b : Nat} {s : TS} (t : CTok X h b s) (e : ∀ i, hI h' 201 i = hI h 201 i) : CTok X h' b s := by
  cases s with
  | inl q =>
    obtain ⟨t1, t2, t3, t4, t5⟩ := t
    refine ⟨t1, t2, ?_, ?_, ?_⟩
    · rw [e 5]; exact t3
    · rw [e 7, e 11, e 12]; exact t4
    · rw [e 7, e 11, e 12, e 6, e 8]; exact t5
  | inr z =>
    obtain ⟨t1, t2, t3, t4⟩ := t
    exact ⟨t1, (e 7).trans t2, (e 11).trans t3, (e 12).trans t4⟩
/-- a new row of codes, laid into the pool -/
def lay (h : Hp) (pl law s : Nat) : Hp := wR (cpI (nw h 21 s s) 203 0 (200 + hN h) 0 s) pl (6 + law) (200 + hN h)
theorem lay_fa {h : Hp} {pl law s : Nat} (hp : pl < 200 + hN h) : Fa (fun a => a = pl) h (lay h pl law s) := by
  have a : Fa (fun a => a = pl ∨ 200 + hN h ≤ a) h (lay h pl law s) := by
    unfold lay
    exact Fa.wR (Fa.cp (Fa.nw (Fa.refl _ h) _ _ _) (Or.inr (Nat.le_refl _)) _ _ _ _) (Or.inl rfl) _ _
  exact ⟨a.1, fun q hq hs => a.2 q hq (fun z => z.elim hs (fun z => by omega))⟩
theorem lay_N {h : Hp} {pl law s : Nat} : hN (lay h pl law s) = hN h + 1 ∧ hS (lay h pl law s) = hS h + s := ⟨rfl, rfl⟩
theorem lay_pl {h : Hp} {pl law s : Nat} (hp : pl < 200 + hN h) : hK (lay h pl law s) pl = hK h pl ∧ (∀ k, hI (lay h pl law s) pl k = hI h pl k) ∧ hR (lay h pl law s) pl (6 + law) = 200 + hN h ∧ ∀ k, k ≠ 6 + law → hR (lay h pl law s) pl k = hR h pl k := by
  unfold lay
  have n1 : ¬ pl = 200 + hN h := by omega
  refine ⟨?_, fun k => ?_, ?_, fun k hk => ?_⟩
  · rw [hK_wR, hK_cp, hK_nw, if_neg n1]
  · rw [hI_wR, hI_cp, if_neg (fun z => n1 z.1), hI_nw, if_neg n1]
  · rw [hR_wR, if_pos ⟨rfl, rfl⟩]
  · rw [hR_wR, if_neg (fun z => hk z.2), hR_cp, hR_nw, if_neg n1]
theorem lay_row {h : Hp} {pl law s : Nat} (hp : pl < 200 + hN h) (hn : 114 ≤ hN h) : hK (lay h pl law s) (200 + hN h) = (21, s) ∧ ∀ j, j < s → hI (lay h pl law s) (200 + hN h) j = hI h 203 j := by
  unfold lay
  refine ⟨?_, fun j hj => ?_⟩
  · rw [hK_wR, hK_cp, hK_nw, if_pos rfl]
  · rw [hI_wR, hI_cp, if_pos ⟨rfl, Nat.zero_le _, by omega⟩, hI_nw, if_neg (by omega), Nat.sub_zero, Nat.zero_add]
