/-! suspects -/
def CI (f : Nat → Nat → Nat) (ok : Nat → Nat → Bool) (G l : Nat) (L : List Nat) : Nat → Nat → Prop
  | 0, t => t = L.getD 0 0
  | i + 1, t => ∃ p, p < L.length ∧ CI f ok G l L i (L.getD p 0) ∧ ∃ g, g < G ∧ lead f ok G l i (L.getD p 0) g = true ∧ f g (L.getD p 0) = t
theorem spG_p {f : Nat → Nat → Nat} {ok : Nat → Bool} {s v t : Nat} : ∀ (n : Nat) (D : Nat → Nat), 0 < spG f (fun _ => 1) ok s v n D t ↔ 0 < D t ∨ (0 < v ∧ ∃ g, g < n ∧ f g s = t ∧ ok t = true) := by
  intro n
  induction n with
  | zero => intro D; exact ⟨fun h => Or.inl h, fun h => h.elim id (fun ⟨_, g, hg, _⟩ => by omega)⟩
  | succ n ih =>
    intro D
    unfold spG
    by_cases ho : ok (f n s) = true
    · rw [if_pos ho]
      unfold adN
      by_cases ht : t = f n s
      · rw [if_pos ht, Nat.mul_one]
        constructor
        · intro h
          by_cases hv : 0 < v
          · exact Or.inr ⟨hv, n, by omega, ht.symm, by rw [ht]; exact ho⟩
          · rcases (ih D).1 (by omega) with h1 | ⟨h1, _⟩
            · exact Or.inl h1
            · exact absurd h1 hv
        · rintro (h | ⟨hv, _⟩)
          · have := (ih D).2 (Or.inl h); omega
          · omega
      · rw [if_neg ht, ih D]
        constructor
        · rintro (h | ⟨hv, g, hg, e⟩)
          · exact Or.inl h
          · exact Or.inr ⟨hv, g, by omega, e⟩
        · rintro (h | ⟨hv, g, hg, e1, e2⟩)
          · exact Or.inl h
          · by_cases hgn : g = n
            · exact absurd (by rw [← e1, hgn]) ht
            · exact Or.inr ⟨hv, g, by omega, e1, e2⟩
    · rw [if_neg ho, ih D]
      constructor
      · rintro (h | ⟨hv, g, hg, e⟩)
        · exact Or.inl h
        · exact Or.inr ⟨hv, g, by omega, e⟩
      · rintro (h | ⟨hv, g, hg, e1, e2⟩)
        · exact Or.inl h
        · by_cases hgn : g = n
          · rw [← e1, hgn] at e2; exact absurd e2 ho
          · exact Or.inr ⟨hv, g, by omega, e1, e2⟩
theorem spL_p {f : Nat → Nat → Nat} {ok : Nat → Bool} {L : List Nat} {G : Nat} {D0 : Nat → Nat} {t : Nat} : ∀ n, 0 < spL f (fun _ => 1) ok L G D0 n t ↔ ∃ p, p < n ∧ 0 < D0 (L.getD p 0) ∧ ∃ g, g < G ∧ f g (L.getD p 0) = t ∧ ok t = true := by
  intro n
  induction n with
  | zero => exact ⟨fun h => absurd h (Nat.lt_irrefl 0), fun ⟨p, hp, _⟩ => by omega⟩
  | succ n ih =>
    show 0 < spG f (fun _ => 1) ok (L.getD n 0) (D0 (L.getD n 0)) G (spL f (fun _ => 1) ok L G D0 n) t ↔ _
    rw [spG_p, ih]
    constructor
    · rintro (⟨p, hp, e⟩ | ⟨hv, e⟩)
      · exact ⟨p, by omega, e⟩
      · exact ⟨n, by omega, hv, e⟩
    · rintro ⟨p, hp, e⟩
      by_cases hpn : p = n
      · rw [hpn] at e; exact Or.inr e
      · exact Or.inl ⟨p, by omega, e⟩
/-- whom both find -/
theorem CI_D {f : Nat → Nat → Nat} {ok : Nat → Nat → Bool} {G l : Nat} {L : List Nat} : ∀ i s, CI f ok G l L i s → 0 < spN f (fun _ => 1) ok L G i s := by
  intro i
  induction i with
  | zero =>
    intro s h
    have e : s = L.getD 0 0 := h
    show 0 < (if s = L.getD 0 0 then 1 else 0)
    rw [if_pos e]; exact Nat.one_pos
  | succ i ih =>
    intro s h
    obtain ⟨p, hp, c, g, hg, le, e⟩ := h
    show 0 < spL f (fun _ => 1) (ok i) L G (spN f (fun _ => 1) ok L G i) L.length s
    refine (spL_p L.length).2 ⟨p, hp, ih _ c, g, hg, e, ?_⟩
    unfold lead at le
    rw [Bool.and_eq_true, e] at le
    exact le.1
theorem D_CI {f : Nat → Nat → Nat} {ok : Nat → Nat → Bool} {G l : Nat} {L : List Nat} : ∀ i s, i < l → 0 < spN f (fun _ => 1) ok L G i s → asR f ok G l (l - i) s = true → CI f ok G l L i s := by
  intro i
  induction i with
  | zero =>
    intro s _ h _
    have h' : 0 < (if s = L.getD 0 0 then 1 else 0) := h
    by_cases e : s = L.getD 0 0
    · exact e
    · rw [if_neg e] at h'; exact absurd h' (Nat.lt_irrefl 0)
  | succ i ih =>
    intro s hi h ha
    obtain ⟨p, hp, hd, g, hg, e, eo⟩ := (spL_p L.length).1 h
    have le : lead f ok G l i (L.getD p 0) g = true := by
      unfold lead
      rw [e, eo, Nat.sub_sub, ha]; rfl
    refine ⟨p, hp, ih _ (by omega) hd ?_, g, hg, le, e⟩
    rw [asR_s (by omega)]
    exact (anyB_T G).2 ⟨g, hg, le⟩
theorem D_lead {f : Nat → Nat → Nat} {ok : Nat → Nat → Bool} {G l : Nat} {L : List Nat} {i s g : Nat} (hi : i < l) (hg : g < G) (le : lead f ok G l i s g = true) : CI f ok G l L i s ↔ 0 < spN f (fun _ => 1) ok L G i s := ⟨CI_D i s, fun h => D_CI i s hi h (by rw [asR_s hi]; exact (anyB_T G).2 ⟨g, hg, le⟩)⟩
/-- a set as bits -/
noncomputable def fitP (P : Nat → Prop) (G : Nat) : Nat := fitS (fun g => @decide (P g) (Classical.propDecidable _)) G
theorem fitS_bit (f : Nat → Bool) : ∀ n g, (fitS f n).testBit g = true ↔ g < n ∧ f g = true := by
  intro n
  induction n with
  | zero => intro g; exact ⟨fun h => absurd h (by show ¬ (Nat.testBit 0 g = true); rw [Nat.zero_testBit]; decide), fun h => by omega⟩
  | succ n ih =>
    intro g
    unfold fitS
    by_cases h : f n = true
    · rw [if_pos h, or_bit, Bool.or_eq_true, ih, decide_eq_true_eq]
      constructor
      · rintro (⟨h1, h2⟩ | h1)
        · exact ⟨by omega, h2⟩
        · exact ⟨by omega, by rw [h1]; exact h⟩
      · rintro ⟨h1, h2⟩
        by_cases e : g = n
        · exact Or.inr e
        · exact Or.inl ⟨by omega, h2⟩
    · rw [if_neg h, ih]
      constructor
      · rintro ⟨h1, h2⟩; exact ⟨by omega, h2⟩
      · rintro ⟨h1, h2⟩
        by_cases e : g = n
        · rw [e] at h2; exact absurd h2 h
        · exact ⟨by omega, h2⟩
theorem fitP_bit (P : Nat → Prop) (G g : Nat) : (fitP P G).testBit g = true ↔ g < G ∧ P g := by
  unfold fitP
  rw [fitS_bit]
  exact ⟨fun h => ⟨h.1, @of_decide_eq_true _ (Classical.propDecidable _) h.2⟩, fun h => ⟨h.1, @decide_eq_true _ (Classical.propDecidable _) h.2⟩⟩
theorem fitP_eq {P : Nat → Prop} {G v : Nat} (h : ∀ g, v.testBit g = true ↔ g < G ∧ P g) : v = fitP P G := by
  apply Nat.eq_of_testBit_eq
  intro g
  rw [Bool.eq_iff_iff, h, fitP_bit]
def CM (h : Hp) (ta : Nat) (L : List Nat) (X : Nat → Nat → Prop) : Prop := ∀ p, p < L.length → ∃ c : Nat, hI h (ta + 4) p = (c : Int) ∧ c < 8192 ∧ ∀ q, c.testBit q = true ↔ X q (L.getD p 0)
theorem CM.of {h : Hp} {ta : Nat} {L : List Nat} {X Y : Nat → Nat → Prop} (x : CM h ta L X) (e : ∀ q p, p < L.length → (X q (L.getD p 0) ↔ Y q (L.getD p 0))) : CM h ta L Y := fun p hp => by
  obtain ⟨c, e1, e2, e3⟩ := x p hp
  exact ⟨c, e1, e2, fun q => (e3 q).trans (e q p hp)⟩
theorem CM.put {h : Hp} {ta : Nat} {L : List Nat} {X : Nat → Nat → Prop} (o : lsOk L) (x : CM h ta L X) {q c i : Nat} (hq : q < L.length) (i12 : i ≤ 12) (e1 : hI h (ta + 4) q = (c : Int)) (e2 : c < 8192) (e3 : ∀ b, c.testBit b = true ↔ X b (L.getD q 0)) : CM (wI h (ta + 4) q ((c ||| 2 ^ i : Nat) : Int)) ta L (fun b t => X b t ∨ (b = i ∧ t = L.getD q 0)) := by
  intro p hp
  by_cases hpq : p = q
  · subst hpq
    refine ⟨c ||| 2 ^ i, by rw [hI_wI, if_pos ⟨rfl, rfl⟩], Nat.or_lt_two_pow (n := 13) e2 (Nat.pow_lt_pow_right (a := 2) (by decide) (by omega)), fun b => ?_⟩
    rw [or_bit, Bool.or_eq_true, e3, decide_eq_true_eq]
    exact ⟨fun h => h.elim Or.inl (fun h => Or.inr ⟨h, rfl⟩), fun h => h.elim Or.inl (fun h => Or.inr h.1)⟩
  · obtain ⟨c', f1, f2, f3⟩ := x p hp
    refine ⟨c', by rw [hI_wI, if_neg (fun z => hpq z.2)]; exact f1, f2, fun b => ?_⟩
    rw [f3]
    exact ⟨Or.inl, fun h => h.elim id (fun h => absurd (getD_inj o hp hq h.2) hpq)⟩
theorem n34 {ta : Nat} : ¬ (ta + 3 = ta + 4) ∧ ¬ (ta + 2 = ta + 4) := by omega
theorem GO.fr {h h' : Hp} {ta : Nat} {f : Nat → Nat → Nat} {ok : Nat → Nat → Bool} {G l : Nat} {L : List Nat} {m : Nat → Nat} (fp : Fp (fun b _ => b = ta + 4) h h') (x : GO h ta f ok G l L m) : GO h' ta f ok G l L m := fun p hp => by
  obtain ⟨b, e1, e2⟩ := x p hp
  exact ⟨b, by rw [fp.I n34.1]; exact e1, e2⟩
theorem v_64 {v g : Nat} (h : v < 64) (hg : g < 6) : v < 2147483648 ∧ g < 31 ∧ v ||| 2 ^ g < 64 := ⟨by omega, by omega, Nat.or_lt_two_pow (n := 6) h (Nat.pow_lt_pow_right (a := 2) (by decide) hg)⟩
set_option maxHeartbeats 1000000 in
theorem S_goersFrom {d : Nat} {Q : Option PV → Hp → Prop} {h0 h : Hp} {A : Nat → Int} {f : Nat → Nat → Nat} {L : List Nat} {ta se G l i p : Nat} (x : TW h0 h A f (2 ^ G - 1) L ta se) (hG : A 2 = (G : Int)) {z : Nat → Int} (ez : ∀ i, i < 12 → hI h (ta + 2) i = z i) (l12 : l ≤ 12) (hi : i < l) (go : GO h ta f (okT2 z) G l L (fun _ => 1)) (hp : p < L.length) {X : Nat → Nat → Prop} (cm : CM h ta L X)
    (k : ∀ h' (v : Nat), Fp (fun b _ => b = ta + 4) h h' → CM h' ta L (fun q t => X q t ∨ (q = i + 1 ∧ ∃ g, g < G ∧ lead f (okT2 z) G l i (L.getD p 0) g = true ∧ f g (L.getD p 0) = t)) → v < 64 → (∀ g, v.testBit g = true ↔ g < G ∧ lead f (okT2 z) G l i (L.getD p 0) g = true) → Q (some (.inl (v : Int))) h') :
    WP (d + 4) mX9_goersFrom 0 [some (.inr (.inr ta)), some (.inl (i : Int)), some (.inl (p : Int)), none, none] [] h Q := by
  have ok := x.2.2.2.2.1.2.2.2.1
  have lk := x.2.2.2.2.1.le
  have g4 : 200 ≤ ta + 4 := by have := x.2.2.2.2.2.2.2.1; omega
  have G6 : G ≤ 6 := by have := x.2.2.2.2.1.2.2.2.2.2.2.2.1.2.2.2.1; omega
  obtain ⟨c12, c1, c31, cl⟩ := d_12 hi l12
  have c12' : i + 1 ≤ 12 := c12
  have hm : ∀ q, q < L.length → (fun _ => 1) q ≤ i + 1 := fun q _ => Nat.le_add_left 1 i
  simp only [rX9_goersFrom_0, rX9_goersFrom_1, rX9_goersFrom_2, rX9_goersFrom_3]
  have main : ∀ n g (e : Hp) (v : Nat), g + n = G → Fp (fun b _ => b = ta + 4) h e → CM e ta L (fun q t => X q t ∨ (q = i + 1 ∧ ∃ g', g' < g ∧ lead f (okT2 z) G l i (L.getD p 0) g' = true ∧ f g' (L.getD p 0) = t)) → v < 64 → (∀ g', v.testBit g' = true ↔ g' < g ∧ lead f (okT2 z) G l i (L.getD p 0) g' = true) → WP (d + 4) mX9_goersFrom 5 [some (.inr (.inr ta)), some (.inl (i : Int)), some (.inl (p : Int)), some (.inl (v : Int)), some (.inl (g : Int))] [] e Q := by
    intro n
    induction n with
    | zero =>
      intro g e v hg fe ce v6 vb
      have eg : g = G := hg
      subst eg
      have xe := x.fp fe (fun b _ q => q ▸ t2_ta.2.2.2)
      obtain ⟨K0, R0, _⟩ := xe.2.2.2.1.ks
      have KS := xe.2.2.2.2.1.2.1.1
      obtain ⟨pp, P0, PK, PG⟩ := xe.2.2.2.2.1.pl
      rw [rX9_goersFrom_5]
      simp only [rX9_goersFrom_7, rX9_goersFrom_8, rX9_goersFrom_11, rX9_goersFrom_14, rX9_goersFrom_17, rX9_goersFrom_67, rX9_goersFrom_68, K0, R0, KS, P0, PK, PG, hG, Int.lt_irrefl, Int.toNat_natCast, Int.natCast_nonneg, true_and, and_true, and_self, if_true, if_false, or_true, true_or, or_false, false_or, ne_eq, not_true_eq_false, not_false_eq_true, Nat.reduceLeDiff, Nat.reduceEqDiff, Nat.reduceLT, Nat.reduceAdd, Nat.reduceMul, Nat.reduceSub, Int.reduceLT, Int.reduceLE, Int.reduceEq, Int.reduceToNat, Int.reduceAdd, Int.reduceSub, Int.reduceMul, Int.reduceNeg, Int.cast_ofNat_Int, false_and, and_false]
      exact k e v fe ce v6 vb
    | succ n ih =>
      intro g e v hg fe ce v6 vb
      obtain ⟨gG, hn⟩ := gm_n hg
      obtain ⟨gG', g6, g1⟩ := g_6 gG G6
      obtain ⟨v31, g31, vo⟩ := v_64 v6 g6
      have xe := x.fp fe (fun b _ q => q ▸ t2_ta.2.2.2)
      obtain ⟨K0, R0, R1, R2, R3, R4, K1, K2, K3, K4⟩ := xe.2.2.2.1.ks
      have KS := xe.2.2.2.2.1.2.1.1
      obtain ⟨pp, P0, PK, PG⟩ := xe.2.2.2.2.1.pl
      have ez' : ∀ i, i < 12 → hI e (ta + 2) i = z i := fun i hi => by rw [fe.I n34.2]; exact ez i hi
      have goe := go.fr fe
      obtain ⟨q, hq, eq, pa⟩ := S_placeAfter xe.2.2.2.2.1 hp (by rw [hG]; exact gG') (all_bt gG)
      obtain ⟨q1, q2, q3, q4⟩ := i_16 lk hq
      obtain ⟨c, e1, e2, e3⟩ := ce q hq
      rw [rX9_goersFrom_5]
      simp only [rX9_goersFrom_7, rX9_goersFrom_8, rX9_goersFrom_11, rX9_goersFrom_14, rX9_goersFrom_17, rX9_goersFrom_20, rX9_goersFrom_21, rX9_goersFrom_22, rX9_goersFrom_23, rX9_goersFrom_25, rX9_goersFrom_28, K0, R0, KS, P0, PK, PG, hG, gG', S_leads xe hG ez' l12 hi goe hm hp gG, psh_some, Int.toNat_natCast, Int.natCast_nonneg, true_and, and_true, and_self, if_true, if_false, or_true, true_or, or_false, false_or, ne_eq, not_true_eq_false, not_false_eq_true, Nat.reduceLeDiff, Nat.reduceEqDiff, Nat.reduceLT, Nat.reduceAdd, Nat.reduceMul, Nat.reduceSub, Int.reduceLT, Int.reduceLE, Int.reduceEq, Int.reduceToNat, Int.reduceAdd, Int.reduceSub, Int.reduceMul, Int.reduceNeg, Int.cast_ofNat_Int, false_and, and_false]
      by_cases hc : lead f (okT2 z) G l i (L.getD p 0) g = true
      · simp only [if_pos hc]
        rw [if_neg (by decide)]
        simp only [rX9_goersFrom_31, rX9_goersFrom_32, rX9_goersFrom_33, rX9_goersFrom_35, rX9_goersFrom_36, rX9_goersFrom_37, rX9_goersFrom_38, rX9_goersFrom_39, rX9_goersFrom_42, rX9_goersFrom_43, rX9_goersFrom_46, rX9_goersFrom_48, rX9_goersFrom_49, rX9_goersFrom_52, rX9_goersFrom_53, rX9_goersFrom_54, rX9_goersFrom_55, rX9_goersFrom_56, rX9_goersFrom_57, rX9_goersFrom_58, rX9_goersFrom_59, rX9_goersFrom_60, rX9_goersFrom_61, rX9_goersFrom_64, K0, R0, R4, K4, KS, pa, psh_some, q2, e1, c1, g1, g4, orb_n v31 g31, orb_n (a := c) (i := i + 1) (b31 e2) c31, Int.toNat_natCast, Int.natCast_nonneg, true_and, and_true, and_self, if_true, if_false, or_true, true_or, or_false, false_or, ne_eq, not_true_eq_false, not_false_eq_true, Nat.reduceLeDiff, Nat.reduceEqDiff, Nat.reduceLT, Nat.reduceAdd, Nat.reduceMul, Nat.reduceSub, Int.reduceLT, Int.reduceLE, Int.reduceEq, Int.reduceToNat, Int.reduceAdd, Int.reduceSub, Int.reduceMul, Int.reduceNeg, Int.cast_ofNat_Int, false_and, and_false]
        refine ih (g + 1) _ (v ||| 2 ^ g) hn (fe.wI (by exact rfl) _) ((ce.put ok hq c12' e1 e2 e3).of (fun b r hr => ?_)) vo (fun g' => ?_)
        · constructor
          · rintro ((h1 | ⟨h1, g', h2, h3⟩) | ⟨h1, h2⟩)
            · exact Or.inl h1
            · exact Or.inr ⟨h1, g', Nat.lt_succ_of_lt h2, h3⟩
            · exact Or.inr ⟨h1, g, Nat.lt_succ_self g, hc, by rw [h2]; exact eq.symm⟩
          · rintro (h1 | ⟨h1, g', h2, h3, h4⟩)
            · exact Or.inl (Or.inl h1)
            · by_cases hgg : g' = g
              · refine Or.inr ⟨h1, ?_⟩
                rw [eq, ← h4, hgg]
              · exact Or.inl (Or.inr ⟨h1, g', lt_one h2 hgg, h3, h4⟩)
        · rw [or_bit, Bool.or_eq_true, vb, decide_eq_true_eq]
          constructor
          · rintro (⟨h1, h2⟩ | h1)
            · exact ⟨Nat.lt_succ_of_lt h1, h2⟩
            · rw [h1]; exact ⟨Nat.lt_succ_self g, hc⟩
          · rintro ⟨h1, h2⟩
            by_cases hgg : g' = g
            · exact Or.inr hgg
            · exact Or.inl ⟨lt_one h1 hgg, h2⟩
      · simp only [if_neg hc]
        rw [if_pos (by trivial)]
        simp only [rX9_goersFrom_61, rX9_goersFrom_64, g1]
        refine ih (g + 1) e v hn fe (ce.of (fun b r hr => ?_)) v6 (fun g' => ?_)
        · constructor
          · rintro (h1 | ⟨h1, g', h2, h3⟩)
            · exact Or.inl h1
            · exact Or.inr ⟨h1, g', Nat.lt_succ_of_lt h2, h3⟩
          · rintro (h1 | ⟨h1, g', h2, h3, h4⟩)
            · exact Or.inl h1
            · by_cases hgg : g' = g
              · rw [hgg] at h3; exact absurd h3 hc
              · exact Or.inr ⟨h1, g', lt_one h2 hgg, h3, h4⟩
        · rw [vb]
          constructor
          · rintro ⟨h1, h2⟩; exact ⟨Nat.lt_succ_of_lt h1, h2⟩
          · rintro ⟨h1, h2⟩
            by_cases hgg : g' = g
            · rw [hgg] at h2; exact absurd h2 hc
            · exact ⟨lt_one h1 hgg, h2⟩
  refine main G 0 h 0 (Nat.zero_add _) (Fp.refl _ h) (cm.of (fun q r hr => ⟨Or.inl, fun h => h.elim id (fun ⟨_, g', h2, _⟩ => absurd h2 (Nat.not_lt_zero _))⟩)) (by decide) (fun g' => ⟨fun h => ?_, fun h => absurd h.1 (Nat.not_lt_zero _)⟩)
  rw [Nat.zero_testBit] at h
  exact absurd h (by decide)
