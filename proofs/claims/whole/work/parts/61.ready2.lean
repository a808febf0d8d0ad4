/-! the class's search is ready -/
theorem Sx.ok {h : Hp} {se : Nat} {A F : Nat → Int} (x : Sx h se A F) : SrOk h se := by
  obtain ⟨x1, x2, x3, x4, x5, x6, x7⟩ := x
  refine ⟨x3, A, F, SrC_iff.2 ⟨x4, x5⟩, ?_⟩
  rcases x7 with q | q
  · exact Or.inl q
  · exact Or.inr ⟨q, x6⟩
/-- a call that wrote to the search and the diver alone -/
theorem CRep.sr {S : Nat → Prop} {h h' : Hp} {σ : AS} (f : Fa S h h') (x : CRep h σ) (h8 : hR h 200 8 ≠ 0) (hs : ∀ a, S a → (211 ≤ a ∧ a ≤ 213) ∨ seS (hR h 200 8) a) (m' : CsOk h') (so : SrOk h' (hR h 200 8)) : CRep h' σ := by
  have b := x.2.1
  have n := x.1.2.1
  have b1 : 300 ≤ hR h 200 8 ∧ hR h 200 8 + 11 < 200 + hN h := by have := b.1; omega
  have nS : ∀ a, a < 300 → ¬ (211 ≤ a ∧ a ≤ 213) → ¬ S a := fun a h1 h2 q => by
    rcases hs a q with q | q
    · exact h2 q
    · unfold seS at q; omega
  have r := f.R (a := 200) (by omega) (nS _ (by omega) (by omega))
  refine ⟨x.1.fa f b (fun a q => ?_) m', ?_, ?_, ?_, ?_⟩
  · rcases hs a q with q | q
    · exact Or.inl (by unfold scr; omega)
    · exact Or.inr (Or.inl ⟨h8, q.1, q.2⟩)
  · have := f.1
    unfold Blk at b ⊢
    simp only [r]
    omega
  · rw [r]; intro _; exact so
  · simp only [r]
    intro h9
    have := x.2.2.2.1 h9
    have b2 := b.2.1.resolve_left h9
    have n9 : ∀ a, hR h 200 9 ≤ a → a ≤ hR h 200 9 + 6 → ¬ S a := fun a h1 h2 q => by
      rcases hs a q with q | q
      · omega
      · unfold seS at q; omega
    unfold TlOk at this ⊢
    rw [f.K (by omega) (n9 _ (by omega) (by omega)), f.K (by omega) (n9 (hR h 200 9 + 1) (by omega) (by omega)), f.K (by omega) (n9 (hR h 200 9 + 2) (by omega) (by omega)), f.K (by omega) (n9 (hR h 200 9 + 3) (by omega) (by omega)), f.K (by omega) (n9 (hR h 200 9 + 4) (by omega) (by omega)), f.K (by omega) (n9 (hR h 200 9 + 5) (by omega) (by omega)), f.K (by omega) (n9 (hR h 200 9 + 6) (by omega) (by omega))]
    simp only [f.R (a := hR h 200 9) (by omega) (n9 _ (by omega) (by omega))]
    exact this
  · simp only [r]
    intro h10
    have := x.2.2.2.2 h10
    have b2 := b.2.2.resolve_left h10
    have n10 : ∀ a, hR h 200 10 ≤ a → a ≤ hR h 200 10 + 5 → ¬ S a := fun a h1 h2 q => by
      rcases hs a q with q | q
      · omega
      · unfold seS at q; omega
    unfold GmOk at this ⊢
    rw [f.K (by omega) (n10 _ (by omega) (by omega)), f.K (by omega) (n10 (hR h 200 10 + 1) (by omega) (by omega)), f.K (by omega) (n10 (hR h 200 10 + 2) (by omega) (by omega)), f.K (by omega) (n10 (hR h 200 10 + 3) (by omega) (by omega)), f.K (by omega) (n10 (hR h 200 10 + 4) (by omega) (by omega)), f.K (by omega) (n10 (hR h 200 10 + 5) (by omega) (by omega))]
    simp only [f.R (a := hR h 200 10) (by omega) (n10 _ (by omega) (by omega))]
    exact this
theorem Cfr.sr {S : Nat → Prop} {h h' : Hp} (f : Fa S h h') (n : 100 ≤ hN h) (hs : ∀ a, S a → (201 ≤ a ∧ a < 280) ∨ 300 ≤ a) (eN : hN h' = hN h) (eS : hS h' = hS h) : Cfr h h' := by
  have r := f.R (a := 200) (by omega) (fun q => by have := hs _ q; omega)
  refine ⟨fun a ha => f.2 a (by omega) (fun q => by have := hs _ q; omega), f.1, ?_, ?_⟩
  · unfold Phn; rw [r, r, r, eN]; omega
  · unfold Phs; rw [r, r, r, eS]; omega
theorem Cfr.trans0 {h h1 h2 : Hp} (a : Cfr h h1) (b : Cfr h1 h2) (e1 : Phn h1 ≤ Phn h) (e2 : Phs h1 ≤ Phs h) : Cfr h h2 := by
  refine ⟨fun q hq => ?_, Nat.le_trans a.2.1 b.2.1, by have := b.2.2.1; omega, by have := b.2.2.2; omega⟩
  have x := a.1 q hq
  have y := b.1 q hq
  exact ⟨y.1.trans x.1, fun k => ⟨(y.2 k).1.trans (x.2 k).1, (y.2 k).2.1.trans (x.2 k).2.1, (y.2 k).2.2.trans (x.2 k).2.2⟩⟩
set_option maxHeartbeats 2000000 in
theorem S_newSearch {d : Nat} {Q : Option PV → Hp → Prop} {h : Hp} {p se : Nat} (hse : se = 200 + hN h) (h3 : 300 ≤ se) (hdv : 200 ≤ p)
    (k : ∀ h', Fa (fun _ => False) h h' → hN h' = hN h + 12 → hS h' ≤ hS h + 80000 → Shp h' se → hR h' se 10 = p → hI h' se 11 = -1 → (∀ g, g < 6 → hI h' (se + 5) g = 1) → (∀ j, hI h' (se + 4) j = 0) → (∀ j, hI h' (se + 7) j = 0) → (∀ a j, se + 1 ≤ a → a ≤ se + 3 → hI h' a j = 0) → Q none h') :
    WP (d + 2) mX7_init 0 [some (.inr (.inr se)), some (.inr (.inr 211)), some (.inr (.inr p))] [] (nw h 7 0 13) Q := by
  sorry
