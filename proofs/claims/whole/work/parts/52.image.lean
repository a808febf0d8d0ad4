/-! the class's cells, where the pool is another one; images; counts -/
theorem PoolIn.fa2 {S : Nat → Prop} {h h' : Hp} (f : Fa S h h') (r8 : ∀ k, 8 ≤ k → hR h' 200 k = hR h 200 k) {p : Nat} (x : PoolIn h p) (hc : ¬ S p) : PoolIn h' p := by
  refine ⟨x.1, fun a ha => ?_⟩
  have c0 := (x.2 p (Or.inl ⟨by omega, by omega⟩)).1
  have ha' : PlCell h p a := by
    unfold PlCell at ha ⊢
    rw [f.R c0 hc, f.R c0 hc] at ha
    exact ha
  obtain ⟨y1, y2, y3⟩ := x.2 a ha'
  refine ⟨by have := f.1; omega, y2, fun hd => y3 ?_⟩
  unfold Dy at hd ⊢
  rw [r8 8 (by omega), r8 9 (by omega), r8 10 (by omega)] at hd
  exact hd
theorem SrOk.fa2 {S : Nat → Prop} {h h' : Hp} (f : Fa S h h') (n : 114 ≤ hN h) {se : Nat} (hse : se + 11 < 200 + hN h) (r8 : ∀ k, 8 ≤ k → hR h' 200 k = hR h 200 k) (hs : ∀ a, S a → a < 314 ∧ a ≠ 90 ∧ (a < 255 ∨ 261 < a)) (h3 : 314 ≤ se) (x : SrOk h se) : SrOk h' se := by
  have cI : ∀ a, se ≤ a → a ≤ se + 11 → ∀ k, hI h' a k = hI h a k := fun a h1 h2 => f.I (by omega) (fun q => by have := hs _ q; omega)
  have cK : ∀ a, se ≤ a → a ≤ se + 11 → hK h' a = hK h a := fun a h1 h2 => f.K (by omega) (fun q => by have := hs _ q; omega)
  have cR : ∀ a, se ≤ a → a ≤ se + 11 → ∀ k, hR h' a k = hR h a k := fun a h1 h2 => f.R (by omega) (fun q => by have := hs _ q; omega)
  have i0 := cI se (by omega) (by omega)
  have i4 := cI (se + 4) (by omega) (by omega)
  have i5 := cI (se + 5) (by omega) (by omega)
  have i6 := cI (se + 6) (by omega) (by omega)
  have i7 := cI (se + 7) (by omega) (by omega)
  have i8 := cI (se + 8) (by omega) (by omega)
  have i9 := cI (se + 9) (by omega) (by omega)
  have i10 := cI (se + 10) (by omega) (by omega)
  have i11 := cI (se + 11) (by omega) (by omega)
  have r0 := cR se (by omega) (by omega)
  have r1 := cR (se + 1) (by omega) (by omega)
  obtain ⟨x1, B, F, ⟨c1, c2, ⟨c3, c4⟩, c5, c6, c7, c8⟩, x3⟩ := x
  refine ⟨?_, B, F, ⟨c1, c2, ?_, ?_, ?_, ?_, ?_⟩, ?_⟩
  · unfold Shp
    rw [cK se (by omega) (by omega), cK (se + 1) (by omega) (by omega), cK (se + 2) (by omega) (by omega), cK (se + 3) (by omega) (by omega), cK (se + 4) (by omega) (by omega), cK (se + 5) (by omega) (by omega), cK (se + 6) (by omega) (by omega), cK (se + 7) (by omega) (by omega), cK (se + 8) (by omega) (by omega), cK (se + 9) (by omega) (by omega), cK (se + 10) (by omega) (by omega), cK (se + 11) (by omega) (by omega)]
    simp only [r0, r1]
    exact x1
  · rw [r0]
    have pc : ∀ a, PlCell h (hR h se 10) a → a < 200 + hN h ∧ ¬ S a := fun a ha => by
      obtain ⟨y1, y2, y3⟩ := c4.2 a ha
      exact ⟨y1, fun hS => by have := hs _ hS; omega⟩
    exact ⟨(c3.fa f pc).1, c4.fa2 f r8 (pc _ (Or.inl ⟨by omega, by omega⟩)).2⟩
  · exact c5.fa f (by omega) (fun q => by have := hs _ q; omega) (fun q => by have := hs _ q; omega) (fun q => by have := hs _ q; omega)
  · simp only [i5]; exact c6
  · simp only [i4, i5]; exact c7
  · simp only [i7]; exact c8
  · unfold SrX SrM
    simp only [i0, i4, i5, i6, i7, i8, i9, i10, i11]
    exact x3
theorem SrInv.fa2 {S : Nat → Prop} {h h' : Hp} (f : Fa S h h') (n : 114 ≤ hN h) (r8 : ∀ k, 8 ≤ k → hR h' 200 k = hR h 200 k) (hs : ∀ a, S a → a < 314 ∧ a ≠ 90 ∧ (a < 255 ∨ 261 < a)) (x : SrInv h) : SrInv h' := by
  obtain ⟨b, x1, x2, x3⟩ := x
  have q8 := r8 8 (by omega)
  have q9 := r8 9 (by omega)
  have q10 := r8 10 (by omega)
  have b' : Blk h' := by
    have := f.1
    unfold Blk at b ⊢
    simp only [q8, q9, q10]
    omega
  have nS : ∀ a, 314 ≤ a → ¬ S a := fun a ha q => by have := hs _ q; omega
  refine ⟨b', ?_, ?_, ?_⟩
  · simp only [q8, q9, q10]
    intro h8
    unfold Blk at b
    exact (x1 h8).fa2 f n (by omega) r8 hs (by omega)
  · simp only [q8, q9, q10]
    intro h9
    have := x2 h9
    unfold Blk at b
    unfold TlOk at this ⊢
    rw [f.K (by omega) (nS _ (by omega)), f.K (by omega) (nS (hR h 200 9 + 1) (by omega)), f.K (by omega) (nS (hR h 200 9 + 2) (by omega)), f.K (by omega) (nS (hR h 200 9 + 3) (by omega)), f.K (by omega) (nS (hR h 200 9 + 4) (by omega)), f.K (by omega) (nS (hR h 200 9 + 5) (by omega)), f.K (by omega) (nS (hR h 200 9 + 6) (by omega))]
    simp only [f.R (a := hR h 200 9) (by omega) (nS _ (by omega))]
    exact this
  · simp only [q8, q9, q10]
    intro h10
    have := x3 h10
    unfold Blk at b
    unfold GmOk at this ⊢
    rw [f.K (by omega) (nS _ (by omega)), f.K (by omega) (nS (hR h 200 10 + 1) (by omega)), f.K (by omega) (nS (hR h 200 10 + 2) (by omega)), f.K (by omega) (nS (hR h 200 10 + 3) (by omega)), f.K (by omega) (nS (hR h 200 10 + 4) (by omega)), f.K (by omega) (nS (hR h 200 10 + 5) (by omega))]
    simp only [f.R (a := hR h 200 10) (by omega) (nS _ (by omega))]
    exact this
/-- the class behind a call: the search as it was, cells below S alone written, a pool, a stand, a past, rows, images, the tape -/
theorem CRep.mk {S : Nat → Prop} {h h' : Hp} {σ σ' : AS} (f : Fa S h h') (x : CRep h σ) (r8 : ∀ k, 8 ≤ k → hR h' 200 k = hR h 200 k) (hs : ∀ a, S a → a < 314 ∧ a ≠ 90 ∧ (a < 255 ∨ 261 < a)) (m' : CsOk h') (p : PoolIs h' (hR h' 200 7) (sA σ') ∧ PoolIn h' (hR h' 200 7)) (s : StIs h' 214 (stA (sA σ'))) (pa : PastIs h' (sA σ')) (tr : TrayIs h' σ') (im : ImgIs h' σ') (rd : RdIs h' σ') : CRep h' σ' :=
  ⟨⟨m', by have := f.1; have := x.1.2.1; omega, p, s, pa, tr, im, rd⟩, x.2.fa2 f x.1.2.1 r8 hs⟩
theorem pc_of {S : Nat → Prop} {h : Hp} (hs : ∀ a, S a → a < 314 ∧ a ≠ 90 ∧ (a < 255 ∨ 261 < a)) {p : Nat} (x : PoolIn h p) : ∀ a, PlCell h p a → a < 200 + hN h ∧ ¬ S a := fun a ha => by
  obtain ⟨y1, y2, y3⟩ := x.2 a ha
  exact ⟨y1, fun hS => by have := hs _ hS; omega⟩
theorem Cfr.fa {S : Nat → Prop} {h h' : Hp} (f : Fa S h h') (n : 114 ≤ hN h) (r8 : ∀ k, 8 ≤ k → hR h' 200 k = hR h 200 k) (hs : ∀ a, S a → 200 ≤ a ∧ a < 294) (h1 : hN h' ≤ hN h + 920) (h2 : hS h' ≤ hS h + 2000) : Cfr h h' := by
  refine ⟨fun a ha => ?_, f.1, ?_, ?_⟩
  · have := f.2 a (by omega) (fun q => by have := hs _ q; omega)
    exact this
  · unfold Phn; rw [r8 8 (by omega), r8 9 (by omega), r8 10 (by omega)]; omega
  · unfold Phs; rw [r8 8 (by omega), r8 9 (by omega), r8 10 (by omega)]; omega
def wAH (σ : AS) (A H : Nat → Int) : AS := (A, H, σ.2.2)
def imW (A : Nat → Int) (i : Nat) : Nat → Int := fun k => if 1089 * (i + 1) ≤ k ∧ k < 1089 * (i + 2) then A (k - 1089 * (i + 1)) else A k
def imS (σ : AS) (i : Nat) : AS := wAH σ (imW (sA σ) i) (upI (sH σ) i 1)
theorem imW_lo (A : Nat → Int) (i : Nat) {k : Nat} (h : k < 1089) : imW A i k = A k := if_neg (by omega)
theorem imW_im (A : Nat → Int) (i : Nat) {k : Nat} (h : k < 1089) : imA (imW A i) i k = A k := by
  unfold imA imW
  rw [if_pos (by omega)]
  exact congrArg A (by omega)
theorem imW_ne (A : Nat → Int) {i j : Nat} (hj : j ≠ i) {k : Nat} (h : k < 1089) : imA (imW A i) j k = imA A j k := by
  unfold imA imW
  by_cases hlt : j < i
  · rw [if_neg (by omega)]
  · have : 1089 * (j + 1) + k ≥ 1089 * (i + 2) := by
      have : i + 1 ≤ j := by omega
      have : 1089 * (i + 2) ≤ 1089 * (j + 1) := Nat.mul_le_mul_left _ (by omega)
      omega
    rw [if_neg (by omega)]
theorem SameP.of {A A' : Nat → Int} (h : ∀ k, k < 1089 → A' k = A k) : SameP A A' := fun k hk => h k (by omega)
theorem WF.im {σ : AS} (w : WF σ) {i : Nat} (hi : i < 2) : WF (imS σ i) := by
  obtain ⟨w1, w2, w3, w4, w5, w6, w7⟩ := w
  have lo := fun k (hk : k < 1089) => imW_lo (sA σ) i hk
  refine ⟨poolOk_same w1 (SameP.of lo), w2.of (fun k hk => lo _ (by omega)), ?_, ?_, ?_, fun j hj => ?_, w7⟩
  · show 0 ≤ imW (sA σ) i 47; rw [lo 47 (by omega)]; exact w3
  · show imW (sA σ) i 47 ≤ 10; rw [lo 47 (by omega)]; exact w4
  · intro j hj
    have hj' : j < (imW (sA σ) i 47).toNat := hj
    rw [lo 47 (by omega)] at hj'
    exact (w5 j hj').of (fun k hk => lo _ (by omega))
  · show (upI (sH σ) i 1 j = 0 ∨ upI (sH σ) i 1 j = 1) ∧ (upI (sH σ) i 1 j = 1 → poolOk (imA (imW (sA σ) i) j) ∧ stOk (stA (imA (imW (sA σ) i) j)))
    by_cases hji : j = i
    · subst hji
      rw [upI_eq]
      refine ⟨Or.inr rfl, fun _ => ⟨poolOk_same w1 (SameP.of (fun k hk => imW_im (sA σ) j hk)), w2.of (fun k hk => imW_im (sA σ) j (by omega))⟩⟩
    · rw [upI_ne _ _ hji]
      refine ⟨(w6 j hj).1, fun h1 => ?_⟩
      have := (w6 j hj).2 h1
      exact ⟨poolOk_same this.1 (SameP.of (fun k hk => imW_ne (sA σ) hji hk)), this.2.of (fun k hk => imW_ne (sA σ) hji (by omega))⟩
theorem Fa.stand {S : Nat → Prop} {h h1 h2 : Hp} (f : Fa S h h1) {t : Nat} (g : Fp (stP t) h1 h2) (hs : ∀ a, t ≤ a → a ≤ t + 2 → S a) : Fa S h h2 := f.trans (g.fa (fun a k q => hs a q.1 q.2))
def igS (i a : Nat) : Prop := 272 + 11 * i ≤ a ∧ a ≤ 275 + 11 * i
theorem Cs_img {h : Hp} (m : CsOk h) {i : Nat} (hi : i < 2) : hR h 271 i = 272 + 11 * i ∧ hK h (272 + 11 * i) = (2, 0) ∧ hR h (272 + 11 * i) 0 = 273 + 11 * i := by
  have : i = 0 ∨ i = 1 := by omega
  rcases this with rfl | rfl
  · exact ⟨Cs_R271_0 m, Cs_K272 m, Cs_R272_0 m⟩
  · exact ⟨Cs_R271_1 m, Cs_K276 m, Cs_R276_0 m⟩
