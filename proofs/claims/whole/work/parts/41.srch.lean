/-! what the search holds between calls -/
/-- the order of finding as a tree: who was found from whom, by whom, how deep; all pairs ahead of (k, g) are done -/
def Tree (f : Nat → Nat → Nat) (set G : Nat) (L : List Nat) (ah by' dv : Nat → Nat) (k g : Nat) : Prop := dv 0 = 0 ∧ (∀ p, 0 < p → p < L.length → ah p < p ∧ set.testBit (by' p) = true ∧ by' p < G ∧ L.getD p 0 = f (by' p) (L.getD (ah p) 0) ∧ dv p = dv (ah p) + 1 ∧ (ah p < k ∨ (ah p = k ∧ by' p < g))) ∧ (∀ p, 0 < p → p + 1 < L.length → ah p < ah (p + 1) ∨ (ah p = ah (p + 1) ∧ by' p < by' (p + 1))) ∧ (∀ k' g', k' < L.length → g' < G → set.testBit g' = true → (k' < k ∨ (k' = k ∧ g' < g)) → ∃ p, p < L.length ∧ L.getD p 0 = f g' (L.getD k' 0) ∧ (p = 0 ∨ ah p < k' ∨ (ah p = k' ∧ by' p ≤ g')))
def stt (F : Nat → Int) : Nat := 100 * (F 1).toNat + (F 0).toNat
/-- all states of a set of goers -/
def Lst (B F : Nat → Int) (set : Nat) : List Nat := bfs (nxt B F) set (B 2).toNat 6400 0 [stt F]
def thU (L : List Nat) : Nat := L.foldl (fun a s => a ||| s / 100) 0
def Shp (h : Hp) (se : Nat) : Prop := hK h se = (7, 0) ∧ hR h se 0 = 211 ∧ hR h se 1 = se + 1 ∧ hR h se 2 = se + 4 ∧ hR h se 3 = se + 5 ∧ hR h se 4 = se + 6 ∧ hR h se 5 = se + 7 ∧ hR h se 6 = se + 8 ∧ hR h se 7 = se + 9 ∧ hR h se 8 = se + 10 ∧ hR h se 9 = se + 11 ∧ hK h (se + 1) = (8, 0) ∧ hR h (se + 1) 0 = se + 2 ∧ hR h (se + 1) 1 = se + 3 ∧ hK h (se + 2) = (21, 6) ∧ hK h (se + 3) = (21, 6) ∧ hK h (se + 4) = (21, 38400) ∧ hK h (se + 5) = (21, 6) ∧ hK h (se + 6) = (21, 1600) ∧ hK h (se + 7) = (21, 6400) ∧ hK h (se + 8) = (21, 1600) ∧ hK h (se + 9) = (21, 1600) ∧ hK h (se + 10) = (21, 1600) ∧ hK h (se + 11) = (21, 64)
/-- what is kept of dives -/
def SrC (h : Hp) (se : Nat) (B F : Nat → Int) : Prop := poolOk B ∧ stOk F ∧ (PoolIs h (hR h se 10) B ∧ PoolIn h (hR h se 10)) ∧ StIs h (se + 1) F ∧ (∀ g, g < 6 → 1 ≤ hI h (se + 5) g ∧ hI h (se + 5) g ≤ 100000) ∧ (∀ (g s : Nat), g < 6 → s < 6400 → 0 ≤ hI h (se + 4) (6400 * g + s) ∧ hI h (se + 4) (6400 * g + s) / 8192 ≤ hI h (se + 5) g ∧ ((g : Int) < B 2 → hI h (se + 4) (6400 * g + s) / 8192 = hI h (se + 5) g → hI h (se + 4) (6400 * g + s) % 8192 = (nxt B F g s : Int))) ∧ ∀ s, s < 6400 → 0 ≤ hI h (se + 7) s
/-- what was found for a set -/
def SrX (h : Hp) (se : Nat) (B F : Nat → Int) (set : Nat) : Prop := set < 2 ^ (B 2).toNat ∧ hI h se 11 = (set : Int) ∧ hI h se 12 = ((Lst B F set).length : Int) ∧ (∀ p, p < (Lst B F set).length → hI h (se + 6) p = ((Lst B F set).getD p 0 : Int) ∧ hI h (se + 7) ((Lst B F set).getD p 0) = (p : Int)) ∧ (∃ ah by' dv, Tree (nxt B F) set (B 2).toNat (Lst B F set) ah by' dv (Lst B F set).length 0 ∧ ∀ p, p < (Lst B F set).length → hI h (se + 8) p = (ah p : Int) ∧ (0 < p → hI h (se + 9) p = (by' p : Int)) ∧ hI h (se + 10) p = (dv p : Int)) ∧ ∀ (p g : Nat), p < (Lst B F set).length → (g : Int) < B 2 → set.testBit g = true → hI h (se + 4) (6400 * g + (Lst B F set).getD p 0) / 8192 = hI h (se + 5) g
/-- what can come of each set, as far as it is known -/
def SrM (h : Hp) (se : Nat) (B F : Nat → Int) : Prop := ∀ set, set < 2 ^ (B 2).toNat → hI h (se + 11) set = -1 ∨ hI h (se + 11) set = (thU (Lst B F set) : Int)
def SrOk (h : Hp) (se : Nat) : Prop := Shp h se ∧ ∃ B F, SrC h se B F ∧ (hI h se 11 = -1 ∨ ((∃ set, SrX h se B F set) ∧ SrM h se B F))
def TlOk (h : Hp) (ta se : Nat) : Prop := hK h ta = (9, 0) ∧ hR h ta 0 = se ∧ hR h ta 1 = ta + 1 ∧ hR h ta 2 = ta + 2 ∧ hR h ta 3 = ta + 3 ∧ hR h ta 4 = ta + 4 ∧ hK h (ta + 1) = (21, 6) ∧ hK h (ta + 2) = (21, 12) ∧ hK h (ta + 3) = (21, 1600) ∧ hK h (ta + 4) = (21, 1600) ∧ hK h (ta + 5) = (22, 1600) ∧ hK h (ta + 6) = (22, 1600) ∧ ((hR h ta 5 = ta + 5 ∧ hR h ta 6 = ta + 6) ∨ (hR h ta 5 = ta + 6 ∧ hR h ta 6 = ta + 5))
def GmOk (h : Hp) (ga se : Nat) : Prop := hK h ga = (1, 0) ∧ hR h ga 0 = se ∧ hR h ga 1 = ga + 1 ∧ hR h ga 2 = ga + 2 ∧ hR h ga 3 = ga + 3 ∧ hR h ga 4 = ga + 4 ∧ hR h ga 5 = ga + 5 ∧ hK h (ga + 1) = (21, 1600) ∧ hK h (ga + 2) = (21, 9600) ∧ hK h (ga + 3) = (21, 3200) ∧ hK h (ga + 4) = (21, 3200) ∧ hK h (ga + 5) = (21, 3200)
def SrInv (h : Hp) : Prop := Blk h ∧ (hR h 200 8 ≠ 0 → SrOk h (hR h 200 8)) ∧ (hR h 200 9 ≠ 0 → TlOk h (hR h 200 9) (hR h 200 8)) ∧ (hR h 200 10 ≠ 0 → GmOk h (hR h 200 10) (hR h 200 8))
/-- the class holds it -/
def CRep (h : Hp) (σ : AS) : Prop := CBase h σ ∧ SrInv h
theorem SrOk.fa {S : Nat → Prop} {h h' : Hp} (f : Fa S h h') (n : 114 ≤ hN h) {se : Nat} (hse : se + 11 < 200 + hN h) (hs : ∀ a, S a → a < 314 ∧ a ≠ 90 ∧ a ≠ 200 ∧ (a < 255 ∨ 261 < a)) (h3 : 314 ≤ se) (x : SrOk h se) : SrOk h' se := by
  have cI : ∀ a, se ≤ a → a ≤ se + 11 → ∀ k, hI h' a k = hI h a k := fun a h1 h2 => f.I (by omega) (fun q => by have := hs _ q; omega)
  have cK : ∀ a, se ≤ a → a ≤ se + 11 → hK h' a = hK h a := fun a h1 h2 => f.K (by omega) (fun q => by have := hs _ q; omega)
  have cR : ∀ a, se ≤ a → a ≤ se + 11 → ∀ k, hR h' a k = hR h a k := fun a h1 h2 => f.R (by omega) (fun q => by have := hs _ q; omega)
  have i0 := cI se (by omega) (by omega)
  have i4 := cI (se + 4) (by omega) (by omega)
  have i5 := cI (se + 5) (by omega) (by omega)
  have i6 := cI (se + 6) (by omega) (by omega)
  have i7 := cI (se + 7) (by omega) (by omega)
  have i8 := cI (se + 8) (by omega) (by omega)
  have i9 := cI (se + 9) (by omega) (by omega)
  have i10 := cI (se + 10) (by omega) (by omega)
  have i11 := cI (se + 11) (by omega) (by omega)
  have r0 := cR se (by omega) (by omega)
  have r1 := cR (se + 1) (by omega) (by omega)
  obtain ⟨x1, B, F, ⟨c1, c2, ⟨c3, c4⟩, c5, c6, c7, c8⟩, x3⟩ := x
  refine ⟨?_, B, F, ⟨c1, c2, ?_, ?_, ?_, ?_, ?_⟩, ?_⟩
  · unfold Shp
    rw [cK se (by omega) (by omega), cK (se + 1) (by omega) (by omega), cK (se + 2) (by omega) (by omega), cK (se + 3) (by omega) (by omega), cK (se + 4) (by omega) (by omega), cK (se + 5) (by omega) (by omega), cK (se + 6) (by omega) (by omega), cK (se + 7) (by omega) (by omega), cK (se + 8) (by omega) (by omega), cK (se + 9) (by omega) (by omega), cK (se + 10) (by omega) (by omega), cK (se + 11) (by omega) (by omega)]
    simp only [r0, r1]
    exact x1
  · rw [r0]
    have pc : ∀ a, PlCell h (hR h se 10) a → a < 200 + hN h ∧ ¬ S a := fun a ha => by
      obtain ⟨y1, y2, y3⟩ := c4.2 a ha
      exact ⟨y1, fun hS => by have := hs _ hS; omega⟩
    exact ⟨(c3.fa f pc).1, c4.fa f n (fun q => by have := hs _ q; omega) (pc _ (Or.inl ⟨by omega, by omega⟩)).2⟩
  · exact c5.fa f (by omega) (fun q => by have := hs _ q; omega) (fun q => by have := hs _ q; omega) (fun q => by have := hs _ q; omega)
  · simp only [i5]; exact c6
  · simp only [i4, i5]; exact c7
  · simp only [i7]; exact c8
  · unfold SrX SrM
    simp only [i0, i4, i5, i6, i7, i8, i9, i10, i11]
    exact x3
theorem SrInv.fa {S : Nat → Prop} {h h' : Hp} (f : Fa S h h') (n : 114 ≤ hN h) (hs : ∀ a, S a → a < 314 ∧ a ≠ 90 ∧ a ≠ 200 ∧ (a < 255 ∨ 261 < a)) (x : SrInv h) : SrInv h' := by
  obtain ⟨b, x1, x2, x3⟩ := x
  have r := f.R (a := 200) (by omega) (fun q => by have := hs _ q; omega)
  have b' : Blk h' := by
    have := f.1
    unfold Blk at b ⊢
    simp only [r]
    omega
  have nS : ∀ a, 314 ≤ a → ¬ S a := fun a ha q => by have := hs _ q; omega
  refine ⟨b', ?_, ?_, ?_⟩
  · simp only [r]
    intro h8
    unfold Blk at b
    exact (x1 h8).fa f n (by omega) hs (by omega)
  · simp only [r]
    intro h9
    have := x2 h9
    unfold Blk at b
    unfold TlOk at this ⊢
    rw [f.K (by omega) (nS _ (by omega)), f.K (by omega) (nS (hR h 200 9 + 1) (by omega)), f.K (by omega) (nS (hR h 200 9 + 2) (by omega)), f.K (by omega) (nS (hR h 200 9 + 3) (by omega)), f.K (by omega) (nS (hR h 200 9 + 4) (by omega)), f.K (by omega) (nS (hR h 200 9 + 5) (by omega)), f.K (by omega) (nS (hR h 200 9 + 6) (by omega))]
    simp only [f.R (a := hR h 200 9) (by omega) (nS _ (by omega))]
    exact this
  · simp only [r]
    intro h10
    have := x3 h10
    unfold Blk at b
    unfold GmOk at this ⊢
    rw [f.K (by omega) (nS _ (by omega)), f.K (by omega) (nS (hR h 200 10 + 1) (by omega)), f.K (by omega) (nS (hR h 200 10 + 2) (by omega)), f.K (by omega) (nS (hR h 200 10 + 3) (by omega)), f.K (by omega) (nS (hR h 200 10 + 4) (by omega)), f.K (by omega) (nS (hR h 200 10 + 5) (by omega))]
    simp only [f.R (a := hR h 200 10) (by omega) (nS _ (by omega))]
    exact this
/-- a call that wrote to cells alone that don't count -/
theorem CRep.scf {S : Nat → Prop} {h h' : Hp} {σ : AS} (f : Fa S h h') (hs : ∀ a, S a → scr a) (m' : CsOk h') (x : CRep h σ) : CRep h' σ :=
  ⟨x.1.fa f x.2.1 (fun a ha => Or.inl (hs a ha)) m', x.2.fa f x.1.2.1 (fun a ha => by have := hs a ha; unfold scr at this; omega)⟩
theorem CRep.dv {P : Nat → Nat → Prop} {h h' : Hp} {σ : AS} (f : Fp P h h') (hs : ∀ a k, P a k → scr a) (x : CRep h σ) : CRep h' σ := x.scf (S := scr) (f.fa hs) (fun _ h => h) (x.1.1.fr f)
/-! what a call of either may cost and change -/
def Phn (h : Hp) : Nat := hN h + (if hR h 200 8 = 0 then 12 else 0) + (if hR h 200 9 = 0 then 7 else 0) + (if hR h 200 10 = 0 then 6 else 0)
def Phs (h : Hp) : Nat := hS h + (if hR h 200 8 = 0 then 80000 else 0) + (if hR h 200 9 = 0 then 26000 else 0) + (if hR h 200 10 = 0 then 84000 else 0)
def Cfr (h h' : Hp) : Prop := (∀ a, a < 200 ∨ (294 ≤ a ∧ a < 314) → hK h' a = hK h a ∧ ∀ k, hI h' a k = hI h a k ∧ hJ h' a k = hJ h a k ∧ hR h' a k = hR h a k) ∧ hN h ≤ hN h' ∧ Phn h' ≤ Phn h + 920 ∧ Phs h' ≤ Phs h + 2000
def rfP (a _k : Nat) : Prop := 294 ≤ a ∧ a < 314
def cfP (a _k : Nat) : Prop := 200 ≤ a ∧ (a < 294 ∨ 314 ≤ a)
theorem Cfr.of {P : Nat → Nat → Prop} {h h' : Hp} (f : Fp P h h') (hs : ∀ a k, P a k → cfP a k) : Cfr h h' := by
  refine ⟨fun a ha => ⟨f.K a, fun k => ⟨f.I (fun q => ?_), f.J (fun q => ?_), f.R a k⟩⟩, Nat.le_of_eq f.N.symm, ?_, ?_⟩
  · have := hs a k q; unfold cfP at this; omega
  · have := hs a k q; unfold cfP at this; omega
  · unfold Phn; rw [f.R, f.R, f.R, f.N]; omega
  · unfold Phs; rw [f.R, f.R, f.R, f.S]; omega
theorem Cfr.refl (h : Hp) : Cfr h h := Cfr.of (Fp.refl cfP h) (fun _ _ p => p)
theorem RRep.cf {h h' : Hp} {σ : AS} (f : Cfr h h') (x : RRep h σ) : RRep h' σ := by
  have g := f.1
  have gK : ∀ a, 294 ≤ a → a < 314 → hK h' a = hK h a := fun a h1 h2 => (g a (Or.inr ⟨h1, h2⟩)).1
  have gI : ∀ a k, 294 ≤ a → a < 314 → hI h' a k = hI h a k := fun a k h1 h2 => ((g a (Or.inr ⟨h1, h2⟩)).2 k).1
  have gJ : ∀ a k, 294 ≤ a → a < 314 → hJ h' a k = hJ h a k := fun a k h1 h2 => ((g a (Or.inr ⟨h1, h2⟩)).2 k).2.1
  have gR : ∀ a k, 294 ≤ a → a < 314 → hR h' a k = hR h a k := fun a k h1 h2 => ((g a (Or.inr ⟨h1, h2⟩)).2 k).2.2
  unfold RRep MdOk AtA at x ⊢
  simp only [gK 294 (by omega) (by omega), gK 295 (by omega) (by omega), gK 296 (by omega) (by omega), gK 297 (by omega) (by omega), gK 298 (by omega) (by omega), gK 299 (by omega) (by omega), gK 300 (by omega) (by omega), gK 301 (by omega) (by omega), gK 302 (by omega) (by omega), gK 303 (by omega) (by omega), gK 304 (by omega) (by omega), gK 305 (by omega) (by omega), gK 306 (by omega) (by omega), gK 307 (by omega) (by omega), gK 308 (by omega) (by omega), gK 309 (by omega) (by omega), gK 310 (by omega) (by omega), gK 311 (by omega) (by omega), gK 312 (by omega) (by omega), gK 313 (by omega) (by omega), gR 294 _ (by omega) (by omega), gI 294 _ (by omega) (by omega), gI 295 _ (by omega) (by omega), gI 296 _ (by omega) (by omega), gI 297 _ (by omega) (by omega), gI 311 _ (by omega) (by omega), gI 312 _ (by omega) (by omega), gJ 313 _ (by omega) (by omega)]
  exact x
theorem CRep.rf {h h' : Hp} {σ : AS} (f : Fp rfP h h') (x : CRep h σ) : CRep h' σ := x.dv f (fun a k p => by unfold rfP at p; unfold scr; omega)
/-- a call of the class: what it answers, what it makes of it all -/
def CSpec (d : Nat) (M : Me) (ls : List (Option PV)) (σ : AS) (v : PV) (σ' : AS) : Prop := ∀ (h : Hp) (Q : Option PV → Hp → Prop), CRep h σ → WF σ → (∀ h', CRep h' σ' → Cfr h h' → Q (some v) h') → WP d M 0 ls [] h Q
/-- a call of the reference -/
def RSpec (d : Nat) (M : Me) (ls : List (Option PV)) (σ : AS) (v : PV) (σ' : AS) : Prop := ∀ (h : Hp) (Q : Option PV → Hp → Prop), RRep h σ → WF σ → (∀ h', RRep h' σ' → Fp rfP h h' → Q (some v) h') → WP d M 0 ls [] h Q
