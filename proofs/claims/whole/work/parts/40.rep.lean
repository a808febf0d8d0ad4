/-! what the two hold, and how it hangs together -/
/-- what calls have made of both: all (pool, stand, deeds, images), which images there are, how many bytes are fed, which, fault, place, sorts of rows, how long they are, their numbers -/
abbrev AS : Type := (Nat → Int) × (Nat → Int) × Nat × (Nat → Int) × Int × Int × (Nat → Int) × (Nat → Int) × (Nat → Int)
def sA (σ : AS) : Nat → Int := σ.1
def sH (σ : AS) : Nat → Int := σ.2.1
def sN (σ : AS) : Nat := σ.2.2.1
def sT (σ : AS) : Nat → Int := σ.2.2.2.1
def sF (σ : AS) : Int := σ.2.2.2.2.1
def sP (σ : AS) : Int := σ.2.2.2.2.2.1
def sSo (σ : AS) : Nat → Int := σ.2.2.2.2.2.2.1
def sM (σ : AS) : Nat → Int := σ.2.2.2.2.2.2.2.1
def sB (σ : AS) : Nat → Int := σ.2.2.2.2.2.2.2.2
/-- image i's part -/
def imA (A : Nat → Int) (i : Nat) (k : Nat) : Int := A (1089 * (i + 1) + k)
def stA (A : Nat → Int) (k : Nat) : Int := A (33 + k)
def reA (A : Nat → Int) (i k : Nat) : Int := A (48 + 14 * i + k)
def WF (σ : AS) : Prop := poolOk (sA σ) ∧ stOk (stA (sA σ)) ∧ 0 ≤ sA σ 47 ∧ sA σ 47 ≤ 10 ∧ (∀ i, i < (sA σ 47).toNat → stOk (reA (sA σ) i)) ∧ (∀ i, i < 2 → (sH σ i = 0 ∨ sH σ i = 1) ∧ (sH σ i = 1 → poolOk (imA (sA σ) i) ∧ stOk (stA (imA (sA σ) i)))) ∧ sN σ ≤ 900 ∧ (∀ k, k < sN σ → 0 ≤ sT σ k ∧ sT σ k ≤ 255) ∧ (∀ i, i < 4 → -1 ≤ sSo σ i ∧ sSo σ i ≤ 3 ∧ 0 ≤ sM σ i ∧ sM σ i ≤ 40)
/-- the reference holds it -/
def RRep (h : Hp) (σ : AS) : Prop := MdOk h ∧ AtA h (sA σ) ∧ (∀ i, i < 2 → hI h 296 i = sH σ i) ∧ hI h 294 5 = (sN σ : Int) ∧ (∀ k, k < sN σ → hI h 297 k = sT σ k) ∧ hI h 294 13 = sF σ ∧ hI h 294 14 = sP σ ∧ (∀ i, i < 4 → hI h 311 i = sSo σ i ∧ hI h 312 i = sM σ i) ∧ ∀ k, k < 160 → hJ h 313 k = sB σ k
/-! frames: nothing but the cells of S, and new ones, has changed -/
def Fa (S : Nat → Prop) (h h' : Hp) : Prop := hN h ≤ hN h' ∧ ∀ a, a < 200 + hN h → ¬ S a → hK h' a = hK h a ∧ ∀ k, hI h' a k = hI h a k ∧ hJ h' a k = hJ h a k ∧ hR h' a k = hR h a k
theorem Fa.refl (S : Nat → Prop) (h : Hp) : Fa S h h := ⟨Nat.le_refl _, fun _ _ _ => ⟨rfl, fun _ => ⟨rfl, rfl, rfl⟩⟩⟩
theorem Fa.trans {S : Nat → Prop} {h h1 h2 : Hp} (a : Fa S h h1) (b : Fa S h1 h2) : Fa S h h2 := by
  refine ⟨Nat.le_trans a.1 b.1, fun q hq hs => ?_⟩
  have x := a.2 q hq hs
  have y := b.2 q (by have := a.1; omega) hs
  exact ⟨y.1.trans x.1, fun k => ⟨(y.2 k).1.trans (x.2 k).1, (y.2 k).2.1.trans (x.2 k).2.1, (y.2 k).2.2.trans (x.2 k).2.2⟩⟩
theorem Fa.mono {S S' : Nat → Prop} {h h1 : Hp} (a : Fa S h h1) (hs : ∀ q, S q → S' q) : Fa S' h h1 := ⟨a.1, fun q hq hn => a.2 q hq (fun z => hn (hs q z))⟩
theorem Fp.fa {P : Nat → Nat → Prop} {S : Nat → Prop} {h h' : Hp} (f : Fp P h h') (hs : ∀ a k, P a k → S a) : Fa S h h' := ⟨Nat.le_of_eq f.1.symm, fun a _ hn => ⟨f.K a, fun k => ⟨f.I (fun p => hn (hs a k p)), f.J (fun p => hn (hs a k p)), f.R a k⟩⟩⟩
theorem Fa.K {S : Nat → Prop} {h h' : Hp} (f : Fa S h h') {a : Nat} (h1 : a < 200 + hN h) (h2 : ¬ S a) : hK h' a = hK h a := (f.2 a h1 h2).1
theorem Fa.I {S : Nat → Prop} {h h' : Hp} (f : Fa S h h') {a : Nat} (h1 : a < 200 + hN h) (h2 : ¬ S a) (k : Nat) : hI h' a k = hI h a k := ((f.2 a h1 h2).2 k).1
theorem Fa.J {S : Nat → Prop} {h h' : Hp} (f : Fa S h h') {a : Nat} (h1 : a < 200 + hN h) (h2 : ¬ S a) (k : Nat) : hJ h' a k = hJ h a k := ((f.2 a h1 h2).2 k).2.1
theorem Fa.R {S : Nat → Prop} {h h' : Hp} (f : Fa S h h') {a : Nat} (h1 : a < 200 + hN h) (h2 : ¬ S a) (k : Nat) : hR h' a k = hR h a k := ((f.2 a h1 h2).2 k).2.2
theorem Fa.wI {S : Nat → Prop} {h h' : Hp} (f : Fa S h h') {a : Nat} (ha : S a) (k : Nat) (v : Int) : Fa S h (wI h' a k v) := by
  refine ⟨f.1, fun q hq hs => ?_⟩
  have x := f.2 q hq hs
  refine ⟨x.1, fun j => ⟨?_, (x.2 j).2.1, (x.2 j).2.2⟩⟩
  rw [hI_wI, if_neg (fun z => hs (by rw [z.1]; exact ha))]; exact (x.2 j).1
theorem Fa.wJ {S : Nat → Prop} {h h' : Hp} (f : Fa S h h') {a : Nat} (ha : S a) (k : Nat) (v : Int) : Fa S h (wJ h' a k v) := by
  refine ⟨f.1, fun q hq hs => ?_⟩
  have x := f.2 q hq hs
  refine ⟨x.1, fun j => ⟨(x.2 j).1, ?_, (x.2 j).2.2⟩⟩
  rw [hJ_wJ, if_neg (fun z => hs (by rw [z.1]; exact ha))]; exact (x.2 j).2.1
theorem Fa.wR {S : Nat → Prop} {h h' : Hp} (f : Fa S h h') {a : Nat} (ha : S a) (k v : Nat) : Fa S h (wR h' a k v) := by
  refine ⟨f.1, fun q hq hs => ?_⟩
  have x := f.2 q hq hs
  refine ⟨x.1, fun j => ⟨(x.2 j).1, (x.2 j).2.1, ?_⟩⟩
  rw [hR_wR, if_neg (fun z => hs (by rw [z.1]; exact ha))]; exact (x.2 j).2.2
theorem Fa.cp {S : Nat → Prop} {h h' : Hp} (f : Fa S h h') {t : Nat} (ha : S t) (s sp dp n : Nat) : Fa S h (cpI h' s sp t dp n) := by
  refine ⟨f.1, fun q hq hs => ?_⟩
  have x := f.2 q hq hs
  refine ⟨x.1, fun j => ⟨?_, (x.2 j).2.1, (x.2 j).2.2⟩⟩
  rw [hI_cp, if_neg (fun z => hs (by rw [z.1]; exact ha))]; exact (x.2 j).1
theorem Fa.nw {S : Nat → Prop} {h h' : Hp} (f : Fa S h h') (c l s : Nat) : Fa S h (nw h' c l s) := by
  refine ⟨by rw [hN_nw]; have := f.1; omega, fun q hq hs => ?_⟩
  have x := f.2 q hq hs
  have hne : ¬ (q = 200 + hN h') := by have := f.1; omega
  refine ⟨by rw [hK_nw, if_neg hne]; exact x.1, fun j => ⟨?_, ?_, ?_⟩⟩
  · rw [hI_nw, if_neg hne]; exact (x.2 j).1
  · rw [hJ_nw, if_neg hne]; exact (x.2 j).2.1
  · rw [hR_nw, if_neg hne]; exact (x.2 j).2.2
/-! the class's cells: pools, stands, deeds, rows, images, the tape -/
def PoolIs (h : Hp) (p : Nat) (B : Nat → Int) : Prop := PlAt h p (pdA B) ∧ hI h p 11 = B 2 ∧ hI h p 12 = B 0 ∧ hR h p 5 = p + 6 ∧ hK h (p + 6) = (21, 6) ∧ ∀ g, g < 6 → hI h (p + 6) g = B (27 + g)
def PlCell (h : Hp) (p a : Nat) : Prop := (p ≤ a ∧ a ≤ p + 6) ∨ a = hR h p 6 ∨ a = hR h p 7
/-- the cells of the search, the tally and the game -/
def Dy (h : Hp) (a : Nat) : Prop := (hR h 200 8 ≠ 0 ∧ hR h 200 8 ≤ a ∧ a ≤ hR h 200 8 + 11) ∨ (hR h 200 9 ≠ 0 ∧ hR h 200 9 ≤ a ∧ a ≤ hR h 200 9 + 6) ∨ (hR h 200 10 ≠ 0 ∧ hR h 200 10 ≤ a ∧ a ≤ hR h 200 10 + 5)
def PoolIn (h : Hp) (p : Nat) : Prop := 255 ≤ p ∧ ∀ a, PlCell h p a → a < 200 + hN h ∧ (a = 90 ∨ (255 ≤ a ∧ a ≤ 261) ∨ 314 ≤ a) ∧ ¬ Dy h a
def StIs (h : Hp) (s : Nat) (B : Nat → Int) : Prop := hI h s 2 = B 0 ∧ hI h s 3 = B 1 ∧ ∀ g, g < 6 → hI h (s + 1) g = B (2 + g) ∧ hI h (s + 2) g = B (8 + g)
def PastIs (h : Hp) (A : Nat → Int) : Prop := ∃ top : Nat, top < 11 ∧ hI h 220 1 = (top : Int) ∧ hI h 220 2 = A 47 ∧ ∀ i, i < (A 47).toNat → StIs h (222 + 3 * ((top + 11 - (A 47).toNat + i) % 11)) (reA A i)
def TrayIs (h : Hp) (σ : AS) : Prop := ∀ i, i < 4 → hI h (263 + 2 * i) 1 = (if sSo σ i = -1 then 1 else 0) ∧ (sSo σ i ≠ -1 → hI h (263 + 2 * i) 2 = sSo σ i ∧ hI h (263 + 2 * i) 3 = sM σ i ∧ ∀ k, k < (sM σ i).toNat → hJ h (264 + 2 * i) k = sB σ (40 * i + k))
def ImgIs (h : Hp) (σ : AS) : Prop := ∀ i, i < 2 → hI h (272 + 11 * i) 2 = sH σ i ∧ (sH σ i = 1 → PoolIs h (hR h (272 + 11 * i) 1) (imA (sA σ) i) ∧ PoolIn h (hR h (272 + 11 * i) 1) ∧ StIs h (273 + 11 * i) (stA (imA (sA σ) i)))
def RdIs (h : Hp) (σ : AS) : Prop := hI h 201 3 = (sN σ : Int) ∧ (∀ k, k < sN σ → hI h 202 k = w8 (sT σ k)) ∧ hI h 201 11 = sF σ ∧ hI h 201 12 = sP σ
def CBase (h : Hp) (σ : AS) : Prop := CsOk h ∧ 114 ≤ hN h ∧ (PoolIs h (hR h 200 7) (sA σ) ∧ PoolIn h (hR h 200 7)) ∧ StIs h 214 (stA (sA σ)) ∧ PastIs h (sA σ) ∧ TrayIs h σ ∧ ImgIs h σ ∧ RdIs h σ
theorem PoolIs.fa {S : Nat → Prop} {h h' : Hp} (f : Fa S h h') {p : Nat} {B : Nat → Int} (x : PoolIs h p B) (hc : ∀ a, PlCell h p a → a < 200 + hN h ∧ ¬ S a) : PoolIs h' p B ∧ ∀ a, PlCell h' p a → PlCell h p a := by
  obtain ⟨⟨x0, x1, x2, x3, x4, x5, x6, x7, x8, x9, x10, x11⟩, y1, y2, y3, y4, y5⟩ := x
  have c0 := hc p (Or.inl ⟨by omega, by omega⟩)
  have c1 := hc (p + 1) (Or.inl ⟨by omega, by omega⟩)
  have c2 := hc (p + 2) (Or.inl ⟨by omega, by omega⟩)
  have c3 := hc (p + 3) (Or.inl ⟨by omega, by omega⟩)
  have c6 := hc (p + 6) (Or.inl ⟨by omega, by omega⟩)
  have cr := hc (hR h p 6) (Or.inr (Or.inl rfl))
  have ct := hc (hR h p 7) (Or.inr (Or.inr rfl))
  refine ⟨⟨⟨x0, by rw [f.K c0.1 c0.2]; exact x1, by rw [f.R c0.1 c0.2]; exact x2, by rw [f.R c0.1 c0.2]; exact x3, by rw [f.R c0.1 c0.2]; exact x4, by rw [f.K c1.1 c1.2]; exact x5, by rw [f.K c2.1 c2.2]; exact x6, by rw [f.K c3.1 c3.2]; exact x7, by rw [f.I c0.1 c0.2]; exact x8, fun t ht => ?_, ?_, ?_⟩, by rw [f.I c0.1 c0.2]; exact y1, by rw [f.I c0.1 c0.2]; exact y2, by rw [f.R c0.1 c0.2]; exact y3, by rw [f.K c6.1 c6.2]; exact y4, fun g hg => by rw [f.I c6.1 c6.2]; exact y5 g hg⟩, ?_⟩
  · rw [f.I c1.1 c1.2, f.I c2.1 c2.2, f.I c3.1 c3.2]; exact x9 t ht
  · rw [f.R c0.1 c0.2]
    exact ⟨by rw [f.K cr.1 cr.2]; exact x10.1, x10.2.1, fun j hj => by rw [f.I cr.1 cr.2]; exact x10.2.2 j hj⟩
  · rw [f.R c0.1 c0.2]
    exact ⟨by rw [f.K ct.1 ct.2]; exact x11.1, x11.2.1, fun j hj => by rw [f.I ct.1 ct.2]; exact x11.2.2 j hj⟩
  · intro a ha
    unfold PlCell at ha ⊢
    rw [f.R c0.1 c0.2, f.R c0.1 c0.2] at ha
    exact ha
theorem StIs.fa {S : Nat → Prop} {h h' : Hp} (f : Fa S h h') {s : Nat} {B : Nat → Int} (x : StIs h s B) (h1 : s + 2 < 200 + hN h) (n0 : ¬ S s) (n1 : ¬ S (s + 1)) (n2 : ¬ S (s + 2)) : StIs h' s B := by
  refine ⟨by rw [f.I (by omega) n0]; exact x.1, by rw [f.I (by omega) n0]; exact x.2.1, fun g hg => ?_⟩
  rw [f.I (by omega) n1, f.I (by omega) n2]; exact x.2.2 g hg
theorem PastIs.fa {S : Nat → Prop} {h h' : Hp} (f : Fa S h h') {A : Nat → Int} (n : 114 ≤ hN h) (x : PastIs h A) (hs : ∀ a, 220 ≤ a → a ≤ 254 → ¬ S a) : PastIs h' A := by
  obtain ⟨top, t1, t2, t3, t4⟩ := x
  refine ⟨top, t1, by rw [f.I (by omega) (hs _ (by omega) (by omega))]; exact t2, by rw [f.I (by omega) (hs _ (by omega) (by omega))]; exact t3, fun i hi => ?_⟩
  have := Nat.mod_lt (top + 11 - (A 47).toNat + i) (show 0 < 11 by omega)
  exact (t4 i hi).fa f (by omega) (hs _ (by omega) (by omega)) (hs _ (by omega) (by omega)) (hs _ (by omega) (by omega))
theorem TrayIs.fa {S : Nat → Prop} {h h' : Hp} (f : Fa S h h') {σ : AS} (n : 114 ≤ hN h) (x : TrayIs h σ) (hs : ∀ a, 263 ≤ a → a ≤ 270 → ¬ S a) : TrayIs h' σ := by
  intro i hi
  obtain ⟨y1, y2⟩ := x i hi
  refine ⟨by rw [f.I (by omega) (hs _ (by omega) (by omega))]; exact y1, fun hn => ?_⟩
  obtain ⟨z1, z2, z3⟩ := y2 hn
  refine ⟨by rw [f.I (by omega) (hs _ (by omega) (by omega))]; exact z1, by rw [f.I (by omega) (hs _ (by omega) (by omega))]; exact z2, fun k hk => ?_⟩
  rw [f.J (by omega) (hs _ (by omega) (by omega))]; exact z3 k hk
theorem RdIs.fa {S : Nat → Prop} {h h' : Hp} (f : Fa S h h') {σ : AS} (n : 114 ≤ hN h) (x : RdIs h σ) (h1 : ¬ S 201) (h2 : ¬ S 202) : RdIs h' σ := by
  obtain ⟨y1, y2, y3, y4⟩ := x
  refine ⟨by rw [f.I (by omega) h1]; exact y1, fun k hk => by rw [f.I (by omega) h2]; exact y2 k hk, by rw [f.I (by omega) h1]; exact y3, by rw [f.I (by omega) h1]; exact y4⟩
/-- where the search, the tally and the game lie -/
def Blk (h : Hp) : Prop := (hR h 200 8 = 0 ∨ (314 ≤ hR h 200 8 ∧ hR h 200 8 + 11 < 200 + hN h)) ∧ (hR h 200 9 = 0 ∨ (314 ≤ hR h 200 9 ∧ hR h 200 9 + 6 < 200 + hN h ∧ hR h 200 8 ≠ 0 ∧ (hR h 200 9 + 6 < hR h 200 8 ∨ hR h 200 8 + 11 < hR h 200 9))) ∧ (hR h 200 10 = 0 ∨ (314 ≤ hR h 200 10 ∧ hR h 200 10 + 5 < 200 + hN h ∧ hR h 200 8 ≠ 0 ∧ (hR h 200 10 + 5 < hR h 200 8 ∨ hR h 200 8 + 11 < hR h 200 10) ∧ (hR h 200 9 ≠ 0 → hR h 200 9 + 6 < hR h 200 10 ∨ hR h 200 10 + 5 < hR h 200 9)))
theorem Blk.ge {h : Hp} (b : Blk h) {a : Nat} (d : Dy h a) : 314 ≤ a ∧ a < 200 + hN h := by
  unfold Blk at b
  unfold Dy at d
  omega
/-- cells that a call may write to and leave -/
def scr (a : Nat) : Prop := a = 203 ∨ (211 ≤ a ∧ a ≤ 213) ∨ (217 ≤ a ∧ a ≤ 219) ∨ (294 ≤ a ∧ a ≤ 313)
theorem PoolIn.fa {S : Nat → Prop} {h h' : Hp} (f : Fa S h h') (n : 114 ≤ hN h) {p : Nat} (x : PoolIn h p) (h2 : ¬ S 200) (hc : ¬ S p) : PoolIn h' p := by
  refine ⟨x.1, fun a ha => ?_⟩
  have c0 := (x.2 p (Or.inl ⟨by omega, by omega⟩)).1
  have ha' : PlCell h p a := by
    unfold PlCell at ha ⊢
    rw [f.R c0 hc, f.R c0 hc] at ha
    exact ha
  obtain ⟨y1, y2, y3⟩ := x.2 a ha'
  refine ⟨by have := f.1; omega, y2, fun hd => y3 ?_⟩
  unfold Dy at hd ⊢
  rw [f.R (by omega) h2, f.R (by omega) h2, f.R (by omega) h2] at hd
  exact hd
theorem CBase.fa {S : Nat → Prop} {h h' : Hp} {σ : AS} (f : Fa S h h') (b : Blk h) (hs : ∀ a, S a → scr a ∨ Dy h a) (m' : CsOk h') (x : CBase h σ) : CBase h' σ := by
  obtain ⟨m, n, ⟨p1, p2⟩, s1, pa, tr, im, rd⟩ := x
  have ns : ∀ a, a < 314 → ¬ scr a → ¬ S a := fun a ha hn hS => by
    rcases hs a hS with h1 | h1
    · exact hn h1
    · have := (b.ge h1).1
      omega
  have n2 : ¬ S 200 := ns _ (by omega) (by unfold scr; omega)
  have pc : ∀ p, PoolIn h p → ∀ a, PlCell h p a → a < 200 + hN h ∧ ¬ S a := fun p hp a ha => by
    obtain ⟨y1, y2, y3⟩ := hp.2 a ha
    refine ⟨y1, fun hS => ?_⟩
    rcases hs a hS with h1 | h1
    · unfold scr at h1; omega
    · exact y3 h1
  have e7 : hR h' 200 7 = hR h 200 7 := f.R (by omega) n2 7
  refine ⟨m', by have := f.1; omega, ?_, ?_, ?_, ?_, ?_, ?_⟩
  · rw [e7]
    exact ⟨(p1.fa f (pc _ p2)).1, p2.fa f n n2 (pc _ p2 _ (Or.inl ⟨by omega, by omega⟩)).2⟩
  · exact s1.fa f (by omega) (ns _ (by omega) (by unfold scr; omega)) (ns _ (by omega) (by unfold scr; omega)) (ns _ (by omega) (by unfold scr; omega))
  · exact pa.fa f n (fun a h1 h2 => ns _ (by omega) (by unfold scr; omega))
  · exact tr.fa f n (fun a h1 h2 => ns _ (by omega) (by unfold scr; omega))
  · intro i hi
    have e1 : hR h' (272 + 11 * i) 1 = hR h (272 + 11 * i) 1 := f.R (by omega) (ns _ (by omega) (by unfold scr; omega)) 1
    obtain ⟨y1, y2⟩ := im i hi
    refine ⟨by rw [f.I (by omega) (ns _ (by omega) (by unfold scr; omega))]; exact y1, fun h1 => ?_⟩
    obtain ⟨z1, z2, z3⟩ := y2 h1
    rw [e1]
    exact ⟨(z1.fa f (pc _ z2)).1, z2.fa f n n2 (pc _ z2 _ (Or.inl ⟨by omega, by omega⟩)).2, z3.fa f (by omega) (ns _ (by omega) (by unfold scr; omega)) (ns _ (by omega) (by unfold scr; omega)) (ns _ (by omega) (by unfold scr; omega))⟩
  · exact rd.fa f n (ns _ (by omega) (by unfold scr; omega)) (ns _ (by omega) (by unfold scr; omega))
