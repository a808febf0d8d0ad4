/-! a dive: the numbers of it, and the class's way to work it out -/
/-- what a dive needs of a pool: how many things; depth, guard, needs of each; the laws of reaching and telling -/
abbrev PD : Type := Nat × (Nat → Int) × (Nat → Int) × (Nat → Nat) × List Int × List Int
def bits (n : Nat) : Nat := n % 2 + n / 2 % 2 + n / 4 % 2 + n / 8 % 2 + n / 16 % 2 + n / 32 % 2 + n / 64 % 2 + n / 128 % 2 + n / 256 % 2 + n / 512 % 2
def env0 (br bo : Int) (g th bd : Nat) (rc : Int) (i : Nat) : Int := if i = 0 then (g : Int) else if i = 1 then bo else if i = 2 then (bd : Int) else if i = 3 then (bits th : Int) else if i = 4 then br else rc
def lawv (env : Nat → Int) (cs : List Int) : Int := clampI ((crun env cs []).getD 0 0) 0 99
def rch (p : PD) (bo : Int) (th : Nat) : Nat → Int → Int
  | 0, r => r
  | n + 1, r => if th.testBit n = true ∧ bo < p.2.2.1 n ∧ p.2.1 n < rch p bo th n r then p.2.1 n else rch p bo th n r
def rch0 (p : PD) (br bo : Int) (g th bd : Nat) : Int := if p.2.2.2.2.1 = [] then br else lawv (env0 br bo g th bd 0) p.2.2.2.2.1
def dRch (p : PD) (br bo : Int) (g th bd : Nat) : Int := rch p bo th p.1 (rch0 p br bo g th bd)
def thr (p : PD) (rc : Int) (th : Nat) : Nat → Nat
  | 0 => th
  | n + 1 => if p.2.1 n ≤ rc ∧ without (p.2.2.2.1 n) th = 0 then thr p rc th n ||| 2 ^ n else thr p rc th n
def dThr (p : PD) (br bo : Int) (g th bd : Nat) : Nat := thr p (dRch p br bo g th bd) th p.1
def dPst (p : PD) (br bo : Int) (g th bd : Nat) : Int := if p.2.2.2.2.2 = [] then (if bd < 99 then (bd : Int) + 1 else 99) else lawv (env0 br bo g th bd (dRch p br bo g th bd)) p.2.2.2.2.2
def lwOk (w : Nat) (l : List Int) : Prop := l.length ≤ 900 ∧ (l = [] ∨ trun w l [] = some [false])
def pdOk (p : PD) : Prop := p.1 ≤ 6 ∧ (∀ t, t < p.1 → 0 ≤ p.2.1 t ∧ p.2.1 t ≤ 99 ∧ p.2.2.2.1 t < 64) ∧ lwOk 5 p.2.2.2.2.1 ∧ lwOk 6 p.2.2.2.2.2
theorem clampI_lo (z lo hi : Int) (h : lo ≤ hi) : lo ≤ clampI z lo hi ∧ clampI z lo hi ≤ hi := by
  unfold clampI; split
  · omega
  · split <;> omega
theorem lawv_in (env : Nat → Int) (cs : List Int) : 0 ≤ lawv env cs ∧ lawv env cs ≤ 99 := clampI_lo _ 0 99 (by omega)
theorem rch0_in {p : PD} {br bo : Int} {g th bd : Nat} (h1 : 0 ≤ br) (h2 : br ≤ 99) : 0 ≤ rch0 p br bo g th bd ∧ rch0 p br bo g th bd ≤ 99 := by
  unfold rch0; split
  · exact ⟨h1, h2⟩
  · exact lawv_in _ _
theorem rch_in {p : PD} (hp : pdOk p) {bo : Int} {th : Nat} {r : Int} (h1 : 0 ≤ r) (h2 : r ≤ 99) : ∀ n, n ≤ p.1 → 0 ≤ rch p bo th n r ∧ rch p bo th n r ≤ 99 := by
  intro n
  induction n with
  | zero => intro _; exact ⟨h1, h2⟩
  | succ n ih =>
    intro hn
    have := ih (by omega)
    have := hp.2.1 n (by omega)
    unfold rch; split <;> omega
theorem dRch_in {p : PD} (hp : pdOk p) {br bo : Int} {g th bd : Nat} (h1 : 0 ≤ br) (h2 : br ≤ 99) : 0 ≤ dRch p br bo g th bd ∧ dRch p br bo g th bd ≤ 99 := rch_in hp (rch0_in h1 h2).1 (rch0_in h1 h2).2 _ (Nat.le_refl _)
theorem thr_in {p : PD} {rc : Int} {th : Nat} (h : th < 64) : ∀ n, n ≤ 6 → thr p rc th n < 64 := by
  intro n
  induction n with
  | zero => intro _; exact h
  | succ n ih =>
    intro hn
    have := ih (by omega)
    unfold thr; split
    · exact Nat.or_lt_two_pow (n := 6) this (Nat.pow_lt_pow_right (a := 2) (by decide) (by omega))
    · exact this
theorem dThr_in {p : PD} (hp : pdOk p) {br bo : Int} {g th bd : Nat} (h : th < 64) : dThr p br bo g th bd < 64 := thr_in h _ hp.1
theorem dPst_in {p : PD} {br bo : Int} {g th bd : Nat} : 0 ≤ dPst p br bo g th bd ∧ dPst p br bo g th bd ≤ 99 := by
  unfold dPst; split
  · split <;> omega
  · exact lawv_in _ _
theorem bits_le (n : Nat) : bits n ≤ 10 := by unfold bits; omega
theorem bc_fin : ∀ n : Nat, n < 64 → (fun i : Int => iand (w32 (w32 (iand (w32 (w32 (iand (w32 (i - iand (iushr i 1) 1431655765)) 858993459 + iand (iushr (w32 (i - iand (iushr i 1) 1431655765)) 2) 858993459) + iushr (w32 (iand (w32 (i - iand (iushr i 1) 1431655765)) 858993459 + iand (iushr (w32 (i - iand (iushr i 1) 1431655765)) 2) 858993459)) 4)) 252645135 + iushr (iand (w32 (w32 (iand (w32 (i - iand (iushr i 1) 1431655765)) 858993459 + iand (iushr (w32 (i - iand (iushr i 1) 1431655765)) 2) 858993459) + iushr (w32 (iand (w32 (i - iand (iushr i 1) 1431655765)) 858993459 + iand (iushr (w32 (i - iand (iushr i 1) 1431655765)) 2) 858993459)) 4)) 252645135) 8) + iushr (w32 (iand (w32 (w32 (iand (w32 (i - iand (iushr i 1) 1431655765)) 858993459 + iand (iushr (w32 (i - iand (iushr i 1) 1431655765)) 2) 858993459) + iushr (w32 (iand (w32 (i - iand (iushr i 1) 1431655765)) 858993459 + iand (iushr (w32 (i - iand (iushr i 1) 1431655765)) 2) 858993459)) 4)) 252645135 + iushr (iand (w32 (w32 (iand (w32 (i - iand (iushr i 1) 1431655765)) 858993459 + iand (iushr (w32 (i - iand (iushr i 1) 1431655765)) 2) 858993459) + iushr (w32 (iand (w32 (i - iand (iushr i 1) 1431655765)) 858993459 + iand (iushr (w32 (i - iand (iushr i 1) 1431655765)) 2) 858993459)) 4)) 252645135) 8)) 16)) 63) (n : Int) = (bits n : Int) := by decide +kernel
theorem S_bitCount {d : Nat} {h : Hp} {Q : Option PV → Hp → Prop} {n : Nat} (hn : n < 64) : WP d mJ6_bitCount_0f7a4 0 [some (.inl (n : Int))] [] h Q = Q (some (.inl (bits n : Int))) h := by
  have := bc_fin n hn
  simp only [rJ6_bitCount_0f7a4_0, rJ6_bitCount_0f7a4_1, rJ6_bitCount_0f7a4_2, rJ6_bitCount_0f7a4_3, rJ6_bitCount_0f7a4_4, rJ6_bitCount_0f7a4_7, rJ6_bitCount_0f7a4_8, rJ6_bitCount_0f7a4_9, rJ6_bitCount_0f7a4_10, rJ6_bitCount_0f7a4_11, rJ6_bitCount_0f7a4_14, rJ6_bitCount_0f7a4_15, rJ6_bitCount_0f7a4_16, rJ6_bitCount_0f7a4_17, rJ6_bitCount_0f7a4_18, rJ6_bitCount_0f7a4_21, rJ6_bitCount_0f7a4_22, rJ6_bitCount_0f7a4_23, rJ6_bitCount_0f7a4_24, rJ6_bitCount_0f7a4_25, rJ6_bitCount_0f7a4_26, rJ6_bitCount_0f7a4_27, rJ6_bitCount_0f7a4_28, rJ6_bitCount_0f7a4_29, rJ6_bitCount_0f7a4_32, rJ6_bitCount_0f7a4_33, rJ6_bitCount_0f7a4_34, rJ6_bitCount_0f7a4_35, rJ6_bitCount_0f7a4_36, rJ6_bitCount_0f7a4_38, rJ6_bitCount_0f7a4_39, rJ6_bitCount_0f7a4_40, rJ6_bitCount_0f7a4_41, rJ6_bitCount_0f7a4_42, rJ6_bitCount_0f7a4_43, rJ6_bitCount_0f7a4_45, rJ6_bitCount_0f7a4_46, rJ6_bitCount_0f7a4_47, rJ6_bitCount_0f7a4_48, rJ6_bitCount_0f7a4_49, rJ6_bitCount_0f7a4_51, rJ6_bitCount_0f7a4_52]
  exact congrArg (fun z : Int => Q (some (.inl z)) h) this
theorem S_min {d : Nat} {h : Hp} {Q : Option PV → Hp → Prop} {a b : Int} : WP d mJ9_min_7cf53 0 [some (.inl a), some (.inl b)] [] h Q = Q (some (.inl (if b < a then b else a))) h := by
  simp only [rJ9_min_7cf53_0, rJ9_min_7cf53_1, rJ9_min_7cf53_2, rJ9_min_7cf53_5, rJ9_min_7cf53_6, rJ9_min_7cf53_9, rJ9_min_7cf53_10]
  split <;> rfl
theorem S_max {d : Nat} {h : Hp} {Q : Option PV → Hp → Prop} {a b : Int} : WP d mJ9_max_7cf53 0 [some (.inl a), some (.inl b)] [] h Q = Q (some (.inl (if a < b then b else a))) h := by
  simp only [rJ9_max_7cf53_0, rJ9_max_7cf53_1, rJ9_max_7cf53_2, rJ9_max_7cf53_5, rJ9_max_7cf53_6, rJ9_max_7cf53_9, rJ9_max_7cf53_10]
  split <;> rfl
/-- a row of steps lies at a -/
def lawAt (h : Hp) (a : Nat) (l : List Int) : Prop := hK h a = (21, l.length) ∧ (a < 200 ∨ 213 < a) ∧ ∀ j, j < l.length → hI h a j = enc (l.getD j 0)
/-- a pool lies at p -/
def PlAt (h : Hp) (p : Nat) (pd : PD) : Prop := 213 < p ∧ hK h p = (5, 0) ∧ hR h p 0 = p + 1 ∧ hR h p 1 = p + 2 ∧ hR h p 2 = p + 3 ∧ hK h (p + 1) = (21, 6) ∧ hK h (p + 2) = (21, 6) ∧ hK h (p + 3) = (21, 6) ∧ hI h p 10 = (pd.1 : Int) ∧ (∀ t, t < pd.1 → hI h (p + 1) t = pd.2.1 t ∧ hI h (p + 2) t = pd.2.2.1 t ∧ hI h (p + 3) t = (pd.2.2.2.1 t : Int)) ∧ lawAt h (hR h p 6) pd.2.2.2.2.1 ∧ lawAt h (hR h p 7) pd.2.2.2.2.2
/-- a stand lies at s -/
def StAt (h : Hp) (s : Nat) : Prop := 213 < s ∧ 213 < hR h s 0 ∧ 213 < hR h s 1 ∧ hK h s = (8, 0) ∧ hK h (hR h s 0) = (21, 6) ∧ hK h (hR h s 1) = (21, 6)
def LkC (h : Hp) (p sd : Nat) (pd : PD) (g bd th : Nat) (br bo : Int) : Prop := DvOk h ∧ PlAt h p pd ∧ pdOk pd ∧ StAt h sd ∧ hI h (hR h sd 0) g = br ∧ hI h (hR h sd 1) g = bo ∧ 0 ≤ br ∧ br ≤ 99 ∧ 0 ≤ bo ∧ bo ≤ 9 ∧ g < 6 ∧ bd ≤ 99 ∧ th < 64
def vP (a _k : Nat) : Prop := a = 211 ∨ a = 212 ∨ a = 213
theorem lawAt.fr {h h' : Hp} (f : Fp vP h h') {a : Nat} {l : List Int} (x : lawAt h a l) : lawAt h' a l := ⟨by rw [f.K]; exact x.1, x.2.1, fun j hj => by rw [f.I (by unfold vP; have := x.2.1; omega)]; exact x.2.2 j hj⟩
theorem PlAt.fr {h h' : Hp} (f : Fp vP h h') {p : Nat} {pd : PD} (x : PlAt h p pd) : PlAt h' p pd := by
  obtain ⟨x0, x1, x2, x3, x4, x5, x6, x7, x8, x9, x10, x11⟩ := x
  refine ⟨x0, by rw [f.K]; exact x1, by rw [f.R]; exact x2, by rw [f.R]; exact x3, by rw [f.R]; exact x4, by rw [f.K]; exact x5, by rw [f.K]; exact x6, by rw [f.K]; exact x7, by rw [f.I (by unfold vP; omega)]; exact x8, fun t ht => ?_, by rw [f.R]; exact x10.fr f, by rw [f.R]; exact x11.fr f⟩
  rw [f.I (by unfold vP; omega), f.I (by unfold vP; omega), f.I (by unfold vP; omega)]
  exact x9 t ht
theorem StAt.fr {P : Nat → Nat → Prop} {h h' : Hp} (f : Fp P h h') {s : Nat} (x : StAt h s) : StAt h' s := by
  unfold StAt
  simp only [f.K, f.R]
  exact x
theorem DvOk.fr {P : Nat → Nat → Prop} {h h' : Hp} (f : Fp P h h') (x : DvOk h) : DvOk h' := by
  unfold DvOk
  simp only [f.K, f.R]
  exact x
theorem LkC.fr {h h' : Hp} (f : Fp vP h h') {p sd : Nat} {pd : PD} {g bd th : Nat} {br bo : Int} (x : LkC h p sd pd g bd th br bo) : LkC h' p sd pd g bd th br bo := by
  obtain ⟨x1, x2, x3, x4, x5, x6, x7⟩ := x
  refine ⟨x1.fr f, x2.fr f, x3, x4.fr f, ?_, ?_, x7⟩
  · rw [f.R, f.I (by unfold vP; have := x4.2.1; omega)]; exact x5
  · rw [f.R, f.I (by unfold vP; have := x4.2.2.1; omega)]; exact x6
theorem env0_ok {br bo : Int} {g th bd : Nat} {rc : Int} (h1 : 0 ≤ br ∧ br ≤ 99) (h2 : 0 ≤ bo ∧ bo ≤ 9) (h3 : g < 6) (h4 : bd ≤ 99) (h5 : 0 ≤ rc ∧ rc ≤ 99) (w : Nat) : envOk w (env0 br bo g th bd rc) := by
  intro i _
  have := bits_le th
  unfold env0
  split
  · omega
  · split
    · omega
    · split
      · omega
      · split
        · omega
        · split <;> omega
