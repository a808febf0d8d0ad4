/-! pools that are alike; stands, and what deeds make of them -/
def SameP (A A' : Nat → Int) : Prop := ∀ k, k < 33 ∨ (188 ≤ k ∧ k < 1089) → A' k = A k
def pdE (p q : PD) : Prop := p.1 = q.1 ∧ (∀ t, t < p.1 → p.2.1 t = q.2.1 t ∧ p.2.2.1 t = q.2.2.1 t ∧ p.2.2.2.1 t = q.2.2.2.1 t) ∧ p.2.2.2.2 = q.2.2.2.2
theorem lawA_same {A A' : Nat → Int} (po : poolOk A) (s : SameP A A') {l : Nat} (hl : l < 2) : lawA A' l = lawA A l := by
  have e3 := s (3 + l) (by omega)
  have e5 := s (5 + l) (by omega)
  have e7 := s (7 + l) (by omega)
  unfold lawA
  rw [e3, e5, e7]
  by_cases h0 : A (3 + l) = 0
  · rw [if_pos h0, if_pos h0]
  · rw [if_neg h0, if_neg h0]
    obtain ⟨a1, a2⟩ := po.2.2.2.2.2.2.1 l hl
    have a3 := a2 (a1.resolve_left h0)
    apply List.map_congr_left
    intro k hk
    have := List.mem_range.1 hk
    exact s _ (by omega)
theorem pdA_same {A A' : Nat → Int} (po : poolOk A) (s : SameP A A') : pdE (pdA A') (pdA A) := by
  have e1 := s 1 (by omega)
  have b := po.2.1
  refine ⟨?_, fun t ht => ?_, ?_⟩
  · show (A' 1).toNat = (A 1).toNat
    rw [e1]
  · have ht' : t < (A' 1).toNat := ht
    rw [e1] at ht'
    refine ⟨s (9 + t) (by omega), s (15 + t) (by omega), ?_⟩
    show (A' (21 + t)).toNat = (A (21 + t)).toNat
    rw [s (21 + t) (by omega)]
  · show (lawA A' 0, lawA A' 1) = (lawA A 0, lawA A 1)
    rw [lawA_same po s (by omega), lawA_same po s (by omega)]
theorem pdE.ok {p q : PD} (e : pdE p q) (h : pdOk q) : pdOk p := by
  obtain ⟨e1, e2, e3⟩ := e
  refine ⟨by rw [e1]; exact h.1, fun t ht => ?_, ?_, ?_⟩
  · have := e2 t ht
    rw [this.1, this.2.2]
    exact h.2.1 t (by omega)
  · rw [e3]; exact h.2.2.1
  · rw [e3]; exact h.2.2.2
theorem poolOk_same {A A' : Nat → Int} (po : poolOk A) (s : SameP A A') : poolOk A' := by
  refine ⟨by rw [s 1 (by omega)]; exact po.1, by rw [s 1 (by omega)]; exact po.2.1, by rw [s 2 (by omega)]; exact po.2.2.1, by rw [s 2 (by omega)]; exact po.2.2.2.1, (pdA_same po s).ok po.2.2.2.2.1, fun t ht => by rw [s _ (by omega)]; exact po.2.2.2.2.2.1 t ht, fun l hl => ?_, fun g hg => by rw [s _ (by omega)]; exact po.2.2.2.2.2.2.2 g hg⟩
  rw [s (3 + l) (by omega), s (5 + l) (by omega), s (7 + l) (by omega)]
  exact po.2.2.2.2.2.2.1 l hl
theorem rch_E {p q : PD} (e : pdE p q) {bo : Int} {th : Nat} {r : Int} : ∀ n, n ≤ p.1 → rch p bo th n r = rch q bo th n r := by
  intro n
  induction n with
  | zero => intro _; rfl
  | succ n ih =>
    intro hn
    obtain ⟨a, b, c⟩ := e.2.1 n (by omega)
    unfold rch
    rw [ih (by omega), a, b]
theorem thr_E {p q : PD} (e : pdE p q) {rc : Int} {th : Nat} : ∀ n, n ≤ p.1 → thr p rc th n = thr q rc th n := by
  intro n
  induction n with
  | zero => intro _; rfl
  | succ n ih =>
    intro hn
    obtain ⟨a, b, c⟩ := e.2.1 n (by omega)
    unfold thr
    rw [ih (by omega), a, c]
theorem dRch_E {p q : PD} (e : pdE p q) {br bo : Int} {g th bd : Nat} : dRch p br bo g th bd = dRch q br bo g th bd := by
  unfold dRch rch0
  rw [rch_E e _ (Nat.le_refl _), e.1, e.2.2]
theorem dThr_E {p q : PD} (e : pdE p q) {br bo : Int} {g th bd : Nat} : dThr p br bo g th bd = dThr q br bo g th bd := by
  unfold dThr
  rw [dRch_E e, thr_E e _ (Nat.le_refl _), e.1]
theorem dPst_E {p q : PD} (e : pdE p q) {br bo : Int} {g th bd : Nat} : dPst p br bo g th bd = dPst q br bo g th bd := by
  unfold dPst
  rw [dRch_E e, e.2.2]
theorem PoolIs.same {h : Hp} {p : Nat} {A A' : Nat → Int} (po : poolOk A) (s : SameP A A') (x : PoolIs h p A) : PoolIs h p A' := by
  obtain ⟨⟨x0, x1, x2, x3, x4, x5, x6, x7, x8, x9, x10, x11⟩, y1, y2, y3, y4, y5⟩ := x
  obtain ⟨e1, e2, e3⟩ := pdA_same po s
  refine ⟨⟨x0, x1, x2, x3, x4, x5, x6, x7, by rw [e1]; exact x8, fun t ht => ?_, by rw [e3]; exact x10, by rw [e3]; exact x11⟩, by rw [s 2 (by omega)]; exact y1, by rw [s 0 (by omega)]; exact y2, y3, y4, fun g hg => by rw [s _ (by omega)]; exact y5 g hg⟩
  obtain ⟨a, b, c⟩ := e2 t ht
  rw [a, b, c]
  exact x9 t (by omega)
/-- another stand -/
def putS (A B : Nat → Int) : Nat → Int := fun k => if 33 ≤ k ∧ k < 47 then B (k - 33) else A k
theorem putS_same (A B : Nat → Int) : SameP A (putS A B) := fun k hk => if_neg (by omega)
theorem putS_47 (A B : Nat → Int) {k : Nat} (h : k < 33 ∨ 47 ≤ k) : putS A B k = A k := if_neg (by omega)
theorem putS_st (A B : Nat → Int) {k : Nat} (h : k < 14) : stA (putS A B) k = B k := by
  unfold stA putS
  rw [if_pos (by omega), show 33 + k - 33 = k by omega]
theorem putS_at (A B : Nat → Int) {k : Nat} (h : k < 14) : putS A B (33 + k) = B k := putS_st A B h
theorem stOk.of {B B' : Nat → Int} (h : ∀ k, k < 14 → B' k = B k) (o : stOk B) : stOk B' := by
  refine ⟨by rw [h 0 (by omega)]; exact o.1, by rw [h 0 (by omega)]; exact o.2.1, by rw [h 1 (by omega)]; exact o.2.2.1, by rw [h 1 (by omega)]; exact o.2.2.2.1, fun g hg => ?_⟩
  rw [h _ (by omega), h _ (by omega)]
  exact o.2.2.2.2 g hg
theorem StIs.of {h : Hp} {s : Nat} {B B' : Nat → Int} (e : ∀ k, k < 14 → B' k = B k) (o : StIs h s B) : StIs h s B' := by
  refine ⟨by rw [e 0 (by omega)]; exact o.1, by rw [e 1 (by omega)]; exact o.2.1, fun g hg => ?_⟩
  rw [e _ (by omega), e _ (by omega)]
  exact o.2.2 g hg
def bR (A B : Nat → Int) (g : Nat) : Int := dRch (pdA A) (B (2 + g)) (B (8 + g)) g (B 1).toNat (B 0).toNat
def bT (A B : Nat → Int) (g : Nat) : Nat := dThr (pdA A) (B (2 + g)) (B (8 + g)) g (B 1).toNat (B 0).toNat
def bP (A B : Nat → Int) (g : Nat) : Int := dPst (pdA A) (B (2 + g)) (B (8 + g)) g (B 1).toNat (B 0).toNat
theorem a_put {A B : Nat → Int} (po : poolOk A) {g : Nat} (hg : g < 6) : aR (putS A B) g = bR A B g ∧ aT (putS A B) g = bT A B g ∧ aP (putS A B) g = bP A B g := by
  have e := pdA_same po (putS_same A B)
  have e1 : putS A B 33 = B 0 := putS_at A B (k := 0) (by omega)
  have e2 : putS A B 34 = B 1 := putS_at A B (k := 1) (by omega)
  have e3 : putS A B (35 + g) = B (2 + g) := by rw [show 35 + g = 33 + (2 + g) by omega]; exact putS_at A B (by omega)
  have e4 : putS A B (41 + g) = B (8 + g) := by rw [show 41 + g = 33 + (8 + g) by omega]; exact putS_at A B (by omega)
  unfold aR aT aP bR bT bP
  rw [e1, e2, e3, e4, dRch_E e, dThr_E e, dPst_E e]
  exact ⟨rfl, rfl, rfl⟩
theorem b_in {A B : Nat → Int} (po : poolOk A) (so : stOk B) {g : Nat} (hg : g < 6) : (0 ≤ bR A B g ∧ bR A B g ≤ 99) ∧ bT A B g < 64 ∧ 0 ≤ bP A B g ∧ bP A B g ≤ 99 := by
  obtain ⟨o1, o2, o3, o4, o5⟩ := so
  obtain ⟨o6, o7, o8, o9⟩ := o5 g hg
  exact ⟨dRch_in po.2.2.2.2.1 o6 o7, dThr_in po.2.2.2.2.1 (by omega), dPst_in⟩
def dvB (A B : Nat → Int) (g : Nat) : Nat → Int := fun k => if k = 0 then bP A B g else if k = 1 then (bT A B g : Int) else B k
def syB (A B : Nat → Int) (g : Nat) (n : Int) : Nat → Int := fun k => if k = 0 then n else if k = 1 then (bT A B g : Int) else B k
def wpB (B : Nat → Int) (t : Nat) : Nat → Int := fun k => if k = 1 then (without (B 1).toNat (2 ^ t) : Int) else B k
def boB (B : Nat → Int) (g : Nat) (n : Int) : Nat → Int := fun k => if k = 8 + g then n else B k
theorem dvB_ok {A B : Nat → Int} (po : poolOk A) (so : stOk B) {g : Nat} (hg : g < 6) : stOk (dvB A B g) := by
  have b := b_in po so hg
  refine ⟨b.2.2.1, b.2.2.2, ?_, ?_, fun g' hg' => ?_⟩
  · show (0 : Int) ≤ (bT A B g : Int); omega
  · show (bT A B g : Int) < 64; omega
  · unfold dvB
    rw [if_neg (by omega), if_neg (by omega), if_neg (by omega), if_neg (by omega)]
    exact so.2.2.2.2 g' hg'
theorem syB_ok {A B : Nat → Int} (po : poolOk A) (so : stOk B) {g : Nat} (hg : g < 6) {n : Int} (h0 : 0 ≤ n) (h9 : n ≤ 99) : stOk (syB A B g n) := by
  have b := b_in po so hg
  refine ⟨h0, h9, ?_, ?_, fun g' hg' => ?_⟩
  · show (0 : Int) ≤ (bT A B g : Int); omega
  · show (bT A B g : Int) < 64; omega
  · unfold syB
    rw [if_neg (by omega), if_neg (by omega), if_neg (by omega), if_neg (by omega)]
    exact so.2.2.2.2 g' hg'
theorem without_le (a b : Nat) : without a b ≤ a := Nat.and_le_left
theorem wpB_ok {B : Nat → Int} (so : stOk B) {t : Nat} : stOk (wpB B t) := by
  obtain ⟨o1, o2, o3, o4, o5⟩ := so
  have := without_le (B 1).toNat (2 ^ t)
  refine ⟨o1, o2, ?_, ?_, fun g' hg' => ?_⟩
  · show (0 : Int) ≤ (without (B 1).toNat (2 ^ t) : Int); omega
  · show (without (B 1).toNat (2 ^ t) : Int) < 64; omega
  · unfold wpB
    rw [if_neg (by omega), if_neg (by omega)]
    exact o5 g' hg'
theorem boB_ok {B : Nat → Int} (so : stOk B) {g : Nat} {n : Int} (h0 : 0 ≤ n) (h9 : n ≤ 9) : stOk (boB B g n) := by
  obtain ⟨o1, o2, o3, o4, o5⟩ := so
  refine ⟨?_, ?_, ?_, ?_, fun g' hg' => ?_⟩
  · unfold boB; rw [if_neg (by omega)]; exact o1
  · unfold boB; rw [if_neg (by omega)]; exact o2
  · unfold boB; rw [if_neg (by omega)]; exact o3
  · unfold boB; rw [if_neg (by omega)]; exact o4
  · have := o5 g' hg'
    unfold boB
    rw [if_neg (by omega)]
    refine ⟨this.1, this.2.1, ?_, ?_⟩
    · split <;> omega
    · split <;> omega
/-- all the rest, another stand and another past -/
def wA (σ : AS) (A : Nat → Int) : AS := (A, σ.2)
theorem sA_w (σ : AS) (A : Nat → Int) : sA (wA σ A) = A := rfl
theorem wA_w (σ : AS) (A A' : Nat → Int) : wA (wA σ A) A' = wA σ A' := rfl
theorem wA_s (σ : AS) : wA σ (sA σ) = σ := rfl
theorem WF.w {σ : AS} (w : WF σ) {A' : Nat → Int} (s : SameP (sA σ) A') (im : ∀ k, 1089 ≤ k → A' k = sA σ k) (so : stOk (stA A')) (n0 : 0 ≤ A' 47) (n1 : A' 47 ≤ 10) (re : ∀ i, i < (A' 47).toNat → stOk (reA A' i)) : WF (wA σ A') := by
  obtain ⟨w1, w2, w3, w4, w5, w6, w7⟩ := w
  refine ⟨poolOk_same w1 s, so, n0, n1, re, fun i hi => ?_, w7⟩
  have e : imA A' i = imA (sA σ) i := by
    funext k
    exact im _ (by omega)
  obtain ⟨v1, v2⟩ := w6 i hi
  refine ⟨v1, fun h1 => ?_⟩
  have := v2 h1
  rw [sA_w, e]
  exact this
/-- what the past becomes by one more stand -/
def ntA (A W : Nat → Int) : Nat → Int := fun k => if k = 47 then (if A 47 = 10 then 10 else A 47 + 1) else if 48 ≤ k ∧ k < 188 then (if A 47 = 10 then (if k < 174 then A (k + 14) else W (k - 174)) else (if 48 + 14 * (A 47).toNat ≤ k ∧ k < 62 + 14 * (A 47).toNat then W (k - 48 - 14 * (A 47).toNat) else A k)) else A k
theorem ntA_same (A W : Nat → Int) : SameP A (ntA A W) := fun k hk => by
  unfold ntA
  rw [if_neg (by omega), if_neg (by omega)]
theorem ntA_hi (A W : Nat → Int) {k : Nat} (hk : k < 47 ∨ 188 ≤ k) : ntA A W k = A k := by
  unfold ntA
  rw [if_neg (by omega), if_neg (by omega)]
theorem ntA_47 (A W : Nat → Int) : ntA A W 47 = (if A 47 = 10 then 10 else A 47 + 1) := rfl
theorem ntA_re {A W : Nat → Int} (h0 : 0 ≤ A 47) (h1 : A 47 ≤ 10) {i : Nat} {k : Nat} (hk : k < 14) (hi : i < (ntA A W 47).toNat) : reA (ntA A W) i k = if i + 1 = (ntA A W 47).toNat then W k else if A 47 = 10 then reA A (i + 1) k else reA A i k := by
  rw [ntA_47] at hi ⊢
  unfold reA
  have e : 48 + 14 * i + k < 188 := by split at hi <;> omega
  unfold ntA
  rw [if_neg (by omega), if_pos (by omega)]
  by_cases h10 : A 47 = 10
  · rw [if_pos h10] at hi ⊢
    rw [if_pos h10, if_pos h10]
    by_cases h9 : i + 1 = 10
    · rw [if_neg (by omega), if_pos (by omega)]
      exact congrArg _ (by omega)
    · rw [if_pos (by omega), if_neg (by omega)]
      exact congrArg _ (by omega)
  · rw [if_neg h10] at hi ⊢
    rw [if_neg h10, if_neg h10]
    by_cases h9 : i = (A 47).toNat
    · rw [if_pos (by omega), if_pos (by omega)]
      exact congrArg _ (by omega)
    · rw [if_neg (by omega), if_neg (by omega)]
theorem WF.nt {σ : AS} (w : WF σ) {B : Nat → Int} (so : stOk B) : WF (wA σ (ntA (putS (sA σ) B) (stA (sA σ)))) := by
  have n0 := w.2.2.1
  have n1 := w.2.2.2.1
  have e47 : putS (sA σ) B 47 = sA σ 47 := putS_47 _ _ (by omega)
  refine w.w ?_ ?_ ?_ ?_ ?_ ?_
  · intro k hk
    rw [ntA_hi _ _ (by omega)]
    exact putS_same _ _ k hk
  · intro k hk
    rw [ntA_hi _ _ (by omega), putS_47 _ _ (by omega)]
  · refine so.of (fun k hk => ?_)
    show ntA _ _ (33 + k) = B k
    rw [ntA_hi _ _ (by omega)]
    exact putS_at _ _ hk
  · rw [ntA_47, e47]; split <;> omega
  · rw [ntA_47, e47]; split <;> omega
  · intro i hi
    have hr : ∀ j, j < (sA σ 47).toNat → stOk (reA (putS (sA σ) B) j) := fun j hj => (w.2.2.2.2.1 j hj).of (fun k hk => putS_47 _ _ (by omega))
    have h2 := fun k hk => ntA_re (A := putS (sA σ) B) (W := stA (sA σ)) (i := i) (k := k) (by rw [e47]; exact n0) (by rw [e47]; exact n1) hk hi
    have hN := ntA_47 (putS (sA σ) B) (stA (sA σ))
    rw [e47] at h2 hN
    by_cases hl : i + 1 = (ntA (putS (sA σ) B) (stA (sA σ)) 47).toNat
    · exact w.2.1.of (fun k hk => by rw [h2 k hk, if_pos hl])
    · by_cases h10 : sA σ 47 = 10
      · rw [if_pos h10] at hN
        exact (hr (i + 1) (by omega)).of (fun k hk => by rw [h2 k hk, if_neg hl, if_pos h10])
      · rw [if_neg h10] at hN
        exact (hr i (by omega)).of (fun k hk => by rw [h2 k hk, if_neg hl, if_neg h10])
/-! the class's stands and past -/
theorem Fp.cp {P : Nat → Nat → Prop} {h h' : Hp} (f : Fp P h h') {t : Nat} (s sp dp n : Nat) (ha : ∀ j, dp ≤ j → j < dp + n → P t j) : Fp P h (cpI h' s sp t dp n) := by
  refine f.trans ⟨rfl, rfl, fun _ => rfl, fun _ _ => rfl, fun b j hb => ⟨?_, rfl⟩⟩
  rw [hI_cp, if_neg (fun q => hb (by rw [q.1]; exact ha j q.2.1 q.2.2))]
def StSh (h : Hp) (t : Nat) : Prop := 200 ≤ t ∧ hK h t = (8, 0) ∧ hR h t 0 = t + 1 ∧ hR h t 1 = t + 2 ∧ hK h (t + 1) = (21, 6) ∧ hK h (t + 2) = (21, 6)
theorem StSh.fr {P : Nat → Nat → Prop} {h h' : Hp} (f : Fp P h h') {t : Nat} (x : StSh h t) : StSh h' t := by
  unfold StSh
  simp only [f.K, f.R]
  exact x
def stP (t a _k : Nat) : Prop := t ≤ a ∧ a ≤ t + 2
theorem StIs.fp {P : Nat → Nat → Prop} {h h' : Hp} (f : Fp P h h') {s : Nat} {B : Nat → Int} (x : StIs h s B) (hs : ∀ a k, s ≤ a → a ≤ s + 2 → ¬ P a k) : StIs h' s B := by
  refine ⟨by rw [f.I (hs _ _ (by omega) (by omega))]; exact x.1, by rw [f.I (hs _ _ (by omega) (by omega))]; exact x.2.1, fun g hg => ?_⟩
  rw [f.I (hs _ _ (by omega) (by omega)), f.I (hs _ _ (by omega) (by omega))]; exact x.2.2 g hg
theorem S_become {d : Nat} {Q : Option PV → Hp → Prop} {h : Hp} {t s : Nat} {B : Nat → Int} (x : StSh h t) (y : StSh h s) (hd : t + 2 < s ∨ s + 2 < t) (b : StIs h s B)
    (k : ∀ h', Fp (stP t) h h' → StIs h' t B → Q none h') : WP d mX8_become 0 [some (.inr (.inr t)), some (.inr (.inr s))] [] h Q := by
  obtain ⟨x0, x1, x2, x3, x4, x5⟩ := x
  obtain ⟨y0, y1, y2, y3, y4, y5⟩ := y
  have z1 : 200 ≤ t + 1 := by omega
  have z2 : 200 ≤ t + 2 := by omega
  have z3 : 200 ≤ s + 1 := by omega
  have z4 : 200 ≤ s + 2 := by omega
  have ne : ¬ (s = t) := by omega
  simp only [rX8_become_0, rX8_become_1, rX8_become_2, rX8_become_5, rX8_become_8, rX8_become_9, rX8_become_10, rX8_become_13, rX8_become_16, rX8_become_17, rX8_become_20, rX8_become_21, rX8_become_22, rX8_become_25, rX8_become_26, rX8_become_28, rX8_become_31, rX8_become_32, rX8_become_35, rX8_become_36, rX8_become_37, rX8_become_40, rX8_become_41, rX8_become_43, rX8_become_46, hN_wI, hN_wJ, hN_wR, hS_wI, hS_wJ, hS_wR, hK_wI, hK_wJ, hK_wR, hI_wI, hI_wJ, hI_wR, hJ_wI, hJ_wJ, hJ_wR, hR_wI, hR_wJ, hR_wR, hN_nw, hS_nw, hK_nw, hI_nw, hJ_nw, hR_nw, psh_some, psh_none, Int.toNat_natCast, Int.natCast_nonneg, true_and, and_true, and_self, if_true, if_false, or_true, true_or, or_false, false_or, ne_eq, not_true_eq_false, not_false_eq_true, Nat.reduceLeDiff, Nat.reduceEqDiff, Nat.reduceLT, Nat.reduceAdd, Nat.reduceMul, Nat.reduceSub, Int.reduceLT, Int.reduceLE, Int.reduceEq, Int.reduceToNat, Int.reduceAdd, Int.reduceSub, Int.reduceMul, Int.reduceNeg, Int.cast_ofNat_Int, false_and, and_false, hN_cp, hS_cp, hK_cp, hI_cp, hJ_cp, hR_cp, x0, x1, x2, x3, x4, x5, y0, y1, y2, y3, y4, y5, z1, z2, z3, z4, ne]
  have f : Fp (stP t) h (cpI (cpI (wI (wI h t 2 (hI h s 2)) t 3 (hI h s 3)) (s + 1) 0 (t + 1) 0 6) (s + 2) 0 (t + 2) 0 6) :=
    ((((Fp.refl (stP t) h).wI (by unfold stP; omega) _).wI (by unfold stP; omega) _).cp _ _ _ _ (fun j _ _ => by unfold stP; omega)).cp _ _ _ _ (fun j _ _ => by unfold stP; omega)
  refine k _ f ⟨?_, ?_, fun g hg => ⟨?_, ?_⟩⟩
  · rw [hI_cp, if_neg (by omega), hI_cp, if_neg (by omega), hI_wI, if_neg (by omega), hI_wI, if_pos ⟨rfl, rfl⟩]; exact b.1
  · rw [hI_cp, if_neg (by omega), hI_cp, if_neg (by omega), hI_wI, if_pos ⟨rfl, rfl⟩]; exact b.2.1
  · rw [hI_cp, if_neg (by omega), hI_cp, if_pos (by omega), hI_wI, if_neg (by omega), hI_wI, if_neg (by omega), show 0 + (g - 0) = g by omega]
    exact (b.2.2 g hg).1
  · rw [hI_cp, if_pos (by omega), hI_cp, if_neg (by omega), hI_wI, if_neg (by omega), hI_wI, if_neg (by omega), show 0 + (g - 0) = g by omega]
    exact (b.2.2 g hg).2
theorem Cs_ringS {h : Hp} (m : CsOk h) {i : Nat} (hi : i < 11) : StSh h (222 + 3 * i) := by
  obtain ⟨a1, a2, a3, a4, a5, a6⟩ := Cs_ring m i hi
  exact ⟨by omega, a2, by rw [a3]; omega, by rw [a4]; omega, by rw [show 222 + 3 * i + 1 = 223 + 3 * i by omega]; exact a5, by rw [show 222 + 3 * i + 2 = 224 + 3 * i by omega]; exact a6⟩
theorem Cs_nowS {h : Hp} (m : CsOk h) : StSh h 214 := ⟨by omega, Cs_K214 m, Cs_R214_0 m, Cs_R214_1 m, Cs_K215 m, Cs_K216 m⟩
theorem Cs_triS {h : Hp} (m : CsOk h) : StSh h 217 := ⟨by omega, Cs_K217 m, Cs_R217_0 m, Cs_R217_1 m, Cs_K218 m, Cs_K219 m⟩
theorem Cs_imgS {h : Hp} (m : CsOk h) {i : Nat} (hi : i < 2) : StSh h (273 + 11 * i) := by
  have : i = 0 ∨ i = 1 := by omega
  rcases this with rfl | rfl
  · exact ⟨by omega, Cs_K273 m, Cs_R273_0 m, Cs_R273_1 m, Cs_K274 m, Cs_K275 m⟩
  · exact ⟨by omega, Cs_K277 m, Cs_R277_0 m, Cs_R277_1 m, Cs_K278 m, Cs_K279 m⟩
/-- the past, and a stand at the ring's open place -/
def Marked (h : Hp) (A W : Nat → Int) : Prop := ∃ top : Nat, top < 11 ∧ hI h 220 1 = (top : Int) ∧ hI h 220 2 = A 47 ∧ (∀ i, i < (A 47).toNat → StIs h (222 + 3 * ((top + 11 - (A 47).toNat + i) % 11)) (reA A i)) ∧ StIs h (222 + 3 * top) W
theorem Marked.past {h : Hp} {A W : Nat → Int} (x : Marked h A W) : PastIs h A := by
  obtain ⟨top, t1, t2, t3, t4, t5⟩ := x
  exact ⟨top, t1, t2, t3, t4⟩
def rgP (a _k : Nat) : Prop := 222 ≤ a ∧ a ≤ 254
theorem S_mark {d : Nat} {Q : Option PV → Hp → Prop} {h : Hp} {A W : Nat → Int} (m : CsOk h) (x : PastIs h A) (n0 : 0 ≤ A 47) (n1 : A 47 ≤ 10) (s : StIs h 214 W)
    (k : ∀ h', Fp rgP h h' → Marked h' A W → Q none h') : WP (d + 1) mX4_mark 0 [some (.inr (.inr 220)), some (.inr (.inr 214))] [] h Q := by
  obtain ⟨top, t1, t2, t3, t4⟩ := x
  obtain ⟨r1, r2, r3, r4, r5, r6⟩ := Cs_ring m top t1
  have tl : (top : Int) < 11 := by omega
  simp only [rX4_mark_0, rX4_mark_1, rX4_mark_4, rX4_mark_5, rX4_mark_8, Cs_K200 m, Cs_R200_0 m, Cs_R200_1 m, Cs_R200_2 m, Cs_R200_3 m, Cs_R200_4 m, Cs_R200_5 m, Cs_R200_6 m, Cs_K201 m, Cs_R201_0 m, Cs_R201_1 m, Cs_K202 m, Cs_K203 m, Cs_K211 m, Cs_R211_0 m, Cs_R211_1 m, Cs_K212 m, Cs_K213 m, Cs_K214 m, Cs_R214_0 m, Cs_R214_1 m, Cs_K215 m, Cs_K216 m, Cs_K217 m, Cs_R217_0 m, Cs_R217_1 m, Cs_K218 m, Cs_K219 m, Cs_K220 m, Cs_R220_0 m, Cs_K221 m, Cs_K262 m, Cs_K271 m, Cs_R271_0 m, Cs_R271_1 m, Cs_K272 m, Cs_K276 m, Cs_R272_0 m, Cs_R276_0 m, Cs_K273 m, Cs_R273_0 m, Cs_R273_1 m, Cs_K274 m, Cs_K275 m, Cs_K277 m, Cs_R277_0 m, Cs_R277_1 m, Cs_K278 m, Cs_K279 m, Cs_R262_0 m, Cs_K263 m, Cs_R263_0 m, Cs_K264 m, Cs_R262_1 m, Cs_K265 m, Cs_R265_0 m, Cs_K266 m, Cs_R262_2 m, Cs_K267 m, Cs_R267_0 m, Cs_K268 m, Cs_R262_3 m, Cs_K269 m, Cs_R269_0 m, Cs_K270 m, Int.toNat_natCast, Int.natCast_nonneg, true_and, and_true, and_self, if_true, if_false, or_true, true_or, or_false, false_or, ne_eq, not_true_eq_false, not_false_eq_true, Nat.reduceLeDiff, Nat.reduceEqDiff, Nat.reduceLT, Nat.reduceAdd, Nat.reduceMul, Nat.reduceSub, Int.reduceLT, Int.reduceLE, Int.reduceEq, Int.reduceToNat, Int.reduceAdd, Int.reduceSub, Int.reduceMul, Int.reduceNeg, Int.cast_ofNat_Int, false_and, and_false, t2, tl, r1]
  simp only [rX4_mark_9, rX4_mark_10, r2, Int.toNat_natCast, Int.natCast_nonneg, true_and, and_true, and_self, if_true, if_false, or_true, true_or, or_false, false_or, ne_eq, not_true_eq_false, not_false_eq_true, Nat.reduceLeDiff, Nat.reduceEqDiff, Nat.reduceLT, Nat.reduceAdd, Nat.reduceMul, Nat.reduceSub, Int.reduceLT, Int.reduceLE, Int.reduceEq, Int.reduceToNat, Int.reduceAdd, Int.reduceSub, Int.reduceMul, Int.reduceNeg, Int.cast_ofNat_Int, false_and, and_false]
  refine S_become (Cs_ringS m t1) (Cs_nowS m) (by omega) s ?_
  intro h' f b
  simp only [psh_none, rX4_mark_13]
  have fr := f.mono (P' := rgP) (fun a k q => by unfold stP at q; unfold rgP; omega)
  refine k h' fr ⟨top, t1, by rw [fr.I (by unfold rgP; omega)]; exact t2, by rw [fr.I (by unfold rgP; omega)]; exact t3, fun i hi => ?_, b⟩
  exact (t4 i hi).fp f (fun a j h1 h2 => by unfold stP; omega)
theorem S_keep {d : Nat} {Q : Option PV → Hp → Prop} {h : Hp} {A W : Nat → Int} (m : CsOk h) (x : Marked h A W) (n0 : 0 ≤ A 47) (n1 : A 47 ≤ 10)
    (k : ∀ h', Fp (fun a _ => a = 220) h h' → PastIs h' (ntA A W) → Q none h') : WP (d + 1) mX4_keep 0 [some (.inr (.inr 220))] [] h Q := by
  obtain ⟨top, t1, t2, t3, t4, t5⟩ := x
  have e1 : w32 ((top : Int) + 1) = ((top + 1 : Nat) : Int) := w32_s (by omega)
  have e2 : Int.tmod ((top + 1 : Nat) : Int) 11 = (((top + 1) % 11 : Nat) : Int) := by
    rw [Int.tmod_eq_emod_of_nonneg (by omega)]; omega
  have e3 : w32 (A 47 + 1) = A 47 + 1 := w32_i (by omega) (by omega)
  simp only [rX4_keep_0, rX4_keep_1, rX4_keep_2, rX4_keep_5, rX4_keep_6, rX4_keep_7, rX4_keep_9, rX4_keep_10, rX4_keep_13, rX4_keep_14, rX4_keep_15, rX4_keep_18, rX4_keep_19, rX4_keep_20, rX4_keep_22, rX4_keep_25, rX4_keep_28, Cs_K200 m, Cs_R200_0 m, Cs_R200_1 m, Cs_R200_2 m, Cs_R200_3 m, Cs_R200_4 m, Cs_R200_5 m, Cs_R200_6 m, Cs_K201 m, Cs_R201_0 m, Cs_R201_1 m, Cs_K202 m, Cs_K203 m, Cs_K211 m, Cs_R211_0 m, Cs_R211_1 m, Cs_K212 m, Cs_K213 m, Cs_K214 m, Cs_R214_0 m, Cs_R214_1 m, Cs_K215 m, Cs_K216 m, Cs_K217 m, Cs_R217_0 m, Cs_R217_1 m, Cs_K218 m, Cs_K219 m, Cs_K220 m, Cs_R220_0 m, Cs_K221 m, Cs_K262 m, Cs_K271 m, Cs_R271_0 m, Cs_R271_1 m, Cs_K272 m, Cs_K276 m, Cs_R272_0 m, Cs_R276_0 m, Cs_K273 m, Cs_R273_0 m, Cs_R273_1 m, Cs_K274 m, Cs_K275 m, Cs_K277 m, Cs_R277_0 m, Cs_R277_1 m, Cs_K278 m, Cs_K279 m, Cs_R262_0 m, Cs_K263 m, Cs_R263_0 m, Cs_K264 m, Cs_R262_1 m, Cs_K265 m, Cs_R265_0 m, Cs_K266 m, Cs_R262_2 m, Cs_K267 m, Cs_R267_0 m, Cs_K268 m, Cs_R262_3 m, Cs_K269 m, Cs_R269_0 m, Cs_K270 m, hN_wI, hN_wJ, hN_wR, hS_wI, hS_wJ, hS_wR, hK_wI, hK_wJ, hK_wR, hI_wI, hI_wJ, hI_wR, hJ_wI, hJ_wJ, hJ_wR, hR_wI, hR_wJ, hR_wR, hN_nw, hS_nw, hK_nw, hI_nw, hJ_nw, hR_nw, psh_some, psh_none, Int.toNat_natCast, Int.natCast_nonneg, true_and, and_true, and_self, if_true, if_false, or_true, true_or, or_false, false_or, ne_eq, not_true_eq_false, not_false_eq_true, Nat.reduceLeDiff, Nat.reduceEqDiff, Nat.reduceLT, Nat.reduceAdd, Nat.reduceMul, Nat.reduceSub, Int.reduceLT, Int.reduceLE, Int.reduceEq, Int.reduceToNat, Int.reduceAdd, Int.reduceSub, Int.reduceMul, Int.reduceNeg, Int.cast_ofNat_Int, false_and, and_false, t2, t3, e1, e2, e3, S_min]
  have f : Fp (fun a _ => a = 220) h (wI (wI h 220 1 (((top + 1) % 11 : Nat) : Int)) 220 2 (if 10 < A 47 + 1 then 10 else A 47 + 1)) := ((Fp.refl (fun a _ => a = 220) h).wI rfl _).wI rfl _
  refine k _ f ?_
  refine ⟨(top + 1) % 11, Nat.mod_lt _ (by omega), by simp only [hN_wI, hN_wJ, hN_wR, hS_wI, hS_wJ, hS_wR, hK_wI, hK_wJ, hK_wR, hI_wI, hI_wJ, hI_wR, hJ_wI, hJ_wJ, hJ_wR, hR_wI, hR_wJ, hR_wR, hN_nw, hS_nw, hK_nw, hI_nw, hJ_nw, hR_nw, psh_some, psh_none, Int.toNat_natCast, Int.natCast_nonneg, true_and, and_true, and_self, if_true, if_false, or_true, true_or, or_false, false_or, ne_eq, not_true_eq_false, not_false_eq_true, Nat.reduceLeDiff, Nat.reduceEqDiff, Nat.reduceLT, Nat.reduceAdd, Nat.reduceMul, Nat.reduceSub, Int.reduceLT, Int.reduceLE, Int.reduceEq, Int.reduceToNat, Int.reduceAdd, Int.reduceSub, Int.reduceMul, Int.reduceNeg, Int.cast_ofNat_Int, false_and, and_false], ?_, fun i hi => ?_⟩
  · simp only [hN_wI, hN_wJ, hN_wR, hS_wI, hS_wJ, hS_wR, hK_wI, hK_wJ, hK_wR, hI_wI, hI_wJ, hI_wR, hJ_wI, hJ_wJ, hJ_wR, hR_wI, hR_wJ, hR_wR, hN_nw, hS_nw, hK_nw, hI_nw, hJ_nw, hR_nw, psh_some, psh_none, Int.toNat_natCast, Int.natCast_nonneg, true_and, and_true, and_self, if_true, if_false, or_true, true_or, or_false, false_or, ne_eq, not_true_eq_false, not_false_eq_true, Nat.reduceLeDiff, Nat.reduceEqDiff, Nat.reduceLT, Nat.reduceAdd, Nat.reduceMul, Nat.reduceSub, Int.reduceLT, Int.reduceLE, Int.reduceEq, Int.reduceToNat, Int.reduceAdd, Int.reduceSub, Int.reduceMul, Int.reduceNeg, Int.cast_ofNat_Int, false_and, and_false]
    rw [ntA_47]
    by_cases h10 : A 47 = 10
    · rw [if_pos h10, if_pos (by omega)]
    · rw [if_neg h10, if_neg (by omega)]
  · have h2 := fun k hk => ntA_re (A := A) (W := W) (i := i) (k := k) n0 n1 hk hi
    have hN := ntA_47 A W
    have g : ∀ j B, j < 11 → StIs h (222 + 3 * j) B → StIs (wI (wI h 220 1 (((top + 1) % 11 : Nat) : Int)) 220 2 (if 10 < A 47 + 1 then 10 else A 47 + 1)) (222 + 3 * j) B := fun j B hj b => b.fp f (fun a q h1 h2 => by omega)
    by_cases hl : i + 1 = (ntA A W 47).toNat
    · have ej : ((top + 1) % 11 + 11 - (ntA A W 47).toNat + i) % 11 = top := by omega
      rw [ej]
      exact (g top W t1 t5).of (fun k hk => by rw [h2 k hk, if_pos hl])
    · by_cases h10 : A 47 = 10
      · rw [if_pos h10] at hN
        have ej : ((top + 1) % 11 + 11 - (ntA A W 47).toNat + i) % 11 = (top + 11 - (A 47).toNat + (i + 1)) % 11 := by omega
        rw [ej]
        exact (g _ _ (Nat.mod_lt _ (by omega)) (t4 (i + 1) (by omega))).of (fun k hk => by rw [h2 k hk, if_neg hl, if_pos h10])
      · rw [if_neg h10] at hN
        have ej : ((top + 1) % 11 + 11 - (ntA A W 47).toNat + i) % 11 = (top + 11 - (A 47).toNat + i) % 11 := by omega
        rw [ej]
        exact (g _ _ (Nat.mod_lt _ (by omega)) (t4 i (by omega))).of (fun k hk => by rw [h2 k hk, if_neg hl, if_neg h10])
/-- where deeds may write in the class -/
def dP (a _k : Nat) : Prop := 211 ≤ a ∧ a ≤ 254
theorem Cfr_d {h h' : Hp} (f : Fp dP h h') : Cfr h h' := Cfr.of f (fun a k q => by unfold dP at q; unfold cfP; omega)
theorem CRep.deed {h h' : Hp} {σ : AS} (f : Fp dP h h') (x : CRep h σ) (w : WF σ) {A' : Nat → Int} (sp : SameP (sA σ) A') (im : ∀ k, 1089 ≤ k → A' k = sA σ k) (s : StIs h' 214 (stA A')) (p : PastIs h' A') : CRep h' (wA σ A') := by
  have fa := f.fa (S := fun a => 211 ≤ a ∧ a ≤ 254) (fun a k q => q)
  refine ⟨?_, x.2.fa fa x.1.2.1 (fun a ha => by omega)⟩
  obtain ⟨⟨m, n, ⟨p1, p2⟩, s1, pa, tr, im', rd⟩, b, _⟩ := x
  have pc : ∀ q, PoolIn h q → ∀ a, PlCell h q a → a < 200 + hN h ∧ ¬ (211 ≤ a ∧ a ≤ 254) := fun q hq a ha => by
    obtain ⟨y1, y2, y3⟩ := hq.2 a ha
    exact ⟨y1, by omega⟩
  have e7 : hR h' 200 7 = hR h 200 7 := f.R _ _
  refine ⟨m.fr f, by rw [f.N]; exact n, ?_, s, p, ?_, ?_, ?_⟩
  · rw [e7, sA_w]
    exact ⟨((p1.fa fa (pc _ p2)).1).same w.1 sp, p2.fa fa n (by omega) (pc _ p2 _ (Or.inl ⟨by omega, by omega⟩)).2⟩
  · exact tr.fa fa n (fun a h1 h2 => by omega)
  · intro i hi
    have e1 : hR h' (272 + 11 * i) 1 = hR h (272 + 11 * i) 1 := f.R _ _
    have e2 : imA A' i = imA (sA σ) i := by
      funext k
      exact im _ (by omega)
    obtain ⟨y1, y2⟩ := im' i hi
    refine ⟨by rw [f.I (by unfold dP; omega)]; exact y1, fun h1 => ?_⟩
    obtain ⟨z1, z2, z3⟩ := y2 h1
    rw [e1, sA_w, e2]
    exact ⟨(z1.fa fa (pc _ z2)).1, z2.fa fa n (by omega) (pc _ z2 _ (Or.inl ⟨by omega, by omega⟩)).2, z3.fa fa (by omega) (by omega) (by omega) (by omega)⟩
  · exact rd.fa fa n (by omega) (by omega)
