/-! reading without a heap: lines -/
abbrev LN : Type := (Nat × (Nat → Int)) ⊕ (Int × Nat)
def tsl (r : LN) : TS := match r with
  | .inl x => .inl x.1
  | .inr e => .inr e
def upA (A : Nat → Int) (i : Nat) (v : Int) : Nat → Int := fun k => if k = i then v else A k
def mvn (s : TS → TS) (r : LN) : LN := match r with
  | .inl x => (match s (.inl x.1) with
    | .inl q => .inl (q, x.2)
    | .inr e => .inr e)
  | .inr e => .inr e
def mpl (f : (Nat → Int) → (Nat → Int)) (r : LN) : LN := match r with
  | .inl x => .inl (x.1, f x.2)
  | .inr e => .inr e
def tkl (X : TX) (r : LN) : Int := tks X (tsl r)
def stl (X : TX) (m : Int) (f : Int → (Nat → Int) → (Nat → Int)) (r : LN) : LN := mpl (f (nms X (tsl r))) (mvn (tkN X m) r)
theorem tsl_mvn {s : TS → TS} (hs : ∀ e, s (.inr e) = .inr e) (r : LN) : tsl (mvn s r) = s (tsl r) := by
  cases r with
  | inl x =>
    show tsl (match s (.inl x.1) with | .inl q => .inl (q, x.2) | .inr e => .inr e) = s (.inl x.1)
    cases s (.inl x.1) <;> rfl
  | inr e => exact (hs e).symm
theorem tsl_mpl (f : (Nat → Int) → (Nat → Int)) (r : LN) : tsl (mpl f r) = tsl r := by cases r <;> rfl
theorem nxs_b (X : TX) (e : Int × Nat) : nxs X (.inr e) = .inr e := rfl
theorem fls_b (X : TX) (z : Int) (e : Int × Nat) : fls X z (.inr e) = .inr e := rfl
theorem eats_b (X : TX) (k : Int) (e : Int × Nat) : eats X k (.inr e) = .inr e := by unfold eats; split <;> rfl
theorem tkN_b (X : TX) (m : Int) (e : Int × Nat) : tkN X m (.inr e) = .inr e := by
  unfold tkN
  split
  · split <;> rfl
  · rfl
def isPart (k : Int) : Bool := k == 3 || k == 4 || k == 5
def gPart (X : TX) (t : Nat) (r : LN) : LN :=
  if tkl X r = 3 then stl X 10 (fun v A => upA A (15 + t) v) (mvn (nxs X) r)
  else if tkl X r = 4 then stl X ((t : Int) - 1) (fun v A => upA A (21 + t) (ior (A (21 + t)) (ishl 1 v))) (mvn (nxs X) r)
  else mpl (fun A => upA A 34 (ior (A 34) (ishl 1 (t : Int)))) (mvn (nxs X) r)
def pParts (X : TX) (t : Nat) : Nat → LN → LN
  | 0, r => r
  | m + 1, r => if isPart (tkl X r) then pParts X t m (gPart X t r) else r
def pThing (X : TX) (r : LN) : LN := match r with
  | .inl x => if x.2 1 = 6 then mvn (fls X 4) r else mpl (fun A => upA A 1 (w32 (A 1 + 1))) (pParts X (x.2 1).toNat 900 (stl X 99 (fun v A => upA A (9 + (x.2 1).toNat) v) (mvn (eats X 2) (mvn (nxs X) r))))
  | .inr e => .inr e
def isFlag (k : Int) : Bool := k == 8 || k == 9
def gFlag (X : TX) (g : Nat) (r : LN) : LN := if tkl X r = 8 then stl X 9 (fun v A => upA A (41 + g) v) (mvn (nxs X) r) else stl X 9 (fun v A => upA A (27 + g) v) (mvn (nxs X) r)
def pFlags (X : TX) (g : Nat) : Nat → LN → LN
  | 0, r => r
  | m + 1, r => if isFlag (tkl X r) then pFlags X g m (gFlag X g r) else r
def pGoer (X : TX) (r : LN) : LN := match r with
  | .inl x => if x.2 2 = 6 then mvn (fls X 4) r else mpl (fun A => upA A 2 (w32 (A 2 + 1))) (pFlags X (x.2 2).toNat 900 (mpl (fun A => upA A (27 + (x.2 2).toNat) 1) (stl X 99 (fun v A => upA A (35 + (x.2 2).toNat) v) (mvn (eats X 7) (mvn (nxs X) r)))))
  | .inr e => .inr e
def lawPut (A : Nat → Int) (law : Nat) (cs : List Int) : Nat → Int := fun k => if k = 3 + law then 1 else if k = 5 + law then A 188 else if k = 7 + law then (cs.length : Int) else if k = 188 then A 188 + (cs.length : Int) else if 189 + (A 188).toNat ≤ k ∧ k < 189 + (A 188).toNat + cs.length then cs.getD (k - (189 + (A 188).toNat)) 0 else A k
def lawEnd (X : TX) (law : Nat) (A : Nat → Int) (r : PS) : LN := match r with
  | .inl y => .inl (y.1, lawPut A law y.2)
  | .inr e => .inr e
def pLaw (X : TX) (law : Nat) (r : LN) : LN := match mvn (eats X 31) (mvn (nxs X) r) with
  | .inl x => lawEnd X law x.2 ((lvl X law 6).1 (.inl (x.1, [])))
  | .inr e => .inr e
def pRead (X : TX) (r : LN) : LN := if tkl X r = 1 then pThing X r else if tkl X r = 6 then pGoer X r else if tkl X r = 10 then pLaw X 0 r else if tkl X r = 11 then pLaw X 1 r else mvn (fls X 2) r
def pEnd (X : TX) (r : LN) : LN := mpl (fun A => upA A 0 (w32 (A 0 + 1))) (mvn (eats X 30) r)
def pLines (X : TX) : Nat → LN → LN
  | 0, r => r
  | m + 1, r => if tkl X r = 25 ∨ tkl X r = -1 then r else pLines X m (pEnd X (pRead X r))
def pPool (X : TX) : LN := pLines X 900 (pEnd X (stl X 99 (fun v A => upA A 33 v) (mvn (eats X 0) (.inl (0, fun _ => 0)))))
/-! what is read is a pool -/
def bnd (i : Nat) (v : Int) : Prop := (1 ≤ i → i ≤ 2 → 0 ≤ v ∧ v ≤ 6) ∧ (9 ≤ i → i < 15 → 0 ≤ v ∧ v ≤ 99) ∧ (21 ≤ i → i < 27 → 0 ≤ v ∧ v < 64) ∧ (27 ≤ i → i < 33 → 0 ≤ v ∧ v ≤ 9) ∧ (i = 33 → 0 ≤ v ∧ v ≤ 99) ∧ (i = 34 → 0 ≤ v ∧ v < 64) ∧ (35 ≤ i → i < 41 → 0 ≤ v ∧ v ≤ 99) ∧ (41 ≤ i → i < 47 → 0 ≤ v ∧ v ≤ 9) ∧ (i = 47 → v = 0)
def AL (A : Nat → Int) : Prop := ∀ l, l < 2 → (A (3 + l) = 0 ∨ (A (3 + l) = 1 ∧ 0 ≤ A (5 + l) ∧ 1 ≤ A (7 + l) ∧ A (5 + l) + A (7 + l) ≤ A 188)) ∧ lwOk (5 + l) (lawA A l)
def AI (A : Nat → Int) : Prop := (∀ i, i < 48 → bnd i (A i)) ∧ AL A ∧ 0 ≤ A 188 ∧ ∀ k, 189 + (A 188).toNat ≤ k → A k = 0
theorem lawA_up {A : Nat → Int} {i : Nat} {v : Int} (h : i < 188) (h2 : ¬ (3 ≤ i ∧ i ≤ 8)) {l : Nat} (hl : l < 2) : lawA (upA A i v) l = lawA A l := by
  have e : ∀ k, k ≠ i → upA A i v k = A k := fun k hk => if_neg hk
  unfold lawA
  rw [e (3 + l) (by omega), e (7 + l) (by omega), e (5 + l) (by omega)]
  have : (fun k => upA A i v (189 + (A (5 + l)).toNat + k)) = fun k => A (189 + (A (5 + l)).toNat + k) := funext (fun k => e _ (by omega))
  rw [this]
theorem AI.up {A : Nat → Int} (a : AI A) {i : Nat} {v : Int} (h : i < 48) (h2 : ¬ (3 ≤ i ∧ i ≤ 8)) (hv : bnd i v) : AI (upA A i v) := by
  have e : ∀ k, k ≠ i → upA A i v k = A k := fun k hk => if_neg hk
  refine ⟨fun k hk => ?_, fun l hl => ?_, by rw [e 188 (by omega)]; exact a.2.2.1, fun k hk => by rw [e 188 (by omega)] at hk; rw [e k (by omega)]; exact a.2.2.2 k hk⟩
  · by_cases c : k = i
    · rw [c, show upA A i v i = v from if_pos rfl]; exact hv
    · rw [e k c]; exact a.1 k hk
  · rw [lawA_up (by omega) h2 hl, e (3 + l) (by omega), e (7 + l) (by omega), e (5 + l) (by omega), e 188 (by omega)]
    exact a.2.1 l hl
def Inv (X : TX) (P : (Nat → Int) → Prop) (r : LN) : Prop := ∀ q A, r = .inl (q, A) → P A ∧ A 188 ≤ (q : Int) ∧ q ≤ X.2
theorem mv_inv {X : TX} {P : (Nat → Int) → Prop} {s : TS → TS} (hs : ∀ q q', q ≤ X.2 → s (.inl q) = .inl q' → q ≤ q' ∧ q' ≤ X.2) {r : LN} (h : Inv X P r) : Inv X P (mvn s r) := by
  intro q A e
  cases r with
  | inl x =>
    obtain ⟨q0, A0⟩ := x
    obtain ⟨h1, h2, h3⟩ := h q0 A0 rfl
    have e : (match s (.inl q0) with | .inl q => (.inl (q, A0) : LN) | .inr e => .inr e) = .inl (q, A) := e
    cases hc : s (.inl q0) with
    | inl q1 =>
      rw [hc] at e
      have e1 : q1 = q ∧ A0 = A := by cases e; exact ⟨rfl, rfl⟩
      have := hs q0 q1 h3 hc
      rw [← e1.1, ← e1.2]
      exact ⟨h1, by omega, this.2⟩
    | inr e1 => rw [hc] at e; cases e
  | inr e1 => cases e
theorem nx_mono {X : TX} (q q' : Nat) (h : q ≤ X.2) (e : nxs X (.inl q) = .inl q') : q ≤ q' ∧ q' ≤ X.2 := by
  cases e
  refine ⟨?_, tBh_le h⟩
  by_cases c : tk X q = 25
  · have c0 : X.2 ≤ tAt X q := by
      by_cases c0 : X.2 ≤ tAt X q
      · exact c0
      · exfalso
        by_cases c1 : cL (X.1 (tAt X q))
        · have := (tk_L c0 c1).2.1; rw [c] at this; exact absurd this (by decide)
        · by_cases c2 : cD (X.1 (tAt X q))
          · have e := (tk_D c0 c1 c2).2; rw [c] at e; split at e <;> exact absurd e (by decide)
          · have e := (tk_S c0 c1 c2).2; have := sgn_ge (X.1 (tAt X q)); omega
    have : tBh X q = tAt X q := by unfold tBh; rw [if_pos c0]
    rw [this]; exact tAt_ge X q
  · have := tBh_gt c; omega
theorem fl_mono {X : TX} {z : Int} (q q' : Nat) (h : q ≤ X.2) (e : fls X z (.inl q) = .inl q') : q ≤ q' ∧ q' ≤ X.2 := by cases e
theorem eat_mono {X : TX} {k : Int} (q q' : Nat) (h : q ≤ X.2) (e : eats X k (.inl q) = .inl q') : q ≤ q' ∧ q' ≤ X.2 := by
  unfold eats at e
  split at e
  · exact nx_mono q q' h e
  · cases e
theorem tkN_mono {X : TX} {m : Int} (q q' : Nat) (h : q ≤ X.2) (e : tkN X m (.inl q) = .inl q') : q ≤ q' ∧ q' ≤ X.2 := by
  unfold tkN at e
  split at e
  · split at e
    · cases e
    · exact nx_mono q q' h e
  · cases e
theorem mp_inv {X : TX} {P P' : (Nat → Int) → Prop} {f : (Nat → Int) → (Nat → Int)} (hf : ∀ A, P A → P' (f A) ∧ f A 188 = A 188) {r : LN} (h : Inv X P r) : Inv X P' (mpl f r) := by
  intro q A e
  cases r with
  | inl x =>
    obtain ⟨q0, A0⟩ := x
    obtain ⟨h1, h2, h3⟩ := h q0 A0 rfl
    cases e
    exact ⟨(hf A0 h1).1, by rw [(hf A0 h1).2]; exact h2, h3⟩
  | inr e1 => cases e
theorem st_inv {X : TX} {P P' : (Nat → Int) → Prop} {m : Int} {f : Int → (Nat → Int) → (Nat → Int)} (hf : ∀ v A, 0 ≤ v → v ≤ m → P A → P' (f v A) ∧ f v A 188 = A 188) {r : LN} (h : Inv X P r) : Inv X P' (stl X m f r) := by
  intro q A e
  cases r with
  | inl x =>
    obtain ⟨q0, A0⟩ := x
    have e : mpl (f (tNm X q0)) (match tkN X m (.inl q0) with | .inl q => (.inl (q, A0) : LN) | .inr e => .inr e) = .inl (q, A) := e
    obtain ⟨h1, h2, h3⟩ := h q0 A0 rfl
    cases hc : tkN X m (.inl q0) with
    | inl q1 =>
      rw [hc] at e
      have e1 : q1 = q ∧ f (tNm X q0) A0 = A := by cases e; exact ⟨rfl, rfl⟩
      have mo := tkN_mono q0 q1 h3 hc
      have nv := (tNm_ok X q0).1
      have nm : tNm X q0 ≤ m := by
        unfold tkN at hc
        split at hc
        · split at hc
          · cases hc
          · rename_i z; have z : ¬ m < tNm X q0 := z; omega
        · cases hc
      have g := hf (tNm X q0) A0 nv nm h1
      rw [← e1.1, ← e1.2]
      exact ⟨g.1, by rw [g.2]; omega, mo.2⟩
    | inr e1 => rw [hc] at e; cases e
  | inr e1 => cases e
theorem up_188 {A : Nat → Int} {i : Nat} {v : Int} (h : i < 188) : upA A i v 188 = A 188 := if_neg (by omega)
theorem ior_64 {a : Int} {n : Nat} (h0 : 0 ≤ a) (h1 : a < 64) (hn : n < 6) : 0 ≤ ior a (ishl 1 (n : Int)) ∧ ior a (ishl 1 (n : Int)) < 64 := by
  have s := ishl_n (a := 1) (i := n) (by
    have : (2 : Nat) ^ n ≤ 2 ^ 5 := Nat.pow_le_pow_right (by decide) (by omega)
    omega) (by omega)
  rw [show ((1 : Nat) : Int) = 1 from rfl] at s
  rw [s]
  have p : 2 ^ n < 2 ^ 6 := Nat.pow_lt_pow_right (by decide) hn
  have q := ior_n (a := a.toNat) (b := 1 * 2 ^ n) (by omega) (by omega)
  rw [show ((a.toNat : Nat) : Int) = a by omega] at q
  rw [q]
  have := Nat.or_lt_two_pow (x := a.toNat) (y := 1 * 2 ^ n) (n := 6) (by omega) (by omega)
  omega
def AT (t : Nat) (A : Nat → Int) : Prop := AI A ∧ A 1 = (t : Int) ∧ t < 6
def AG (g : Nat) (A : Nat → Int) : Prop := AI A ∧ A 2 = (g : Int) ∧ g < 6
theorem up_ne {A : Nat → Int} {i j : Nat} {v : Int} (h : j ≠ i) : upA A i v j = A j := if_neg h
theorem gPart_inv {X : TX} {t : Nat} {r : LN} (h : Inv X (AT t) r) : Inv X (AT t) (gPart X t r) := by
  have n := mv_inv (s := nxs X) nx_mono h
  unfold gPart
  split
  · refine st_inv (fun v A h0 h1 a => ⟨⟨a.1.up (by have := a.2.2; omega) (by omega) ?_, ?_, a.2.2⟩, up_188 (by have := a.2.2; omega)⟩) n
    · have := a.2.2; unfold bnd; omega
    · rw [up_ne (by omega)]; exact a.2.1
  · split
    · refine st_inv (fun v A h0 h1 a => ⟨⟨a.1.up (by have := a.2.2; omega) (by omega) ?_, ?_, a.2.2⟩, up_188 (by have := a.2.2; omega)⟩) n
      · have t6 := a.2.2
        have b := (a.1.1 (21 + t) (by omega)).2.2.1 (by omega) (by omega)
        have g := ior_64 (n := v.toNat) b.1 b.2 (by omega)
        rw [show ((v.toNat : Nat) : Int) = v by omega] at g
        revert g
        generalize ior (A (21 + t)) (ishl 1 v) = w
        intro g
        unfold bnd; omega
      · rw [up_ne (by omega)]; exact a.2.1
    · refine mp_inv (fun A a => ⟨⟨a.1.up (by omega) (by omega) ?_, ?_, a.2.2⟩, up_188 (by omega)⟩) n
      · have b := (a.1.1 34 (by omega)).2.2.2.2.2.1 rfl
        have g := ior_64 (n := t) b.1 b.2 a.2.2
        revert g
        generalize ior (A 34) (ishl 1 (t : Int)) = w
        intro g
        unfold bnd; omega
      · rw [up_ne (by omega)]; exact a.2.1
theorem pParts_inv {X : TX} {t : Nat} : ∀ m r, Inv X (AT t) r → Inv X (AT t) (pParts X t m r) := by
  intro m
  induction m with
  | zero => intro r h; exact h
  | succ m ih =>
    intro r h
    unfold pParts
    split
    · exact ih _ (gPart_inv h)
    · exact h
theorem Inv.mono {X : TX} {P P' : (Nat → Int) → Prop} {r : LN} (h : Inv X P r) (hp : ∀ A, P A → P' A) : Inv X P' r := fun q A e => ⟨hp A (h q A e).1, (h q A e).2⟩
theorem pThing_inv {X : TX} {r : LN} (h : Inv X AI r) : Inv X AI (pThing X r) := by
  cases r with
  | inr e => exact h
  | inl x =>
    unfold pThing
    show Inv X AI (if x.2 1 = 6 then _ else _)
    by_cases c : x.2 1 = 6
    · rw [if_pos c]; exact mv_inv fl_mono h
    · rw [if_neg c]
      have a := (h x.1 x.2 rfl).1
      have b := (a.1 1 (by omega)).1 (by omega) (by omega)
      have h' : Inv X (AT (x.2 1).toNat) (.inl x) := fun q A e => by
        have e1 : x.1 = q ∧ x.2 = A := by cases e; exact ⟨rfl, rfl⟩
        rw [← e1.1, ← e1.2]
        exact ⟨⟨a, by omega, by omega⟩, (h x.1 x.2 rfl).2⟩
      refine mp_inv (P := AT (x.2 1).toNat) (fun A z => ⟨z.1.up (by omega) (by omega) ?_, up_188 (by omega)⟩) (pParts_inv 900 _ (st_inv (fun v A h0 h1 z => ⟨⟨z.1.up (by have := z.2.2; omega) (by omega) ?_, ?_, z.2.2⟩, up_188 (by have := z.2.2; omega)⟩) (mv_inv eat_mono (mv_inv nx_mono h'))))
      · have z1 := z.2.1
        have z2 := z.2.2
        rw [w32_i (by omega) (by omega)]
        unfold bnd; omega
      · have := z.2.2; unfold bnd; omega
      · rw [up_ne (by omega)]; exact z.2.1
theorem gFlag_inv {X : TX} {g : Nat} {r : LN} (h : Inv X (AG g) r) : Inv X (AG g) (gFlag X g r) := by
  have n := mv_inv (s := nxs X) nx_mono h
  unfold gFlag
  split
  · refine st_inv (fun v A h0 h1 a => ⟨⟨a.1.up (by have := a.2.2; omega) (by omega) ?_, ?_, a.2.2⟩, up_188 (by have := a.2.2; omega)⟩) n
    · have := a.2.2; unfold bnd; omega
    · rw [up_ne (by omega)]; exact a.2.1
  · refine st_inv (fun v A h0 h1 a => ⟨⟨a.1.up (by have := a.2.2; omega) (by omega) ?_, ?_, a.2.2⟩, up_188 (by have := a.2.2; omega)⟩) n
    · have := a.2.2; unfold bnd; omega
    · rw [up_ne (by omega)]; exact a.2.1
theorem pFlags_inv {X : TX} {g : Nat} : ∀ m r, Inv X (AG g) r → Inv X (AG g) (pFlags X g m r) := by
  intro m
  induction m with
  | zero => intro r h; exact h
  | succ m ih =>
    intro r h
    unfold pFlags
    split
    · exact ih _ (gFlag_inv h)
    · exact h
theorem pGoer_inv {X : TX} {r : LN} (h : Inv X AI r) : Inv X AI (pGoer X r) := by
  cases r with
  | inr e => exact h
  | inl x =>
    unfold pGoer
    show Inv X AI (if x.2 2 = 6 then _ else _)
    by_cases c : x.2 2 = 6
    · rw [if_pos c]; exact mv_inv fl_mono h
    · rw [if_neg c]
      have a := (h x.1 x.2 rfl).1
      have b := (a.1 2 (by omega)).1 (by omega) (by omega)
      have h' : Inv X (AG (x.2 2).toNat) (.inl x) := fun q A e => by
        have e1 : x.1 = q ∧ x.2 = A := by cases e; exact ⟨rfl, rfl⟩
        rw [← e1.1, ← e1.2]
        exact ⟨⟨a, by omega, by omega⟩, (h x.1 x.2 rfl).2⟩
      refine mp_inv (P := AG (x.2 2).toNat) (fun A z => ⟨z.1.up (by omega) (by omega) ?_, up_188 (by omega)⟩) (pFlags_inv 900 _ (mp_inv (P := AG (x.2 2).toNat) (fun A z => ⟨⟨z.1.up (by have := z.2.2; omega) (by omega) ?_, ?_, z.2.2⟩, up_188 (by have := z.2.2; omega)⟩) (st_inv (fun v A h0 h1 z => ⟨⟨z.1.up (by have := z.2.2; omega) (by omega) ?_, ?_, z.2.2⟩, up_188 (by have := z.2.2; omega)⟩) (mv_inv eat_mono (mv_inv nx_mono h')))))
      · have z1 := z.2.1
        have z2 := z.2.2
        rw [w32_i (by omega) (by omega)]
        unfold bnd; omega
      · have := z.2.2; unfold bnd; omega
      · rw [up_ne (by omega)]; exact z.2.1
      · have := z.2.2; unfold bnd; omega
      · rw [up_ne (by omega)]; exact z.2.1
theorem lp_3 {A : Nat → Int} {law : Nat} {cs : List Int} : lawPut A law cs (3 + law) = 1 := if_pos rfl
theorem lp_5 {A : Nat → Int} {law : Nat} {cs : List Int} : lawPut A law cs (5 + law) = A 188 := by
  unfold lawPut; rw [if_neg (by omega), if_pos rfl]
theorem lp_7 {A : Nat → Int} {law : Nat} {cs : List Int} : lawPut A law cs (7 + law) = (cs.length : Int) := by
  unfold lawPut; rw [if_neg (by omega), if_neg (by omega), if_pos rfl]
theorem lp_188 {A : Nat → Int} {law : Nat} {cs : List Int} (hl : law < 2) : lawPut A law cs 188 = A 188 + (cs.length : Int) := by
  unfold lawPut; rw [if_neg (by omega), if_neg (by omega), if_neg (by omega), if_pos rfl]
theorem lp_c {A : Nat → Int} {law : Nat} {cs : List Int} (hl : law < 2) {k : Nat} (hk : k < cs.length) : lawPut A law cs (189 + (A 188).toNat + k) = cs.getD k 0 := by
  unfold lawPut
  rw [if_neg (by omega), if_neg (by omega), if_neg (by omega), if_neg (by omega), if_pos (by omega), show 189 + (A 188).toNat + k - (189 + (A 188).toNat) = k by omega]
theorem lp_o {A : Nat → Int} {law : Nat} {cs : List Int} {k : Nat} (h3 : k ≠ 3 + law) (h5 : k ≠ 5 + law) (h7 : k ≠ 7 + law) (h8 : k ≠ 188) (hk : k < 189 + (A 188).toNat ∨ 189 + (A 188).toNat + cs.length ≤ k) : lawPut A law cs k = A k := by
  unfold lawPut
  rw [if_neg h3, if_neg h5, if_neg h7, if_neg h8, if_neg (by omega)]
theorem lawA_put {A : Nat → Int} {law : Nat} {cs : List Int} (hl : law < 2) : lawA (lawPut A law cs) law = cs := by
  unfold lawA
  rw [lp_3, lp_5, lp_7, if_neg (by decide), Int.toNat_natCast]
  refine List.ext_getElem (by rw [List.length_map, List.length_range]) (fun j h1 h2 => ?_)
  rw [List.getElem_map, List.getElem_range, lp_c hl h2, List.getD, List.getElem?_eq_getElem h2]; rfl
theorem lawA_puo {A : Nat → Int} {law l : Nat} {cs : List Int} (hl : law < 2) (h2 : l < 2) (hn : l ≠ law) (a : A (3 + l) = 0 ∨ (A (3 + l) = 1 ∧ 0 ≤ A (5 + l) ∧ 1 ≤ A (7 + l) ∧ A (5 + l) + A (7 + l) ≤ A 188)) : lawA (lawPut A law cs) l = lawA A l := by
  unfold lawA
  rw [lp_o (k := 3 + l) (by omega) (by omega) (by omega) (by omega) (by omega), lp_o (k := 5 + l) (by omega) (by omega) (by omega) (by omega) (by omega), lp_o (k := 7 + l) (by omega) (by omega) (by omega) (by omega) (by omega)]
  rcases a with a | ⟨a0, a1, a2, a3⟩
  · rw [if_pos a, if_pos a]
  · rw [if_neg (by omega), if_neg (by omega)]
    refine List.map_congr_left (fun k hk => ?_)
    have hk := List.mem_range.mp hk
    exact lp_o (by omega) (by omega) (by omega) (by omega) (by omega)
theorem put_AI {A : Nat → Int} {law : Nat} {cs : List Int} (hl : law < 2) (a : AI A) (h1 : cs.length ≤ 900) (h2 : trun (5 + law) cs [] = some [false]) : AI (lawPut A law cs) := by
  obtain ⟨a1, a2, a3, a4⟩ := a
  have c0 : 1 ≤ cs.length := by
    cases cs with
    | nil => cases h2
    | cons c t => simp
  refine ⟨fun i hi => ?_, fun l h => ?_, by rw [lp_188 hl]; omega, fun k hk => by rw [lp_188 hl] at hk; rw [lp_o (by omega) (by omega) (by omega) (by omega) (by omega)]; exact a4 k (by omega)⟩
  · by_cases c : i = 3 + law ∨ i = 5 + law ∨ i = 7 + law
    · unfold bnd; omega
    · rw [lp_o (by omega) (by omega) (by omega) (by omega) (by omega)]; exact a1 i hi
  · by_cases c : l = law
    · subst c
      rw [lp_3, lp_5, lp_7, lp_188 hl, lawA_put hl]
      exact ⟨Or.inr ⟨rfl, a3, by omega, by omega⟩, h1, Or.inr h2⟩
    · obtain ⟨b1, b2⟩ := a2 l h
      rw [lawA_puo hl h c b1, lp_o (k := 3 + l) (by omega) (by omega) (by omega) (by omega) (by omega), lp_o (k := 5 + l) (by omega) (by omega) (by omega) (by omega) (by omega), lp_o (k := 7 + l) (by omega) (by omega) (by omega) (by omega) (by omega), lp_188 hl]
      refine ⟨?_, b2⟩
      rcases b1 with b1 | ⟨b0, b1, b3, b4⟩
      · exact Or.inl b1
      · exact Or.inr ⟨b0, b1, b3, by omega⟩
/-- a law that was read whole -/
theorem law_read {X : TX} {law q q' : Nat} {cs : List Int} (hl : law < 2) (h : (lvl X law 6).1 (.inl (q, [])) = .inl (q', cs)) : q ≤ q' ∧ (q ≤ X.2 → q' ≤ X.2) ∧ cs.length + q ≤ q' ∧ trun (5 + law) cs [] = some [false] := by
  obtain ⟨g1, g2, e, g3, g4, g5⟩ := (lvl_typ (X := X) hl 6 (Nat.le_refl _)).1.2 _ _ _ _ h
  rw [List.nil_append] at g3
  subst g3
  exact ⟨g1, g2, g4, g5 [] (by simp)⟩
theorem pLaw_inv {X : TX} (hX : X.2 ≤ 900) {law : Nat} (hl : law < 2) {r : LN} (h : Inv X AI r) : Inv X AI (pLaw X law r) := by
  have n := mv_inv (eat_mono (k := 31)) (mv_inv nx_mono h)
  unfold pLaw
  cases hx : mvn (eats X 31) (mvn (nxs X) r) with
  | inr e => intro q A e; cases e
  | inl x =>
    obtain ⟨q0, A0⟩ := x
    obtain ⟨a1, a2, a3⟩ := n q0 A0 hx
    show Inv X AI (lawEnd X law A0 ((lvl X law 6).1 (.inl (q0, []))))
    cases hy : (lvl X law 6).1 (.inl (q0, [])) with
    | inr e => intro q A e; cases e
    | inl y =>
      obtain ⟨q1, cs⟩ := y
      obtain ⟨b1, b2, b3, b4⟩ := law_read hl hy
      intro q A e
      have e1 : q1 = q ∧ lawPut A0 law cs = A := by cases e; exact ⟨rfl, rfl⟩
      have b5 := b2 a3
      rw [← e1.1, ← e1.2]
      exact ⟨put_AI hl a1 (by omega) b4, by rw [lp_188 hl]; omega, b5⟩
theorem pRead_inv {X : TX} (hX : X.2 ≤ 900) {r : LN} (h : Inv X AI r) : Inv X AI (pRead X r) := by
  unfold pRead
  repeat' split
  · exact pThing_inv h
  · exact pGoer_inv h
  · exact pLaw_inv hX (by decide) h
  · exact pLaw_inv hX (by decide) h
  · exact mv_inv fl_mono h
theorem pEnd_inv {X : TX} {r : LN} (h : Inv X AI r) : Inv X AI (pEnd X r) := mp_inv (P := AI) (fun A a => ⟨a.up (by omega) (by omega) (by unfold bnd; omega), up_188 (by omega)⟩) (mv_inv eat_mono h)
theorem pLines_inv {X : TX} (hX : X.2 ≤ 900) : ∀ m r, Inv X AI r → Inv X AI (pLines X m r) := by
  intro m
  induction m with
  | zero => intro r h; exact h
  | succ m ih =>
    intro r h
    unfold pLines
    split
    · exact h
    · exact ih _ (pEnd_inv (pRead_inv hX h))
theorem bnd_0 (i : Nat) : bnd i 0 := by unfold bnd; omega
theorem AI_0 : AI (fun _ => 0) := ⟨fun i _ => bnd_0 i, fun l _ => ⟨Or.inl rfl, by rw [law0]; exact ⟨Nat.zero_le _, Or.inl rfl⟩⟩, Int.le_refl 0, fun _ _ => rfl⟩
theorem start_inv {X : TX} : Inv X AI (.inl (0, fun _ => 0)) := fun q A e => by
  have e1 : 0 = q ∧ (fun _ => 0) = A := by cases e; exact ⟨rfl, rfl⟩
  rw [← e1.1, ← e1.2]
  exact ⟨AI_0, Int.le_refl 0, Nat.zero_le _⟩
theorem pStart_inv {X : TX} : Inv X AI (pEnd X (stl X 99 (fun v A => upA A 33 v) (mvn (eats X 0) (.inl (0, fun _ => 0))))) := pEnd_inv (st_inv (P := AI) (fun v A h0 h1 a => ⟨a.up (by omega) (by omega) (by unfold bnd; omega), up_188 (by omega)⟩) (mv_inv eat_mono start_inv))
theorem pPool_inv {X : TX} (hX : X.2 ≤ 900) : Inv X AI (pPool X) := pLines_inv hX 900 _ pStart_inv
theorem AI_ok {A : Nat → Int} (a : AI A) (h : A 188 ≤ 900) : poolOk A ∧ stOk (stA A) ∧ A 47 = 0 := by
  obtain ⟨a1, a2, a3, _⟩ := a
  have b1 := (a1 1 (by omega)).1 (by omega) (by omega)
  have b2 := (a1 2 (by omega)).1 (by omega) (by omega)
  have b33 := (a1 33 (by omega)).2.2.2.2.1 rfl
  have b34 := (a1 34 (by omega)).2.2.2.2.2.1 rfl
  have nd : ∀ t, t < 6 → 0 ≤ A (21 + t) ∧ A (21 + t) < 64 := fun t ht => (a1 (21 + t) (by omega)).2.2.1 (by omega) (by omega)
  refine ⟨⟨b1.1, b1.2, b2.1, b2.2, ⟨?_, fun t ht => ?_, (a2 0 (by omega)).2, (a2 1 (by omega)).2⟩, fun t ht => (nd t ht).1, fun l hl => ?_, fun g hg => ?_⟩, ⟨b33.1, b33.2, b34.1, b34.2, fun g hg => ?_⟩, (a1 47 (by omega)).2.2.2.2.2.2.2.2 rfl⟩
  · show (A 1).toNat ≤ 6; omega
  · have ht : t < (A 1).toNat := ht
    have d := (a1 (9 + t) (by omega)).2.1 (by omega) (by omega)
    have n := nd t (by omega)
    exact ⟨d.1, d.2, by show (A (21 + t)).toNat < 64; omega⟩
  · have c := (a2 l hl).1
    refine ⟨by omega, fun z => ?_⟩
    omega
  · exact (a1 (27 + g) (by omega)).2.2.2.1 (by omega) (by omega)
  · have x := (a1 (35 + g) (by omega)).2.2.2.2.2.2.1 (by omega) (by omega)
    have y := (a1 (41 + g) (by omega)).2.2.2.2.2.2.2.1 (by omega) (by omega)
    unfold stA
    rw [show 33 + (2 + g) = 35 + g by omega, show 33 + (8 + g) = 41 + g by omega]
    exact ⟨x.1, x.2, y.1, y.2⟩
