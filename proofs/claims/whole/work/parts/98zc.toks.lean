/-! reading without a heap: tokens -/
/-- a text and how much of it is read; a place in it, or a fault and where -/
abbrev TX : Type := (Nat → Int) × Nat
abbrev TS : Type := Nat ⊕ (Int × Nat)
abbrev cB (c : Int) : Prop := c = 10 ∨ c = 32
abbrev cL (c : Int) : Prop := 97 ≤ c ∧ c ≤ 122
abbrev cD (c : Int) : Prop := 48 ≤ c ∧ c ≤ 57
def skp (P : Int → Prop) [DecidablePred P] (t : Nat → Int) : Nat → Nat → Nat
  | 0, q => q
  | n + 1, q => if P (t q) then skp P t n (q + 1) else q
theorem skp_ge (P : Int → Prop) [DecidablePred P] (t : Nat → Int) : ∀ n q, q ≤ skp P t n q := by
  intro n
  induction n with
  | zero => intro q; exact Nat.le_refl _
  | succ n ih =>
    intro q
    show q ≤ if P (t q) then skp P t n (q + 1) else q
    split
    · have := ih (q + 1); omega
    · omega
theorem skp_le (P : Int → Prop) [DecidablePred P] (t : Nat → Int) : ∀ n q, skp P t n q ≤ q + n := by
  intro n
  induction n with
  | zero => intro q; exact Nat.le_refl _
  | succ n ih =>
    intro q
    show (if P (t q) then skp P t n (q + 1) else q) ≤ q + (n + 1)
    split
    · have := ih (q + 1); omega
    · omega
theorem skp_one (P : Int → Prop) [DecidablePred P] (t : Nat → Int) {n q : Nat} (h : 0 < n) (p : P (t q)) : q + 1 ≤ skp P t n q := by
  match n, h with
  | n + 1, _ =>
    show q + 1 ≤ if P (t q) then skp P t n (q + 1) else q
    rw [if_pos p]; exact skp_ge P t n (q + 1)
def tAt (X : TX) (q : Nat) : Nat := skp cB X.1 (X.2 - q) q
def tBh (X : TX) (q : Nat) : Nat := if X.2 ≤ tAt X q then tAt X q else if cL (X.1 (tAt X q)) then skp cL X.1 (X.2 - tAt X q) (tAt X q) else if cD (X.1 (tAt X q)) then skp cD X.1 (X.2 - tAt X q) (tAt X q) else tAt X q + 1
theorem tAt_ge (X : TX) (q : Nat) : q ≤ tAt X q := skp_ge _ _ _ _
theorem tAt_le {X : TX} {q : Nat} (h : q ≤ X.2) : tAt X q ≤ X.2 := by
  have := skp_le cB X.1 (X.2 - q) q
  unfold tAt; omega
theorem tBh_le {X : TX} {q : Nat} (h : q ≤ X.2) : tBh X q ≤ X.2 := by
  have h1 := tAt_le h
  have h2 := skp_le cL X.1 (X.2 - tAt X q) (tAt X q)
  have h3 := skp_le cD X.1 (X.2 - tAt X q) (tAt X q)
  unfold tBh
  split
  · omega
  · split
    · omega
    · split <;> omega
def wdOf (X : TX) (a b : Nat) : List Int := (List.range (b - a)).map (fun i => X.1 (a + i))
/-- the first three digits -/
def nmL (t : Nat → Int) (a : Nat) : Nat → Nat → Int → Int
  | 0, _, v => v
  | n + 1, b, v => if cD (t b) then nmL t a n (b + 1) (if b < a + 3 then 10 * v + t b - 48 else v) else v
def tNm (X : TX) (q : Nat) : Int := nmL X.1 (tAt X q) (X.2 - tAt X q) (tAt X q) 0
/-- so far a number of b - a digits -/
def nOk (a b : Nat) (v : Int) : Prop := 0 ≤ v ∧ v ≤ 999 ∧ (b ≤ a → v = 0) ∧ (b ≤ a + 1 → v ≤ 9) ∧ (b ≤ a + 2 → v ≤ 99)
theorem nOk_s {a b : Nat} {v c : Int} (h : nOk a b v) (hc : cD c) (hb : a ≤ b) : nOk a (b + 1) (if b < a + 3 then 10 * v + c - 48 else v) := by
  unfold nOk at h ⊢; unfold cD at hc
  split <;> omega
theorem nmL_ok (t : Nat → Int) (a : Nat) : ∀ n b v, a ≤ b → nOk a b v → 0 ≤ nmL t a n b v ∧ nmL t a n b v ≤ 999 := by
  intro n
  induction n with
  | zero => intro b v _ h; exact ⟨h.1, h.2.1⟩
  | succ n ih =>
    intro b v hb h
    unfold nmL
    by_cases hc : cD (t b)
    · rw [if_pos hc]; exact ih (b + 1) _ (by omega) (nOk_s h hc hb)
    · rw [if_neg hc]; exact ⟨h.1, h.2.1⟩
theorem tNm_ok (X : TX) (q : Nat) : 0 ≤ tNm X q ∧ tNm X q ≤ 999 := nmL_ok _ _ _ _ _ (Nat.le_refl _) (by unfold nOk; omega)
def sgn (c : Int) : Int := if c = 59 then 30 else if c = 58 then 31 else if c = 43 then 32 else if c = 45 then 33 else if c = 42 then 34 else if c = 40 then 35 else if c = 41 then 36 else if c = 91 then 37 else if c = 93 then 38 else if c = 61 then 39 else if c = 60 then 40 else if c = 62 then 41 else 26
/-- pool thing at guard needs there goer breath bold odds reaches tells if then else end who board things reach and or not -/
def KW : List (List Int) := [1, 2, 3, 4, 5, 6, 7, 8, 9, 10, 11, 23, 16, 20, 21, 22, 12, 13, 14, 15, 18, 19, 17].map (fun j => sbyz.getD j [])
def kwN (w : List Int) : Int := (KW.idxOf w : Nat)
def tk (X : TX) (q : Nat) : Int := if X.2 ≤ tAt X q then 25 else if cL (X.1 (tAt X q)) then kwN (wdOf X (tAt X q) (tBh X q)) else if cD (X.1 (tAt X q)) then (if tAt X q + 3 < tBh X q then 26 else 24) else sgn (X.1 (tAt X q))
theorem kwN_le (w : List Int) : 0 ≤ kwN w ∧ kwN w ≤ 23 := by
  have h : KW.idxOf w ≤ KW.length := List.idxOf_le_length
  have e : KW.length = 23 := rfl
  unfold kwN; omega
theorem kwN_is {i : Nat} (hi : i < 23) (w : List Int) : kwN w = (i : Int) ↔ w = KW.getD i [] := by
  have e : KW.length = 23 := rfl
  have a : ∀ i, i < 23 → KW.idxOf (KW.getD i []) = i := by decide +kernel
  unfold kwN
  constructor
  · intro h
    have h1 : KW.idxOf w = i := by omega
    have h2 : KW.idxOf w < KW.length := by omega
    have h3 := List.getElem_idxOf h2
    rw [← h1, List.getD, List.getElem?_eq_getElem h2]; exact h3.symm
  · intro h; rw [h, a i hi]
def sgi (k : Int) : Int := if k = 30 then 59 else if k = 31 then 58 else if k = 32 then 43 else if k = 33 then 45 else if k = 34 then 42 else if k = 35 then 40 else if k = 36 then 41 else if k = 37 then 91 else if k = 38 then 93 else if k = 39 then 61 else if k = 40 then 60 else 62
theorem sgi_sgn {z : Int} (hz : sgn z ≠ 26) : sgi (sgn z) = z := by
  unfold sgn at hz ⊢
  by_cases h : z = 59 ∨ z = 58 ∨ z = 43 ∨ z = 45 ∨ z = 42 ∨ z = 40 ∨ z = 41 ∨ z = 91 ∨ z = 93 ∨ z = 61 ∨ z = 60 ∨ z = 62
  · rcases h with rfl | rfl | rfl | rfl | rfl | rfl | rfl | rfl | rfl | rfl | rfl | rfl <;> rfl
  · refine absurd ?_ hz
    simp only [not_or] at h
    obtain ⟨a, b, c, d, e, f, g, i, j, k, l, m⟩ := h
    simp only [a, b, c, d, e, f, g, i, j, k, l, m, if_false]
theorem sgn_is {c z : Int} (hz : sgn z ≠ 26) : sgn c = sgn z ↔ c = z := ⟨fun h => by rw [← sgi_sgn hz, ← h, sgi_sgn (h ▸ hz)], fun h => by rw [h]⟩
theorem sgn_ge (c : Int) : 26 ≤ sgn c ∧ sgn c ≤ 41 ∧ (sgn c = 26 ∨ 30 ≤ sgn c) := by
  unfold sgn
  repeat' split
  all_goals omega
theorem tk_rng (X : TX) (q : Nat) : 0 ≤ tk X q ∧ tk X q ≤ 41 := by
  have h1 := kwN_le (wdOf X (tAt X q) (tBh X q))
  have h2 := sgn_ge (X.1 (tAt X q))
  unfold tk
  split
  · omega
  · split
    · omega
    · split
      · split <;> omega
      · omega
theorem tk_lt {X : TX} {q : Nat} (h : tk X q ≠ 25) : tAt X q < X.2 := by
  unfold tk at h
  by_cases g : X.2 ≤ tAt X q
  · rw [if_pos g] at h; exact absurd rfl h
  · omega
theorem tBh_gt {X : TX} {q : Nat} (h : tk X q ≠ 25) : q + 1 ≤ tBh X q := by
  have h1 := tk_lt h
  have h2 := tAt_ge X q
  unfold tBh
  rw [if_neg (by omega)]
  split
  · rename_i hc
    have := skp_one cL X.1 (n := X.2 - tAt X q) (by omega) hc
    omega
  · split
    · rename_i hc
      have := skp_one cD X.1 (n := X.2 - tAt X q) (by omega) hc
      omega
    · omega
/-- the class's kind of a token -/
def ck (k : Int) : Int := if k ≤ 23 then 1 else if k = 24 then 2 else if k = 25 then 0 else 3
def tks (X : TX) (s : TS) : Int := match s with
  | .inl q => tk X q
  | .inr _ => -1
def nxs (X : TX) (s : TS) : TS := match s with
  | .inl q => .inl (tBh X q)
  | .inr e => .inr e
def fls (X : TX) (z : Int) (s : TS) : TS := match s with
  | .inl q => .inr (if tk X q = 26 then 1 else z, tAt X q)
  | .inr e => .inr e
def eats (X : TX) (k : Int) (s : TS) : TS := if tks X s = k then nxs X s else fls X 2 s
def nms (X : TX) (s : TS) : Int := match s with
  | .inl q => tNm X q
  | .inr _ => 0
/-! laws -/
abbrev PS : Type := (Nat × List Int) ⊕ (Int × Nat)
def ts (r : PS) : TS := match r with
  | .inl x => .inl x.1
  | .inr e => .inr e
def wof (law : Nat) (k : Int) : Int := if k = 16 then 0 else if k = 8 then 1 else if k = 17 then 2 else if k = 18 then 3 else if k = 7 then (if law = 0 then 4 else -1) else if k = 19 then (if law = 1 then 5 else -1) else -1
def nx (X : TX) (r : PS) : PS := match r with
  | .inl x => .inl (tBh X x.1, x.2)
  | .inr e => .inr e
def fl (X : TX) (z : Int) (r : PS) : PS := match r with
  | .inl x => .inr (if tk X x.1 = 26 then 1 else z, tAt X x.1)
  | .inr e => .inr e
def em (c : Int) (r : PS) : PS := match r with
  | .inl x => .inl (x.1, x.2 ++ [c])
  | .inr e => .inr e
def tkr (X : TX) (r : PS) : Int := tks X (ts r)
def eat (X : TX) (k : Int) (r : PS) : PS := if tkr X r = k then nx X r else fl X 2 r
theorem ts_nx (X : TX) (r : PS) : ts (nx X r) = nxs X (ts r) := by cases r <;> rfl
theorem ts_fl (X : TX) (z : Int) (r : PS) : ts (fl X z r) = fls X z (ts r) := by cases r <;> rfl
theorem ts_em (c : Int) (r : PS) : ts (em c r) = ts r := by cases r <;> rfl
theorem ts_eat (X : TX) (k : Int) (r : PS) : ts (eat X k r) = eats X k (ts r) := by
  unfold eat eats tkr
  split
  · exact ts_nx X r
  · exact ts_fl X 2 r
def pAtom (X : TX) (law n : Nat) (S T : PS → PS) (r : PS) : PS :=
  if tkr X r = 24 then nx X (em (nms X (ts r)) r)
  else if wof law (tkr X r) ≠ -1 then nx X (em (1000 + wof law (tkr X r)) r)
  else if tkr X r = 35 then (if n = 0 then fl X 4 r else eat X 36 (S (nx X r)))
  else if tkr X r = 12 then (if n = 0 then fl X 4 r else em 3009 (eat X 15 (S (eat X 14 (S (eat X 13 (T (nx X r))))))))
  else fl X 2 r
def lp (X : TX) (g : Int → Int) (A : PS → PS) : Nat → PS → PS
  | 0, r => r
  | m + 1, r => if g (tkr X r) ≠ 0 then lp X g A m (em (g (tkr X r)) (A (nx X r))) else r
def gT (k : Int) : Int := if k = 34 then 3002 else 0
def gS (k : Int) : Int := if k = 32 then 3000 else if k = 33 then 3001 else 0
def gA (k : Int) : Int := if k = 20 then 3007 else 0
def gO (k : Int) : Int := if k = 21 then 3008 else 0
def gC (k : Int) : Int := if k = 39 then 3003 else if k = 40 then 3004 else if k = 41 then 3005 else 0
def pCmp (X : TX) (S : PS → PS) (r : PS) : PS := if gC (tkr X (S r)) ≠ 0 then em (gC (tkr X (S r))) (S (nx X (S r))) else fl X 2 (S r)
def pUnit (X : TX) (n : Nat) (S U T : PS → PS) (r : PS) : PS :=
  if tkr X r = 22 then (if n = 0 then fl X 4 r else em 3006 (U (nx X r)))
  else if tkr X r = 37 then (if n = 0 then fl X 4 r else eat X 38 (T (nx X r)))
  else pCmp X S r
abbrev LV : Type := (PS → PS) × (PS → PS) × (PS → PS)
def pTerm (X : TX) (law n : Nat) (l : LV) (r : PS) : PS := lp X gT (pAtom X law n l.1 l.2.2) 900 (pAtom X law n l.1 l.2.2 r)
def pSum (X : TX) (law n : Nat) (l : LV) (r : PS) : PS := lp X gS (pTerm X law n l) 900 (pTerm X law n l r)
def pUn (X : TX) (law n : Nat) (l : LV) (r : PS) : PS := pUnit X n (pSum X law n l) l.2.1 l.2.2 r
def pBoth (X : TX) (law n : Nat) (l : LV) (r : PS) : PS := lp X gA (pUn X law n l) 900 (pUn X law n l r)
def pTruth (X : TX) (law n : Nat) (l : LV) (r : PS) : PS := lp X gO (pBoth X law n l) 900 (pBoth X law n l r)
/-- sum, unit, truth where n more may be opened -/
def lvl (X : TX) (law : Nat) : Nat → LV
  | 0 => (pSum X law 0 (id, id, id), pUn X law 0 (id, id, id), pTruth X law 0 (id, id, id))
  | n + 1 => (pSum X law (n + 1) (lvl X law n), pUn X law (n + 1) (lvl X law n), pTruth X law (n + 1) (lvl X law n))
