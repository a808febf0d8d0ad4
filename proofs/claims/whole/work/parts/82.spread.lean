/-! rows, counted -/
theorem w64_e (z : Int) : w64 z % 18446744073709551616 = z % 18446744073709551616 := by unfold w64; omega
theorem w64_c {a b : Int} (h : a % 18446744073709551616 = b % 18446744073709551616) : w64 a = w64 b := by unfold w64; omega
theorem w64_add2 (a b : Int) : w64 (w64 a + w64 b) = w64 (a + b) := by
  apply w64_c
  rw [Int.add_emod, w64_e, w64_e, ← Int.add_emod]
theorem w64_addr (a b : Int) : w64 (a + w64 b) = w64 (a + b) := by
  apply w64_c
  rw [Int.add_emod, w64_e, ← Int.add_emod]
theorem w64_addl (a b : Int) : w64 (w64 a + b) = w64 (a + b) := by
  apply w64_c
  rw [Int.add_emod, w64_e, ← Int.add_emod]
theorem w64_mull (a b : Int) : w64 (w64 a * b) = w64 (a * b) := by
  apply w64_c
  rw [Int.mul_emod, w64_e, ← Int.mul_emod]
theorem w64_0 : w64 0 = 0 := by decide
theorem w64_1 : w64 1 = 1 := by decide
theorem w64_nat {n : Nat} (h : n < 9223372036854775808) : w64 (n : Int) = (n : Int) := w64_i (by omega) (by omega)
def adN (D : Nat → Nat) (t v : Nat) : Nat → Nat := fun s => if s = t then D s + v else D s
/-- the first n goers go on from s, where there are v rows -/
def spG (f : Nat → Nat → Nat) (W : Nat → Nat) (ok : Nat → Bool) (s v : Nat) : Nat → (Nat → Nat) → Nat → Nat
  | 0, D => D
  | n + 1, D => if ok (f n s) = true then adN (spG f W ok s v n D) (f n s) (v * W n) else spG f W ok s v n D
def spL (f : Nat → Nat → Nat) (W : Nat → Nat) (ok : Nat → Bool) (L : List Nat) (G : Nat) (D0 : Nat → Nat) : Nat → Nat → Nat
  | 0 => fun _ => 0
  | n + 1 => spG f W ok (L.getD n 0) (D0 (L.getD n 0)) G (spL f W ok L G D0 n)
def spN (f : Nat → Nat → Nat) (W : Nat → Nat) (ok : Nat → Nat → Bool) (L : List Nat) (G : Nat) : Nat → Nat → Nat
  | 0 => fun s => if s = L.getD 0 0 then 1 else 0
  | n + 1 => spL f W (ok n) L G (spN f W ok L G n) L.length
def smW (W : Nat → Nat) : Nat → Nat
  | 0 => 0
  | n + 1 => smW W n + W n
def smL (L : List Nat) (D : Nat → Nat) : Nat → Nat
  | 0 => 0
  | n + 1 => smL L D n + D (L.getD n 0)
theorem adN_0 (D : Nat → Nat) (t : Nat) : adN D t 0 = D := by
  funext s
  unfold adN
  split <;> rfl
theorem spG_0 (f : Nat → Nat → Nat) (W : Nat → Nat) (ok : Nat → Bool) (s : Nat) : ∀ (n : Nat) (D : Nat → Nat), spG f W ok s 0 n D = D := by
  intro n
  induction n with
  | zero => intro D; rfl
  | succ n ih =>
    intro D
    unfold spG
    rw [ih, Nat.zero_mul, adN_0]
    split <;> rfl
theorem smL_E {L : List Nat} {D D' : Nat → Nat} : ∀ n, (∀ p, p < n → D (L.getD p 0) = D' (L.getD p 0)) → smL L D n = smL L D' n := by
  intro n
  induction n with
  | zero => intro _; rfl
  | succ n ih => intro e; unfold smL; rw [ih (fun p hp => e p (by omega)), e n (by omega)]
theorem smL_ad {L : List Nat} (o : lsOk L) {D : Nat → Nat} {q v : Nat} (hq : q < L.length) : ∀ n, n ≤ L.length → smL L (adN D (L.getD q 0) v) n = smL L D n + (if q < n then v else 0) := by
  intro n
  induction n with
  | zero => intro _; rw [if_neg (by omega)]; rfl
  | succ n ih =>
    intro hn
    show smL L (adN D (L.getD q 0) v) n + adN D (L.getD q 0) v (L.getD n 0) = smL L D n + D (L.getD n 0) + _
    rw [ih (by omega)]
    unfold adN
    by_cases hqn : q = n
    · subst hqn
      rw [if_pos (show L.getD q 0 = L.getD q 0 from rfl), if_neg (Nat.lt_irrefl q), if_pos (Nat.lt_succ_self q)]; omega
    · rw [if_neg (show ¬ (L.getD n 0 = L.getD q 0) from fun e => hqn (getD_inj o hq (by omega) e.symm))]
      by_cases h2 : q < n
      · rw [if_pos h2, if_pos (by omega)]; omega
      · rw [if_neg h2, if_neg (by omega)]; omega
theorem smL_ge {L : List Nat} {D : Nat → Nat} : ∀ n p, p < n → D (L.getD p 0) ≤ smL L D n := by
  intro n
  induction n with
  | zero => intro p hp; omega
  | succ n ih =>
    intro p hp
    show _ ≤ smL L D n + D (L.getD n 0)
    by_cases h : p = n
    · rw [h]; omega
    · have := ih p (by omega); omega
theorem smL_spG {L : List Nat} (o : lsOk L) {f : Nat → Nat → Nat} {W : Nat → Nat} {ok : Nat → Bool} {s v : Nat} : ∀ (n : Nat) (D : Nat → Nat), (∀ g, g < n → f g s ∈ L) → smL L (spG f W ok s v n D) L.length ≤ smL L D L.length + v * smW W n ∧ ((∀ t, ok t = true) → smL L (spG f W ok s v n D) L.length = smL L D L.length + v * smW W n) := by
  intro n
  induction n with
  | zero => intro D _; exact ⟨Nat.le_refl _, fun _ => rfl⟩
  | succ n ih =>
    intro D hf
    obtain ⟨i1, i2⟩ := ih D (fun g hg => hf g (by omega))
    obtain ⟨q, hq, e⟩ := mem_getD (hf n (by omega))
    have em : v * smW W (n + 1) = v * smW W n + v * W n := Nat.mul_add _ _ _
    have ea := smL_ad o (D := spG f W ok s v n D) (v := v * W n) hq L.length (Nat.le_refl _)
    rw [if_pos hq, e] at ea
    unfold spG
    rw [em]
    constructor
    · split
      · omega
      · omega
    · intro h
      rw [if_pos (h _), ea, i2 h]; omega
theorem smL_spL {L : List Nat} (o : lsOk L) {f : Nat → Nat → Nat} {W : Nat → Nat} {ok : Nat → Bool} {G : Nat} {D0 : Nat → Nat} (hf : ∀ g p, g < G → p < L.length → f g (L.getD p 0) ∈ L) : ∀ n, n ≤ L.length → smL L (spL f W ok L G D0 n) L.length ≤ smL L D0 n * smW W G ∧ ((∀ t, ok t = true) → smL L (spL f W ok L G D0 n) L.length = smL L D0 n * smW W G) := by
  intro n
  induction n with
  | zero =>
    intro _
    have z : ∀ m, smL L (fun _ => 0) m = 0 := by
      intro m
      induction m with
      | zero => rfl
      | succ m ih => show smL L (fun _ => 0) m + 0 = 0; rw [ih]
    have e1 : smL L (spL f W ok L G D0 0) L.length = 0 := z L.length
    rw [e1]
    have e2 : smL L D0 0 * smW W G = 0 := Nat.zero_mul _
    exact ⟨by omega, fun _ => by omega⟩
  | succ n ih =>
    intro hn
    obtain ⟨i1, i2⟩ := ih (by omega)
    obtain ⟨j1, j2⟩ := smL_spG o (f := f) (W := W) (ok := ok) (s := L.getD n 0) (v := D0 (L.getD n 0)) G (spL f W ok L G D0 n) (fun g hg => hf g n hg (by omega))
    have em : smL L D0 (n + 1) * smW W G = smL L D0 n * smW W G + D0 (L.getD n 0) * smW W G := Nat.add_mul _ _ _
    rw [em]
    exact ⟨Nat.le_trans j1 (by omega), fun h => by
      have := j2 h
      have := i2 h
      show smL L (spG f W ok (L.getD n 0) (D0 (L.getD n 0)) G (spL f W ok L G D0 n)) L.length = _
      omega⟩
theorem smL_0 {L : List Nat} (o : lsOk L) : ∀ n, 0 < n → n ≤ L.length → smL L (fun s => if s = L.getD 0 0 then 1 else 0) n = 1 := by
  intro n
  induction n with
  | zero => intro h; omega
  | succ n ih =>
    intro _ hn
    show smL L _ n + (if L.getD n 0 = L.getD 0 0 then 1 else 0) = 1
    by_cases h0 : n = 0
    · subst h0; rw [if_pos rfl]; rfl
    · rw [if_neg (fun e => h0 (getD_inj o (by omega) o.2.2 e)), ih (by omega) (by omega)]
theorem smL_spN {L : List Nat} (o : lsOk L) {f : Nat → Nat → Nat} {W : Nat → Nat} {ok : Nat → Nat → Bool} {G : Nat} (hf : ∀ g p, g < G → p < L.length → f g (L.getD p 0) ∈ L) : ∀ n, smL L (spN f W ok L G n) L.length ≤ smW W G ^ n ∧ ((∀ i t, ok i t = true) → smL L (spN f W ok L G n) L.length = smW W G ^ n) := by
  intro n
  induction n with
  | zero =>
    have e := smL_0 o L.length o.2.2 (Nat.le_refl _)
    exact ⟨Nat.le_of_eq e, fun _ => e⟩
  | succ n ih =>
    obtain ⟨i1, i2⟩ := ih
    obtain ⟨j1, j2⟩ := smL_spL o (W := W) (ok := ok n) (D0 := spN f W ok L G n) hf L.length (Nat.le_refl _)
    have em := Nat.mul_le_mul_right (smW W G) i1
    rw [Nat.pow_succ]
    exact ⟨Nat.le_trans j1 em, fun h => by
      have := j2 (h n)
      rw [i2 h] at this
      exact this⟩
theorem spG_ok {f : Nat → Nat → Nat} {W : Nat → Nat} {ok : Nat → Bool} {s v : Nat} : ∀ (n : Nat) (D D' : Nat → Nat), (∀ t, D t = if ok t = true then D' t else 0) → ∀ t, spG f W ok s v n D t = if ok t = true then spG f W (fun _ => true) s v n D' t else 0 := by
  intro n
  induction n with
  | zero => intro D D' h t; exact h t
  | succ n ih =>
    intro D D' h t
    have i := ih D D' h t
    unfold spG
    rw [if_pos rfl]
    by_cases ho : ok (f n s) = true
    · rw [if_pos ho]
      unfold adN
      by_cases ht : t = f n s
      · rw [if_pos ht, if_pos ht, i, ht, if_pos ho, if_pos ho]
      · rw [if_neg ht, if_neg ht, i]
    · rw [if_neg ho, i]
      unfold adN
      by_cases ht : t = f n s
      · rw [ht, if_neg ho, if_neg ho]
      · rw [if_neg ht]
theorem spL_ok {f : Nat → Nat → Nat} {W : Nat → Nat} {ok : Nat → Bool} {L : List Nat} {G : Nat} {D0 : Nat → Nat} : ∀ n t, spL f W ok L G D0 n t = if ok t = true then spL f W (fun _ => true) L G D0 n t else 0 := by
  intro n
  induction n with
  | zero => intro t; show 0 = if ok t = true then 0 else 0; split <;> rfl
  | succ n ih => intro t; exact spG_ok G _ _ ih t
/-- all that are counted are at most so many -/
theorem spN_le {L : List Nat} (o : lsOk L) {f : Nat → Nat → Nat} {W : Nat → Nat} {ok : Nat → Nat → Bool} {G : Nat} (hf : ∀ g p, g < G → p < L.length → f g (L.getD p 0) ∈ L) {n p : Nat} (hp : p < L.length) : spN f W ok L G n (L.getD p 0) ≤ smW W G ^ n := Nat.le_trans (smL_ge L.length p hp) (smL_spN o hf n).1
theorem pow_b {a b n m : Nat} (ha : a ≤ b) (hb : 1 ≤ b) (hn : n ≤ m) : a ^ n ≤ b ^ m := Nat.le_trans (Nat.pow_le_pow_left ha n) (Nat.pow_le_pow_right hb hn)
theorem smW_1 : ∀ n, smW (fun _ => 1) n = n := by
  intro n
  induction n with
  | zero => rfl
  | succ n ih => show smW (fun _ => 1) n + 1 = n + 1; rw [ih]
/-- those of them behind which a thing is there -/
def smT (L : List Nat) (D : Nat → Nat) (t : Nat) : Nat → Nat
  | 0 => 0
  | n + 1 => smT L D t n + (if (L.getD n 0 / 100).testBit t = true then D (L.getD n 0) else 0)
theorem smT_le {L : List Nat} {D : Nat → Nat} {t : Nat} : ∀ n, smT L D t n ≤ smL L D n := by
  intro n
  induction n with
  | zero => exact Nat.le_refl _
  | succ n ih => unfold smT smL; split <;> omega
