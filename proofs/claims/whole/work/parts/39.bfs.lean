/-! all that a set of goers can bring about, in the order in which it is found -/
/-- where a dive of g leads from a state, by a pool and a stand's breath and boldness -/
def nxt (B F : Nat → Int) (g s : Nat) : Nat := 100 * dThr (pdA B) (F (2 + g)) (F (8 + g)) g (s / 100) (s % 100) + (dPst (pdA B) (F (2 + g)) (F (8 + g)) g (s / 100) (s % 100)).toNat
theorem nxt_lt {B F : Nat → Int} (hp : pdOk (pdA B)) {g s : Nat} (hs : s < 6400) : nxt B F g s < 6400 := by
  have h1 := dThr_in hp (br := F (2 + g)) (bo := F (8 + g)) (g := g) (th := s / 100) (bd := s % 100) (by omega)
  have h2 := dPst_in (p := pdA B) (br := F (2 + g)) (bo := F (8 + g)) (g := g) (th := s / 100) (bd := s % 100)
  unfold nxt
  omega
def vis (L : List Nat) (x : Nat) : List Nat := if x ∈ L then L else L ++ [x]
def visG (f : Nat → Nat → Nat) (set s : Nat) : Nat → List Nat → List Nat
  | 0, L => L
  | n + 1, L => if set.testBit n = true then vis (visG f set s n L) (f n s) else visG f set s n L
def bfs (f : Nat → Nat → Nat) (set G : Nat) : Nat → Nat → List Nat → List Nat
  | 0, _, L => L
  | n + 1, k, L => if k < L.length then bfs f set G n (k + 1) (visG f set (L.getD k 0) G L) else L
/-- all lists that this is about: no state twice, all states below 6400 -/
def lsOk (L : List Nat) : Prop := L.Nodup ∧ (∀ x, x ∈ L → x < 6400) ∧ 0 < L.length
theorem lsOk.len {L : List Nat} (h : lsOk L) : L.length ≤ 6400 := by
  have := List.Nodup.length_le_of_subset h.1 (fun x hx => List.mem_range.2 (h.2.1 x hx))
  simpa using this
