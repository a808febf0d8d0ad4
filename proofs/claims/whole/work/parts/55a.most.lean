/-! from one stand come no more than 1600 states: 16 sets of things, each with any board -/
def m6 (b0 b1 b2 b3 b4 b5 : Bool) : Nat := b0.toNat + 2 * b1.toNat + 4 * b2.toNat + 8 * b3.toNat + 16 * b4.toNat + 32 * b5.toNat
theorem m6_bit : ∀ b0 b1 b2 b3 b4 b5 : Bool, (m6 b0 b1 b2 b3 b4 b5).testBit 0 = b0 ∧ (m6 b0 b1 b2 b3 b4 b5).testBit 1 = b1 ∧ (m6 b0 b1 b2 b3 b4 b5).testBit 2 = b2 ∧ (m6 b0 b1 b2 b3 b4 b5).testBit 3 = b3 ∧ (m6 b0 b1 b2 b3 b4 b5).testBit 4 = b4 ∧ (m6 b0 b1 b2 b3 b4 b5).testBit 5 = b5 ∧ m6 b0 b1 b2 b3 b4 b5 < 64 := by decide +kernel
def mk6 (b : Nat → Bool) : Nat := m6 (b 0) (b 1) (b 2) (b 3) (b 4) (b 5)
theorem mk6_lt (b : Nat → Bool) : mk6 b < 64 := (m6_bit _ _ _ _ _ _).2.2.2.2.2.2
theorem mk6_bit {b : Nat → Bool} {i : Nat} (h : i < 6) : (mk6 b).testBit i = b i := by
  have x := m6_bit (b 0) (b 1) (b 2) (b 3) (b 4) (b 5)
  have c : i = 0 ∨ i = 1 ∨ i = 2 ∨ i = 3 ∨ i = 4 ∨ i = 5 := by omega
  rcases c with c | c | c | c | c | c <;> subst c
  · exact x.1
  · exact x.2.1
  · exact x.2.2.1
  · exact x.2.2.2.1
  · exact x.2.2.2.2.1
  · exact x.2.2.2.2.2.1
theorem bit_ge {x i : Nat} (h : x < 64) (hi : ¬ (i < 6)) : x.testBit i = false := by
  have h' : x < 2 ^ 6 := h
  exact Nat.testBit_lt_two_pow (Nat.lt_of_lt_of_le h' (Nat.pow_le_pow_right (by decide) (show 6 ≤ i by omega)))
theorem bit_lt6 {x i : Nat} (h : x < 64) (hi : x.testBit i = true) : i < 6 := by
  by_cases c : i < 6
  · exact c
  · rw [bit_ge h c] at hi; exact absurd hi (by decide)
theorem eq64 {x y : Nat} (hx : x < 64) (hy : y < 64) (h : ∀ i, i < 6 → x.testBit i = y.testBit i) : x = y := by
  apply Nat.eq_of_testBit_eq
  intro i
  by_cases c : i < 6
  · exact h i c
  · rw [bit_ge hx c, bit_ge hy c]
theorem without_sb {a b : Nat} (ha : a < 64) : without a b = 0 ↔ Sb a b := by
  have e : ∀ i, i < 6 → (without a b).testBit i = (a.testBit i && !(b.testBit i)) := fun i hi => by
    unfold without
    rw [Nat.testBit_and, Nat.testBit_xor, show (2147483647 : Nat) = 2 ^ 31 - 1 by decide, Nat.testBit_two_pow_sub_one, decide_eq_true (show i < 31 by omega), Bool.xor_true]
  constructor
  · intro h i hi
    have i6 := bit_lt6 ha hi
    have := e i i6
    rw [h, Nat.zero_testBit, hi] at this
    cases hb : b.testBit i with
    | true => rfl
    | false => rw [hb] at this; exact absurd this (by decide)
  · intro h
    have lt : without a b < 64 := by
      unfold without
      exact Nat.lt_of_le_of_lt Nat.and_le_left ha
    refine eq64 lt (by decide) (fun i hi => ?_)
    rw [e i hi, Nat.zero_testBit]
    cases hq : a.testBit i with
    | false => rfl
    | true => rw [h i hq]; rfl
theorem thr_bit {p : PD} {rc : Int} {th : Nat} (i : Nat) : ∀ n, (thr p rc th n).testBit i = (th.testBit i || (decide (i < n) && (decide (p.2.1 i ≤ rc) && decide (without (p.2.2.2.1 i) th = 0)))) := by
  intro n
  induction n with
  | zero => show th.testBit i = _; simp
  | succ n ih =>
    unfold thr
    by_cases c : p.2.1 n ≤ rc ∧ without (p.2.2.2.1 n) th = 0
    · rw [if_pos c, Nat.testBit_or, ih, Nat.testBit_two_pow]
      by_cases e : n = i
      · subst e
        rw [decide_eq_true (show n = n from rfl), decide_eq_true (show n < n + 1 by omega), decide_eq_true c.1, decide_eq_true c.2]
        simp
      · by_cases l : i < n
        · rw [decide_eq_false e, decide_eq_true l, decide_eq_true (show i < n + 1 by omega), Bool.or_false]
        · rw [decide_eq_false e, decide_eq_false l, decide_eq_false (show ¬ (i < n + 1) by omega), Bool.or_false]
    · rw [if_neg c, ih]
      by_cases e : n = i
      · subst e
        have : (decide (p.2.1 n ≤ rc) && decide (without (p.2.2.2.1 n) th = 0)) = false := by
          by_cases c1 : p.2.1 n ≤ rc
          · rw [decide_eq_false (fun q => c ⟨c1, q⟩), Bool.and_false]
          · rw [decide_eq_false c1, Bool.false_and]
        rw [this, Bool.and_false, Bool.and_false]
      · by_cases l : i < n
        · rw [decide_eq_true l, decide_eq_true (show i < n + 1 by omega)]
        · rw [decide_eq_false l, decide_eq_false (show ¬ (i < n + 1) by omega)]
/-- things by depth: σ i is the i-th, τ t is where t stands -/
def Srt (f : Nat → Int) (σ τ : Nat → Nat) : Prop := (∀ t, t < 6 → τ t < 6 ∧ σ (τ t) = t) ∧ ∀ i j, i ≤ j → j < 6 → f (σ i) ≤ f (σ j)
theorem srt_ex (f : Nat → Int) : ∃ σ τ, Srt f σ τ := by
  have tr : ∀ a b c : Nat, decide (f a ≤ f b) = true → decide (f b ≤ f c) = true → decide (f a ≤ f c) = true := fun a b c h1 h2 => by
    have h1 := of_decide_eq_true h1
    have h2 := of_decide_eq_true h2
    exact decide_eq_true (Int.le_trans h1 h2)
  have to : ∀ a b : Nat, (decide (f a ≤ f b) || decide (f b ≤ f a)) = true := fun a b => by
    rcases Int.le_total (f a) (f b) with h | h
    · rw [decide_eq_true h]; rfl
    · rw [decide_eq_true h, Bool.or_true]
  have pw := List.pairwise_mergeSort (le := fun a b => decide (f a ≤ f b)) tr to (List.range 6)
  have ln : ((List.range 6).mergeSort (fun a b => decide (f a ≤ f b))).length = 6 := by rw [List.length_mergeSort, List.length_range]
  have mm : ∀ t, t < 6 → t ∈ (List.range 6).mergeSort (fun a b => decide (f a ≤ f b)) := fun t ht => by
    rw [List.mem_mergeSort]; exact List.mem_range.2 ht
  generalize (List.range 6).mergeSort (fun a b => decide (f a ≤ f b)) = l at pw ln mm
  have ex : ∀ t, ∃ i, t < 6 → i < 6 ∧ l.getD i 0 = t := fun t => by
    by_cases ht : t < 6
    · obtain ⟨i, hi, e⟩ := mem_getD (mm t ht)
      exact ⟨i, fun _ => ⟨by omega, e⟩⟩
    · exact ⟨0, fun q => absurd q ht⟩
  obtain ⟨τ, hτ⟩ := Classical.axiomOfChoice ex
  refine ⟨fun i => l.getD i 0, τ, fun t ht => hτ t ht, fun i j hij hj => ?_⟩
  by_cases e : i = j
  · rw [e]; exact Int.le_refl _
  · have hi' : i < l.length := by omega
    have hj' : j < l.length := by omega
    have := of_decide_eq_true (List.pairwise_iff_getElem.1 pw i j hi' hj' (by omega))
    show f (l.getD i 0) ≤ f (l.getD j 0)
    rw [List.getD_eq_getElem?_getD, List.getD_eq_getElem?_getD, List.getElem?_eq_getElem hi', List.getElem?_eq_getElem hj']
    exact this
theorem cut6 {g : Nat → Int} (rc : Int) : ∀ n, (∀ i j, i ≤ j → j < n → g i ≤ g j) → ∃ k, k ≤ n ∧ ∀ i, i < n → (g i ≤ rc ↔ i < k) := by
  intro n
  induction n with
  | zero => intro _; exact ⟨0, Nat.le_refl _, fun i hi => absurd hi (Nat.not_lt_zero _)⟩
  | succ n ih =>
    intro h
    by_cases c : g n ≤ rc
    · exact ⟨n + 1, Nat.le_refl _, fun i hi => ⟨fun _ => hi, fun _ => Int.le_trans (h i n (by omega) (by omega)) c⟩⟩
    · obtain ⟨k, k1, k2⟩ := ih (fun i j h1 h2 => h i j h1 (by omega))
      refine ⟨k, by omega, fun i hi => ?_⟩
      by_cases e : i = n
      · subst e; exact ⟨fun q => absurd q c, fun q => by omega⟩
      · exact k2 i (by omega)
theorem msk_in {k : Nat} (h : k ≤ 6) : 2 ^ k - 1 = 0 ∨ 2 ^ k - 1 ∈ q_M := by
  have c : k = 0 ∨ k = 1 ∨ k = 2 ∨ k = 3 ∨ k = 4 ∨ k = 5 ∨ k = 6 := by omega
  rcases c with c | c | c | c | c | c | c <;> subst c <;> decide
def psi (σ : Nat → Nat) (S : Nat) : Nat := mk6 (fun i => S.testBit (σ i))
def Ep (p : PD) (σ : Nat → Nat) (t0 X : Nat) : Nat := mk6 (fun i => t0.testBit (σ i) || (decide (σ i < p.1) && decide (psi σ (p.2.2.2.1 (σ i)) &&& X = psi σ (p.2.2.2.1 (σ i)))))
theorem qsb_dec (a S T : Nat) : decide (a &&& (S &&& T) = a) = (decide (a &&& S = a) && decide (a &&& T = a)) := by
  rw [← Bool.decide_and]
  apply decide_eq_decide.2
  rw [← sb_eq, ← sb_eq, ← sb_eq]
  exact ⟨fun h => ⟨fun i hi => sb_al S T i (h i hi), fun i hi => by
    have := h i hi
    rw [Nat.testBit_and] at this
    cases ht : T.testBit i with
    | true => rfl
    | false => rw [ht, Bool.and_false] at this; exact absurd this (by decide)⟩, fun h => sb_a h.1 h.2⟩
theorem Ep_sy (p : PD) (σ : Nat → Nat) (t0 : Nat) : Sy (Ep p σ t0) := by
  refine ⟨fun S T => ?_, fun S => mk6_lt _⟩
  refine eq64 (mk6_lt _) (Nat.lt_of_le_of_lt Nat.and_le_left (mk6_lt _)) (fun i hi => ?_)
  rw [Nat.testBit_and]
  unfold Ep
  rw [mk6_bit hi, mk6_bit hi, mk6_bit hi, qsb_dec]
  cases t0.testBit (σ i) <;> cases decide (σ i < p.1) <;> simp
theorem psi_bit {σ : Nat → Nat} {S i : Nat} (h : i < 6) : (psi σ S).testBit i = S.testBit (σ i) := mk6_bit h
theorem psi_sb {f : Nat → Int} {σ τ : Nat → Nat} (s : Srt f σ τ) {a b : Nat} (ha : a < 64) : Sb a b ↔ psi σ a &&& psi σ b = psi σ a := by
  rw [← sb_eq]
  constructor
  · intro h i hi
    have i6 := bit_lt6 (mk6_lt _) hi
    rw [psi_bit i6] at hi ⊢
    exact h _ hi
  · intro h t ht
    obtain ⟨t6, e⟩ := s.1 t (bit_lt6 ha ht)
    have := h (τ t) (by rw [psi_bit t6, e]; exact ht)
    rw [psi_bit t6, e] at this
    exact this
theorem psi_inv {f : Nat → Int} {σ τ : Nat → Nat} (s : Srt f σ τ) {a : Nat} (ha : a < 64) : mk6 (fun t => (psi σ a).testBit (τ t)) = a := by
  refine eq64 (mk6_lt _) ha (fun t ht => ?_)
  obtain ⟨t6, e⟩ := s.1 t ht
  rw [mk6_bit ht, psi_bit t6, e]
theorem psi_thr {p : PD} (hp : pdOk p) {σ τ : Nat → Nat} (s : Srt p.2.1 σ τ) {t0 th : Nat} (h0 : Sb t0 th) (rc : Int) : ∃ m, (m = 0 ∨ m ∈ q_M) ∧ psi σ (thr p rc th p.1) = psi σ th ||| (Ep p σ t0 (psi σ th) &&& m) := by
  obtain ⟨k, k1, k2⟩ := cut6 (g := fun i => p.2.1 (σ i)) rc 6 s.2
  refine ⟨2 ^ k - 1, msk_in k1, ?_⟩
  refine eq64 (mk6_lt _) (Nat.or_lt_two_pow (n := 6) (mk6_lt _) (Nat.lt_of_le_of_lt Nat.and_le_left (mk6_lt _))) (fun i hi => ?_)
  rw [Nat.testBit_or, Nat.testBit_and, psi_bit hi, psi_bit hi, thr_bit, Nat.testBit_two_pow_sub_one]
  unfold Ep
  rw [mk6_bit hi]
  cases ht : th.testBit (σ i) with
  | true => rfl
  | false =>
    have z : t0.testBit (σ i) = false := by
      cases hz : t0.testBit (σ i) with
      | false => rfl
      | true => rw [h0 _ hz] at ht; exact absurd ht (by decide)
    rw [z, Bool.false_or, Bool.false_or, Bool.false_or]
    by_cases c : σ i < p.1
    · have n64 := (hp.2.1 _ c).2.2
      have e1 : decide (p.2.1 (σ i) ≤ rc) = decide (i < k) := decide_eq_decide.2 (k2 i hi)
      have e2 : decide (without (p.2.2.2.1 (σ i)) th = 0) = decide (psi σ (p.2.2.2.1 (σ i)) &&& psi σ th = psi σ (p.2.2.2.1 (σ i))) := decide_eq_decide.2 ((without_sb n64).trans (psi_sb s n64))
      rw [e1, e2, decide_eq_true c, Bool.true_and, Bool.true_and, Bool.and_comm]
    · rw [decide_eq_false c, Bool.false_and, Bool.false_and, Bool.false_and]
/-- what dives can bring about -/
def Rh (B F : Nat → Int) (x : Nat) : Prop := ∀ P : Nat → Prop, P (stt F) → (∀ g s, P s → P (nxt B F g s)) → P x
theorem Rh.nx {B F : Nat → Int} {x : Nat} (h : Rh B F x) (g : Nat) : Rh B F (nxt B F g x) := fun P p0 ps => ps g x (h P p0 ps)
theorem nxt_dm {B F : Nat → Int} {g s : Nat} : nxt B F g s / 100 = thr (pdA B) (dRch (pdA B) (F (2 + g)) (F (8 + g)) g (s / 100) (s % 100)) (s / 100) (pdA B).1 := by
  have h2 := dPst_in (p := pdA B) (br := F (2 + g)) (bo := F (8 + g)) (g := g) (th := s / 100) (bd := s % 100)
  show (100 * dThr (pdA B) (F (2 + g)) (F (8 + g)) g (s / 100) (s % 100) + (dPst (pdA B) (F (2 + g)) (F (8 + g)) g (s / 100) (s % 100)).toNat) / 100 = dThr (pdA B) (F (2 + g)) (F (8 + g)) g (s / 100) (s % 100)
  omega
def bx (y : List Nat) (h : Nat → Nat) : List Nat := y.flatMap (fun z => (List.range 100).map (fun b => 100 * h z + b))
theorem bx_len (h : Nat → Nat) : ∀ y, (bx y h).length = 100 * y.length := by
  intro y
  induction y with
  | nil => rfl
  | cons a y ih =>
    unfold bx at ih ⊢
    rw [List.flatMap_cons, List.length_append, List.length_map, List.length_range, ih, List.length_cons]
    omega
theorem bx_mem {h : Nat → Nat} {y : List Nat} {z x : Nat} (hz : z ∈ y) (e : h z = x / 100) : x ∈ bx y h := by
  unfold bx
  rw [List.mem_flatMap]
  refine ⟨z, hz, List.mem_map.2 ⟨x % 100, List.mem_range.2 (Nat.mod_lt _ (by decide)), ?_⟩⟩
  rw [e]; omega
theorem most {B F : Nat → Int} (po : poolOk B) (so : stOk F) {L : List Nat} (nd : L.Nodup) (h : ∀ x, x ∈ L → Rh B F x) : L.length ≤ 1600 := by
  have hp := po.2.2.2.2.1
  obtain ⟨σ, τ, s⟩ := srt_ex (pdA B).2.1
  have s0 := (stt_mod so).2
  have t64 : stt F / 100 < 64 := by have := stt_lt so; omega
  have g : Gd (Ep (pdA B) σ (stt F / 100)) (psi σ (stt F / 100)) := by
    refine ⟨mk6_lt _, fun i hi => ?_⟩
    have i6 := bit_lt6 (mk6_lt _) hi
    rw [psi_bit i6] at hi
    unfold Ep
    rw [mk6_bit i6, hi]; rfl
  obtain ⟨l, l1, l2⟩ := q_16 (Ep_sy (pdA B) σ (stt F / 100)) g
  have inv : ∀ x, Rh B F x → x < 6400 ∧ Sb (stt F / 100) (x / 100) ∧ Rc (Ep (pdA B) σ (stt F / 100)) (psi σ (stt F / 100)) (psi σ (x / 100)) := fun x hx => by
    refine hx (fun x => x < 6400 ∧ Sb (stt F / 100) (x / 100) ∧ Rc (Ep (pdA B) σ (stt F / 100)) (psi σ (stt F / 100)) (psi σ (x / 100))) ⟨stt_lt so, sb_refl _, Rc.refl _ _⟩ ?_
    intro g s' ⟨h1, h2, h3⟩
    refine ⟨nxt_lt hp h1, ?_, ?_⟩
    · rw [nxt_dm]
      intro i hi
      rw [thr_bit, h2 i hi]; rfl
    · rw [nxt_dm]
      obtain ⟨m, m1, m2⟩ := psi_thr hp s h2 (dRch (pdA B) (F (2 + g)) (F (8 + g)) g (s' / 100) (s' % 100))
      rw [m2]
      exact fun P p0 ps => ps _ m m1 (h3 P p0 ps)
  have sub : L ⊆ bx l (fun y => mk6 (fun t => y.testBit (τ t))) := fun x hx => by
    obtain ⟨a1, a2, a3⟩ := inv x (h x hx)
    exact bx_mem (l2 _ a3) (psi_inv s (by omega))
  have := List.Nodup.length_le_of_subset nd sub
  rw [bx_len] at this
  omega
theorem vis_all {P : Nat → Prop} {L : List Nat} {x : Nat} (h : ∀ y, y ∈ L → P y) (hx : P x) : ∀ y, y ∈ vis L x → P y := by
  unfold vis
  split
  · exact h
  · intro y hy
    rcases List.mem_append.1 hy with q | q
    · exact h y q
    · rw [List.mem_singleton] at q; rw [q]; exact hx
theorem visG_all {P : Nat → Prop} {f : Nat → Nat → Nat} {set s : Nat} (hf : ∀ g, P (f g s)) : ∀ (n : Nat) (L : List Nat), (∀ y, y ∈ L → P y) → ∀ y, y ∈ visG f set s n L → P y := by
  intro n
  induction n with
  | zero => intro L h; exact h
  | succ n ih =>
    intro L h
    unfold visG
    split
    · exact vis_all (ih L h) (hf n)
    · exact ih L h
theorem bfs_all {P : Nat → Prop} {f : Nat → Nat → Nat} {set G : Nat} (hf : ∀ g s, P s → P (f g s)) : ∀ (n k : Nat) (L : List Nat), (∀ y, y ∈ L → P y) → ∀ y, y ∈ bfs f set G n k L → P y := by
  intro n
  induction n with
  | zero => intro k L h; exact h
  | succ n ih =>
    intro k L h
    unfold bfs
    split
    · rename_i hk
      exact ih _ _ (visG_all (fun g => hf g _ (h _ (getD_mem hk))) G L h)
    · exact h
theorem Lst_rh {B F : Nat → Int} (set : Nat) : ∀ x, x ∈ Lst B F set → Rh B F x :=
  bfs_all (P := Rh B F) (fun g _ h => h.nx g) _ _ _ (fun y hy => by rw [List.mem_singleton] at hy; rw [hy]; exact fun _ p0 _ => p0)
theorem Lst_le {B F : Nat → Int} (po : poolOk B) (so : stOk F) (set : Nat) : (Lst B F set).length ≤ 1600 := most po so (Lst_ok po so set).1 (Lst_rh set)
theorem Tree.rh {B F : Nat → Int} {set G : Nat} {L : List Nat} {ah by' dv : Nat → Nat} {k g : Nat} (t : Tree (nxt B F) set G L ah by' dv k g) (h0 : L.getD 0 0 = stt F) : ∀ (n p : Nat), p < n → p < L.length → Rh B F (L.getD p 0) := by
  intro n
  induction n with
  | zero => intro p hp; exact absurd hp (Nat.not_lt_zero _)
  | succ n ih =>
    intro p hp hl
    by_cases p0 : p = 0
    · subst p0; rw [h0]; exact fun _ q _ => q
    · obtain ⟨a1, a2, a3, a4, a5, a6⟩ := t.2.1 p (by omega) hl
      rw [a4]
      exact (ih _ (by omega) (by omega)).nx _
theorem Tree.le {B F : Nat → Int} {set G : Nat} {L : List Nat} {ah by' dv : Nat → Nat} {k g : Nat} (t : Tree (nxt B F) set G L ah by' dv k g) (po : poolOk B) (so : stOk F) (o : lsOk L) (h0 : L.getD 0 0 = stt F) : L.length ≤ 1600 :=
  most po so o.1 (fun x hx => by
    obtain ⟨p, hp, e⟩ := mem_getD hx
    rw [← e]
    exact t.rh h0 (p + 1) p (by omega) hp)
