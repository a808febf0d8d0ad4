/-! the order of finding, step by step -/
def upN (f : Nat → Nat) (k v : Nat) : Nat → Nat := fun j => if j = k then v else f j
theorem upN_eq (f : Nat → Nat) (k v : Nat) : upN f k v k = v := if_pos rfl
theorem upN_ne (f : Nat → Nat) {k j : Nat} (v : Nat) (h : j ≠ k) : upN f k v j = f j := if_neg h
theorem vis_in {L : List Nat} {x : Nat} (h : x ∈ L) : vis L x = L := if_pos h
theorem vis_out {L : List Nat} {x : Nat} (h : ¬ x ∈ L) : vis L x = L ++ [x] := if_neg h
theorem lsOk.vis {L : List Nat} (o : lsOk L) {x : Nat} (hx : x < 6400) : lsOk (vis L x) := by
  by_cases h : x ∈ L
  · rw [vis_in h]; exact o
  · rw [vis_out h]
    refine ⟨?_, fun y hy => ?_, by rw [List.length_append]; have := o.2.2; omega⟩
    · rw [List.nodup_append]
      refine ⟨o.1, by simp, fun a ha b hb => ?_⟩
      rw [List.mem_singleton] at hb
      intro e
      rw [e, hb] at ha
      exact h ha
    · rcases List.mem_append.1 hy with h1 | h1
      · exact o.2.1 y h1
      · rw [List.mem_singleton] at h1; rw [h1]; exact hx
theorem lsOk.lt {L : List Nat} (o : lsOk L) {x : Nat} (hx : x < 6400) (h : ¬ x ∈ L) : L.length < 6400 := by
  have := (o.vis hx).len
  rw [vis_out h, List.length_append] at this
  simp at this
  omega
theorem getD_mem {L : List Nat} {p : Nat} (h : p < L.length) : L.getD p 0 ∈ L := by
  rw [List.getD_eq_getElem?_getD, List.getElem?_eq_getElem h]
  exact List.getElem_mem h
theorem mem_getD {L : List Nat} {x : Nat} (h : x ∈ L) : ∃ p, p < L.length ∧ L.getD p 0 = x := by
  obtain ⟨p, hp, e⟩ := List.mem_iff_getElem.1 h
  exact ⟨p, hp, by rw [List.getD_eq_getElem?_getD, List.getElem?_eq_getElem hp]; exact e⟩
theorem getD_app {L : List Nat} {x p : Nat} (h : p < L.length) : (L ++ [x]).getD p 0 = L.getD p 0 := by
  rw [List.getD_eq_getElem?_getD, List.getD_eq_getElem?_getD, List.getElem?_append_left h]
theorem getD_end {L : List Nat} {x : Nat} : (L ++ [x]).getD L.length 0 = x := by
  rw [List.getD_eq_getElem?_getD, List.getElem?_append_right (Nat.le_refl _)]
  simp
theorem getD_inj {L : List Nat} (o : lsOk L) {p q : Nat} (hp : p < L.length) (hq : q < L.length) (e : L.getD p 0 = L.getD q 0) : p = q := by
  rw [List.getD_eq_getElem?_getD, List.getD_eq_getElem?_getD, List.getElem?_eq_getElem hp, List.getElem?_eq_getElem hq] at e
  exact (List.getElem_inj o.1).1 e
theorem getD_lt {L : List Nat} (o : lsOk L) {p : Nat} (h : p < L.length) : L.getD p 0 < 6400 := o.2.1 _ (getD_mem h)
theorem Tree.skip {f : Nat → Nat → Nat} {set G : Nat} {L : List Nat} {ah by' dv : Nat → Nat} {k g : Nat} (t : Tree f set G L ah by' dv k g) (h : set.testBit g = false) : Tree f set G L ah by' dv k (g + 1) := by
  obtain ⟨t1, t2, t3, t4⟩ := t
  refine ⟨t1, fun p h1 h2 => ?_, t3, fun k' g' h1 h2 h3 h4 => ?_⟩
  · obtain ⟨a1, a2, a3, a4, a5, a6⟩ := t2 p h1 h2
    exact ⟨a1, a2, a3, a4, a5, by omega⟩
  · by_cases hg : k' = k ∧ g' = g
    · rw [hg.2, h] at h3; exact absurd h3 (by decide)
    · exact t4 k' g' h1 h2 h3 (by omega)
theorem Tree.old {f : Nat → Nat → Nat} {set G : Nat} {L : List Nat} {ah by' dv : Nat → Nat} {k g : Nat} (t : Tree f set G L ah by' dv k g) (h : f g (L.getD k 0) ∈ L) : Tree f set G L ah by' dv k (g + 1) := by
  obtain ⟨t1, t2, t3, t4⟩ := t
  refine ⟨t1, fun p h1 h2 => ?_, t3, fun k' g' h1 h2 h3 h4 => ?_⟩
  · obtain ⟨a1, a2, a3, a4, a5, a6⟩ := t2 p h1 h2
    exact ⟨a1, a2, a3, a4, a5, by omega⟩
  · by_cases hg : k' = k ∧ g' = g
    · obtain ⟨rfl, rfl⟩ := hg
      obtain ⟨p, hp, e⟩ := mem_getD h
      refine ⟨p, hp, e, ?_⟩
      by_cases p0 : p = 0
      · exact Or.inl p0
      · obtain ⟨a1, a2, a3, a4, a5, a6⟩ := t2 p (by omega) hp
        omega
    · exact t4 k' g' h1 h2 h3 (by omega)
theorem Tree.new {f : Nat → Nat → Nat} {set G : Nat} {L : List Nat} {ah by' dv : Nat → Nat} {k g : Nat} (t : Tree f set G L ah by' dv k g) (hk : k < L.length) (hg : g < G) (hs : set.testBit g = true) : Tree f set G (L ++ [f g (L.getD k 0)]) (upN ah L.length k) (upN by' L.length g) (upN dv L.length (dv k + 1)) k (g + 1) := by
  obtain ⟨t1, t2, t3, t4⟩ := t
  have e1 : ∀ (F : Nat → Nat) (v : Nat) {p : Nat}, p < L.length → upN F L.length v p = F p := fun F v p h => upN_ne F v (by omega)
  refine ⟨by rw [e1 _ _ (by omega)]; exact t1, fun p h1 h2 => ?_, fun p h1 h2 => ?_, fun k' g' h1 h2 h3 h4 => ?_⟩
  · rw [List.length_append, List.length_singleton] at h2
    by_cases hp : p = L.length
    · subst hp
      rw [upN_eq, upN_eq, upN_eq, getD_end, getD_app hk, e1 _ _ hk]
      exact ⟨hk, hs, hg, rfl, rfl, by omega⟩
    · obtain ⟨a1, a2, a3, a4, a5, a6⟩ := t2 p h1 (by omega)
      rw [e1 _ _ (by omega), e1 _ _ (by omega), e1 _ _ (by omega), getD_app (by omega), getD_app (by omega), e1 _ _ (by omega)]
      exact ⟨a1, a2, a3, a4, a5, by omega⟩
  · rw [List.length_append, List.length_singleton] at h2
    by_cases hp : p + 1 = L.length
    · rw [hp, upN_eq, upN_eq, e1 _ _ (by omega), e1 _ _ (by omega)]
      obtain ⟨a1, a2, a3, a4, a5, a6⟩ := t2 p h1 (by omega)
      omega
    · rw [e1 _ _ (by omega), e1 _ _ (by omega), e1 _ _ (by omega), e1 _ _ (by omega)]
      exact t3 p h1 (by omega)
  · rw [List.length_append, List.length_singleton] at h1
    by_cases hkl : k' = L.length
    · omega
    · by_cases hgg : k' = k ∧ g' = g
      · obtain ⟨rfl, rfl⟩ := hgg
        refine ⟨L.length, by rw [List.length_append, List.length_singleton]; omega, by rw [getD_end, getD_app (by omega)], Or.inr (Or.inr ⟨upN_eq _ _ _, by rw [upN_eq]; omega⟩)⟩
      · obtain ⟨p, hp, e, q⟩ := t4 k' g' (by omega) h2 h3 (by omega)
        refine ⟨p, by rw [List.length_append, List.length_singleton]; omega, by rw [getD_app hp, getD_app (by omega)]; exact e, ?_⟩
        rw [e1 _ _ hp, e1 _ _ hp]
        exact q
theorem Tree.next {f : Nat → Nat → Nat} {set G : Nat} {L : List Nat} {ah by' dv : Nat → Nat} {k : Nat} (t : Tree f set G L ah by' dv k G) : Tree f set G L ah by' dv (k + 1) 0 := by
  obtain ⟨t1, t2, t3, t4⟩ := t
  refine ⟨t1, fun p h1 h2 => ?_, t3, fun k' g' h1 h2 h3 h4 => t4 k' g' h1 h2 h3 (by omega)⟩
  obtain ⟨a1, a2, a3, a4, a5, a6⟩ := t2 p h1 h2
  exact ⟨a1, a2, a3, a4, a5, by omega⟩
theorem Tree.one (f : Nat → Nat → Nat) (set G x : Nat) (ah by' dv : Nat → Nat) (h : dv 0 = 0) : Tree f set G [x] ah by' dv 0 0 :=
  ⟨h, fun p h1 h2 => by simp at h2; omega, fun p h1 h2 => by simp at h2, fun k' g' _ _ _ h4 => by omega⟩
theorem visG_len (f : Nat → Nat → Nat) (set s : Nat) : ∀ (n : Nat) (L : List Nat), L.length ≤ (visG f set s n L).length ∧ ∀ p, p < L.length → (visG f set s n L).getD p 0 = L.getD p 0 := by
  intro n
  induction n with
  | zero => intro L; exact ⟨Nat.le_refl _, fun _ _ => rfl⟩
  | succ n ih =>
    intro L
    obtain ⟨a, b⟩ := ih L
    unfold visG
    split
    · unfold vis
      split
      · exact ⟨a, b⟩
      · refine ⟨by rw [List.length_append]; omega, fun p hp => ?_⟩
        rw [getD_app (by omega)]; exact b p hp
    · exact ⟨a, b⟩
theorem lsOk.vG {f : Nat → Nat → Nat} {set s : Nat} (hf : ∀ g, f g s < 6400) : ∀ (n : Nat) {L : List Nat}, lsOk L → lsOk (visG f set s n L) := by
  intro n
  induction n with
  | zero => intro L o; exact o
  | succ n ih =>
    intro L o
    have := ih o
    unfold visG
    split
    · exact this.vis (hf n)
    · exact this
theorem bfs_ok {f : Nat → Nat → Nat} {set G : Nat} (hf : ∀ g s, s < 6400 → f g s < 6400) : ∀ (n k : Nat) (L : List Nat), lsOk L → lsOk (bfs f set G n k L) := by
  intro n
  induction n with
  | zero => intro k L o; exact o
  | succ n ih =>
    intro k L o
    unfold bfs
    split
    · rename_i hk
      exact ih _ _ (o.vG (fun g => hf g _ (getD_lt o hk)) G)
    · exact o
theorem visG_E {f f' : Nat → Nat → Nat} {set s : Nat} : ∀ (n : Nat) (L : List Nat), (∀ g, g < n → f g s = f' g s) → visG f set s n L = visG f' set s n L := by
  intro n
  induction n with
  | zero => intro L _; rfl
  | succ n ih =>
    intro L e
    unfold visG
    rw [ih L (fun g hg => e g (by omega)), e n (by omega)]
theorem bfs_E {f f' : Nat → Nat → Nat} {set G : Nat} (hf : ∀ g s, s < 6400 → f g s < 6400) (e : ∀ g s, g < G → s < 6400 → f g s = f' g s) : ∀ (n k : Nat) (L : List Nat), lsOk L → bfs f set G n k L = bfs f' set G n k L := by
  intro n
  induction n with
  | zero => intro k L _; rfl
  | succ n ih =>
    intro k L o
    unfold bfs
    by_cases hk : k < L.length
    · rw [if_pos hk, if_pos hk]
      have hs := getD_lt o hk
      rw [ih _ _ (o.vG (fun g => hf g _ hs) G), visG_E G L (fun g hg => e g _ hg hs)]
    · rw [if_neg hk, if_neg hk]
theorem stt_lt {F : Nat → Int} (so : stOk F) : stt F < 6400 := by
  obtain ⟨o1, o2, o3, o4, o5⟩ := so
  unfold stt
  omega
theorem stt_mod {F : Nat → Int} (so : stOk F) : stt F % 100 = (F 0).toNat ∧ stt F / 100 = (F 1).toNat := by
  obtain ⟨o1, o2, o3, o4, o5⟩ := so
  unfold stt
  omega
theorem ls_one {x : Nat} (h : x < 6400) : lsOk [x] := ⟨by simp, fun y hy => by rw [List.mem_singleton] at hy; rw [hy]; exact h, by simp⟩
theorem Lst_ok {B F : Nat → Int} (po : poolOk B) (so : stOk F) (set : Nat) : lsOk (Lst B F set) := bfs_ok (fun g s hs => nxt_lt po.2.2.2.2.1 hs) _ _ _ (ls_one (stt_lt so))
