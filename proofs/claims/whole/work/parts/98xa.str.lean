/-! texts of the program: their bytes lie still -/
def Sg (h : Hp) : Prop := hK h 90 = (21, 0) ∧ ∀ j, j < 26 → hK h (1 + j) = (14, 0) ∧ hK h (101 + j) = (20, slen.getD j 0) ∧ hR h (1 + j) 0 = 101 + j ∧ hI h (1 + j) 1 = 0 ∧ ∀ k, hI h (101 + j) k = (sbyz.getD j []).getD k 0
theorem Sg.eq {h h' : Hp} (s : Sg h) (e : ∀ a, a < 200 → hK h' a = hK h a ∧ ∀ k, hI h' a k = hI h a k ∧ hR h' a k = hR h a k) : Sg h' := by
  refine ⟨(e 90 (by omega)).1.trans s.1, fun j hj => ?_⟩
  obtain ⟨s1, s2, s3, s4, s5⟩ := s.2 j hj
  have e1 := e (1 + j) (by omega)
  have e2 := e (101 + j) (by omega)
  exact ⟨e1.1.trans s1, e2.1.trans s2, (e1.2 0).2.trans s3, (e1.2 1).1.trans s4, fun k => (e2.2 k).1.trans (s5 k)⟩
theorem Sg.cf {h h' : Hp} (s : Sg h) (f : Cfr h h') : Sg h' := s.eq (fun a ha => by have g := f.1 a (Or.inl ha); exact ⟨g.1, fun k => ⟨(g.2 k).1, (g.2 k).2.2⟩⟩)
theorem Sg.fp {P : Nat → Nat → Prop} {h h' : Hp} (s : Sg h) (f : Fp P h h') (hs : ∀ a k, P a k → 200 ≤ a) : Sg h' := s.eq (fun a ha => ⟨f.K a, fun k => ⟨f.I (fun q => by have := hs a k q; omega), f.R a k⟩⟩)
theorem Sg.rf {h h' : Hp} (s : Sg h) (f : Fp rfP h h') : Sg h' := s.fp f (fun a k q => by unfold rfP at q; omega)
theorem Sg.fa {S : Nat → Prop} {h h' : Hp} (s : Sg h) (f : Fa S h h') (hs : ∀ a, S a → 200 ≤ a) : Sg h' := s.eq (fun a ha => by
  have n : ¬ S a := fun q => by have := hs a q; omega
  exact ⟨f.K (by omega) n, fun k => ⟨f.I (by omega) n k, f.R (by omega) n k⟩⟩)
theorem sg_bytes : sbyt.map (fun l => l.map Int32.toInt) = sbyz := by decide +kernel
theorem sg_get (j k : Nat) : ((sbyt.getD j []).getD k 0).toInt = (sbyz.getD j []).getD k 0 := by
  rw [← sg_bytes]
  by_cases hj : j < sbyt.length
  · by_cases hk : k < sbyt[j].length
    · simp [List.getD, hj, hk]
    · simp [List.getD, hj, List.getElem?_eq_none (Nat.le_of_not_lt hk)]
  · simp [List.getD, List.getElem?_eq_none (Nat.le_of_not_lt hj)]
theorem Sg0 {L : Nat} {xs : Nat → Int32} : Sg (h00 L xs) := by
  obtain ⟨o1, o2, _⟩ := h00_old (L := L) (xs := xs)
  refine ⟨(o1 90 (by omega)).trans rfl, fun j hj => ?_⟩
  obtain ⟨o3, o4, o5⟩ := o2 j hj
  refine ⟨(o1 _ (by omega)).trans ?_, (o1 _ (by omega)).trans ?_, o3, o4, fun k => (o5 k).trans (sg_get j k)⟩
  · unfold okd; rw [if_pos (by omega)]
  · unfold okd; rw [if_neg (by omega), if_pos (by omega), show 101 + j - 101 = j by omega]
/-- a call of the class, or of the reference, that reads texts too -/
def CSpS (d : Nat) (M : Me) (ls : List (Option PV)) (σ : AS) (v : PV) (σ' : AS) : Prop := ∀ (h : Hp) (Q : Option PV → Hp → Prop), Sg h → CRep h σ → WF σ → (∀ h', CRep h' σ' → Cfr h h' → Q (some v) h') → WP d M 0 ls [] h Q
def RSpS (d : Nat) (M : Me) (ls : List (Option PV)) (σ : AS) (v : PV) (σ' : AS) : Prop := ∀ (h : Hp) (Q : Option PV → Hp → Prop), Sg h → RRep h σ → WF σ → (∀ h', RRep h' σ' → Fp rfP h h' → Q (some v) h') → WP d M 0 ls [] h Q
