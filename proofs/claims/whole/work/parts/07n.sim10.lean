theorem TG_good {w : Cond} (h : w ∈ TG) : (w.onTables && w.keeps) = true ∨ ∃ ty, w = .arrayClass ty := good_of_word (List.mem_filter.mp h).2
/-- a method's words -/
def wsM (M : Me) : List Cond := .code M.2.1 M.2.2.1 M.2.2.2.1 M.2.2.2.2 :: TG
theorem wsM_good {M : Me} (hM : MF M) : GoodIn TG (wsM M) := by
  intro w hw
  rcases List.mem_cons.mp hw with rfl | hw
  · exact ⟨hM.1, TG_good hM.1⟩
  · exact ⟨hw, TG_good hw⟩
/-- what a method is called with -/
def PC (D : va_G) (b0 : Nat) (cA : Nat → ClassId) (av : Nat → Value) (adK adV : Nat → Nat) (L : Nat) (xs : Nat → Int32) (as : List PV) (h : Hp) : Array Value → State → Prop :=
  va_Pc (as.reverse.map (cv av)) (fun U => U.heap.size = b0 + hN h ∧ va_P D vwCl (wsl b0 av cA h) U.heap ∧ Cx D b0 cA av adK adV L xs U)
theorem PC_blind {D : va_G} {b0 : Nat} {cA : Nat → ClassId} {av : Nat → Value} {adK adV : Nat → Nat} {L : Nat} {xs : Nat → Int32} {as : List PV} {h : Hp} : FrameBlind (PC D b0 cA av adK adV L xs as h) := by
  intro a U g mk q
  obtain ⟨q0, q1, q2, q3⟩ := q
  exact ⟨q0, q1, q2, q3.same rfl rfl⟩
/-- the room of a method that calls d deep -/
def rmM (d mc ms : Nat) : Room := { frames := d + 1, cells := mc, slots := ms, locals := 64 * (d + 1) }
/-- as Met.ofW, for a class some of whose methods are natives too -/
theorem Met_ofWF {l : Launch} {y : MethodName} {ws ws' : List Cond} {rm : Room} {Pc : Array Value → State → Prop} {Qc : Array Value → State → Outcome → State → Prop} {mc ms : Nat} {free : Addr → Prop} {cc : ByteArray} {maxL : Nat} {ret : Option FieldType}
    (hy : plainFor y = true) (hw : ws = Cond.code y cc maxL ret :: ws')
    (body : ∀ p e s m args below meth c s₁, BodyLoose p l y (headSpec ws rm) cc maxL ret e s m args below meth c s₁ → c.maxLocals = maxL → Pc args s →
      W p l e (headSpec ws rm).room s m args below meth c s.heap [] 0 0 (MQ below Qc args s mc ms free) (entryFrame m args maxL)) : Met l y ws rm Pc Qc mc ms free := by
  refine MetFree.of_bodySF (code := cc) (maxLocals := maxL) (ret := ret) hy (fun args s m h hn => ?_) (fun p e s m args below meth c s₁ B hml hP _ => ?_)
  · obtain ⟨meth, c, h1, h2, h3, h4, h5, h6, -, -⟩ := Cond.code_spec hn (atoms_spec (ws := ws) h _ (by rw [hw]; exact List.mem_cons_self))
    exact ⟨meth, c, h1, h2, h3, h4, h5, h6⟩
  · have hh0 : s₁.heap = s.heap := by rw [B.state]; rfl
    obtain ⟨t, a1, o, b1, b2, b3⟩ := body p e s m args below meth c s₁ B hml hP s₁ hh0 (Stand.of_body B)
    have htop : s₁.setTop (entryFrame m args maxL) = s₁.setTop (entryFrame m args maxL) := rfl
    exact ⟨t, o, a1, b1, b2, ⟨b3.1, b3.2⟩⟩
/-- THE SIMULATION: what the pure machine does in n steps, the JVM does -/
def SIM (D : va_G) (b0 : Nat) (cA : Nat → ClassId) (av : Nat → Value) (adK adV : Nat → Nat) (L : Nat) (xs : Nat → Int32) (l : Launch) (n : Nat) : Prop :=
  ∀ (d : Nat) (M : Me) (pc : Nat) (ls : List (Option PV)) (st : List PV) (h : Hp) (r : Option PV) (h' : Hp), ex n d M pc ls st h = some (r, h') → (100 ≤ M.1 → M.2.1.name = "<init>") →
  ∀ (p : Program) (e : Env) (R : Room) (s : State) (m : MethodId) (args : Array Value) (below : List Frame) (meth : Method) (c : Code) (s0 mc ms : Nat), Fx D b0 cA av adK adV L xs p R s m args meth c M → d + 1 ≤ R.frames → 64 * (d + 1) ≤ R.locals → b0 + hN h' ≤ s.heap.size + R.cells → hS h' ≤ s0 + R.slots → s.heap.size + mc = b0 + hN h' → ms + s0 = hS h' →
    Go D b0 cA av L xs p l e R s m args below meth c M s0 (MQ below (QC D b0 cA av L xs r h') args s mc ms (fun q => b0 ≤ q)) (pc, ls, st, h)
section Sim10
variable {D : va_G} {b0 : Nat} {cA : Nat → ClassId} {av : Nat → Value} {adK adV : Nat → Nat} {L : Nat} {xs : Nat → Int32} {p : Program} {l : Launch} {e : Env} {R : Room} {s : State} {m : MethodId} {args : Array Value} {below : List Frame} {meth : Method} {c : Code} {M : Me} {Q : State → Prop} {s0 pc len nL mc ms : Nat} {ls : List (Option PV)} {st t : List PV} {h : Hp} {H : Heap} {locs : List Loc} {cells slots : Nat} {la : Array Slot} {x : Nx}
theorem met_of {n d : Nat} {M' : Me} {as : List PV} {r1 : Option PV} {h1 : Hp} (IH : SIM D b0 cA av adK adV L xs l n) (hex : ex n d M' 0 (ent M'.2.2.2.1 as) [] h = some (r1, h1)) (hM : MF M') (hlen : (exl as.reverse).length ≤ M'.2.2.2.1) (hav : Av b0 av adK adV) (hok : ∀ v ∈ as, okv v) (hh : okh h) (ho : OldEq L xs h) (hk : ∀ a, 200 ≤ a → a < 200 + hN h → (hK h a).1 < 13 ∨ (20 ≤ (hK h a).1 ∧ (hK h a).1 ≤ 26)) :
    Met l M'.2.1 (wsM M') (rmM d (hN h1 - hN h) (hS h1 - hS h)) (PC D b0 cA av adK adV L xs as h) (QC D b0 cA av L xs r1 h1) (hN h1 - hN h) (hS h1 - hS h) (fun q => b0 ≤ q) := by
  have hg := ex_grow _ _ _ _ _ _ _ _ _ hex
  refine Met_ofWF (cc := M'.2.2.1) (maxL := M'.2.2.2.1) (ret := M'.2.2.2.2) hM.2.2.1 rfl ?_
  intro p e s m args below meth c s₁ B hml hv
  obtain ⟨rfl, hsz, hP, hC⟩ := hv
  have hts := atoms_spec (ws := wsM M') B.pre
  have hF : Fx D b0 cA av adK adV L xs p (headSpec (wsM M') (rmM d (hN h1 - hN h) (hS h1 - hS h))).room s m ((as.reverse.map (cv av)).toArray) meth c M' := by
    refine ⟨B.exec, B.bytes, B.returns, hml, ?_, fun _ => (name_of_methodNamed B.named B.method).1, fun w hw => hts w (List.mem_cons_of_mem _ hw), B.notSynchronized, hC, hav, ?_, ?_⟩
    · rw [hM.2.2.2.2.2.1]; exact findClass_of_methodNamed B.named
    · show 1 ≤ d + 1; omega
    · show 64 ≤ 64 * (d + 1); omega
  have G := IH d M' 0 (ent M'.2.2.2.1 as) [] h r1 h1 hex hM.2.2.2.2.2.2 p e (headSpec (wsM M') (rmM d (hN h1 - hN h) (hS h1 - hS h))).room s m ((as.reverse.map (cv av)).toArray) below meth c (hS h) (hN h1 - hN h) (hS h1 - hS h) hF (Nat.le_refl (d + 1)) (Nat.le_refl (64 * (d + 1))) (by show b0 + hN h1 ≤ s.heap.size + (hN h1 - hN h); omega) (by show hS h1 ≤ hS h + (hS h1 - hS h); omega) (by omega) (by omega)
  rw [lg_entry_eq]
  refine G s.heap [] 0 0 _ ⟨ent_LR hav.1 hlen, ent_ok hok, fun v hv => (by cases hv), hP, hh, ho, va_S.rf, (by show s.heap.size + 0 = b0 + hN h; omega), (by show 0 + hS h = hS h; omega), hk⟩
theorem s_after {r1 : Option PV} {h1 : Hp} {rest : List PV} {stV : List Value} {a : Array Value} (hr : va_Run p l e R s m args below meth c H locs cells slots (hN h1 - hN h) (hS h1 - hS h) (F0 m pc la stV) (rest.map (cv av)) (QC D b0 cA av L xs r1 h1 a) (fun q => b0 ≤ q)) (hg : hN h ≤ hN h1 ∧ hS h ≤ hS h1) (S : St D b0 cA av L xs s M.2.2.2.1 s0 ls st h H locs cells slots la) (hrest : ∀ v ∈ rest, v ∈ st)
    (kk : Go D b0 cA av L xs p l e R s m args below meth c M s0 Q (pc + 3, ls, psh r1 rest, h1)) : W p l e R s m args below meth c H locs cells slots Q (F0 m pc la stV) := by
  intro T hT X
  obtain ⟨v, st₀, t, T', L0, e0, X', hL, e1, e2, ⟨q1, q2, q3, q4, q5, q6, q7, q8⟩, stp'⟩ := hr T hT X
  have hv : v = r1.map (cv av) := by cases q1; rfl
  have hS0 := S.2.2.2.2.2.2.1
  obtain ⟨z1, z2⟩ := q8
  rw [e0] at z1 z2
  have K := kk T'.heap (locs ++ L0) (cells + (hN h1 - hN h)) (slots + (hS h1 - hS h)) la ⟨S.1, S.2.1, ?_, by rw [e1]; exact q2, q4, q5, ?_, ?_, ?_, q6⟩ T' rfl X'
  · obtain ⟨t2, a1, b1⟩ := K
    refine ⟨t2, stp' t2 ?_, b1⟩
    have es : (psh r1 rest).map (cv av) = v.toList ++ rest.map (cv av) := by
      rw [hv]
      cases r1 <;> rfl
    dsimp only at a1
    rw [es] at a1
    exact a1
  · intro w hw
    cases r1 with
    | none => exact S.2.2.1 w (hrest w hw)
    | some u =>
      rcases List.mem_cons.mp hw with rfl | hw
      · exact q7 _ rfl
      · exact S.2.2.1 w (hrest w hw)
  · refine ⟨Nat.le_trans hS0.1 (by rw [e1]; exact z1), fun q h2 h3 => ?_, fun q hq => ?_⟩
    · rw [e1, z2 q (Nat.lt_of_lt_of_le h2 hS0.1) h3]
      exact hS0.2.1 q h2 h3
    · rcases List.mem_append.mp hq with h2 | h2
      · exact hS0.2.2 q h2
      · exact hL q h2
  · have := S.2.2.2.2.2.2.2.1
    show s.heap.size + (cells + (hN h1 - hN h)) = b0 + hN h1
    omega
  · have := S.2.2.2.2.2.2.2.2.1
    show slots + (hS h1 - hS h) + s0 = hS h1
    omega
theorem PC_here {as : List PV} (F : Fx D b0 cA av adK adV L xs p R s m args meth c M) (S : St D b0 cA av L xs s M.2.2.2.1 s0 ls st h H locs cells slots la) (hz : H.size ≤ s.heap.size + cells) : ∀ U : State, U.heap = H → s.WarmedH U.vm → PC D b0 cA av adK adV L xs as h (as.reverse.map (cv av)).toArray U := by
  intro U hU hW
  have F9 := F.2.2.2.2.2.2.2.2.1
  have hS0 := S.2.2.2.2.2.2.1
  have hge := size_ge S.2.2.2.1 (Nat.le_trans F9.2.2.2.2.2.2.2.1 hS0.1)
  have e1 := S.2.2.2.2.2.2.2.1
  refine ⟨rfl, by rw [hU]; omega, by rw [hU]; exact S.2.2.2.1, F9.move hW (fun a h1 h2 => ?_) ?_⟩
  · rw [hU]; exact hS0.2.1 a h1 h2
  · rw [hU]; exact hS0.1
theorem vwCl_cn {ci : Nat} (h : ci < 13) : ∃ T N, vwCl[ci]? = some (cn ci, T, N) := by
  match ci, h with
  | 0, _ => exact ⟨_, _, rfl⟩
  | 1, _ => exact ⟨_, _, rfl⟩
  | 2, _ => exact ⟨_, _, rfl⟩
  | 3, _ => exact ⟨_, _, rfl⟩
  | 4, _ => exact ⟨_, _, rfl⟩
  | 5, _ => exact ⟨_, _, rfl⟩
  | 6, _ => exact ⟨_, _, rfl⟩
  | 7, _ => exact ⟨_, _, rfl⟩
  | 8, _ => exact ⟨_, _, rfl⟩
  | 9, _ => exact ⟨_, _, rfl⟩
  | 10, _ => exact ⟨_, _, rfl⟩
  | 11, _ => exact ⟨_, _, rfl⟩
  | 12, _ => exact ⟨_, _, rfl⟩
/-- the receiver of a call -/
theorem recv_ok {a ci : Nat} (F : Fx D b0 cA av adK adV L xs p R s m args meth c M) (S : St D b0 cA av L xs s M.2.2.2.1 s0 ls st h H locs cells slots la) (hk : (hK h a).1 = ci) (hci : ci < 13 ∨ ci = 14) : ∃ b, av a = .ref b ∧ ∃ cellB : Cell, H[b]? = some cellB ∧ cellB.vm.isStatics = false ∧ s.vm.findClass (cn ci) = some cellB.cls := by
  have F9 := F.2.2.2.2.2.2.2.2.1
  have F10 := F.2.2.2.2.2.2.2.2.2.1
  rcases hci with hci | rfl
  · obtain ⟨a1, a2⟩ := S.objAt hk hci
    obtain ⟨T, N, hc⟩ := vwCl_cn hci
    have he := wsl_at (b0 := b0) (av := av) (cA := cA) a1 a2
    rw [En_obj hk (by omega)] at he
    exact ⟨_, F10.1.2.1 a a1, va_recv F9.1 S.2.2.2.1 hc he⟩
  · have ha : 1 ≤ a ∧ a ≤ 26 := by
      rcases Nat.lt_or_ge a 200 with q | q
      · have hkd := S.2.2.2.2.2.1.1 a q
        rw [hkd] at hk
        by_cases h1 : 1 ≤ a ∧ a ≤ 26
        · exact h1
        · exfalso
          unfold okd at hk
          rw [if_neg h1] at hk
          split at hk
          · cases hk
          · split at hk
            · cases hk
            · split at hk <;> cases hk
      · rcases Nat.lt_or_ge a (200 + hN h) with q2 | q2
        · have := S.2.2.2.2.2.2.2.2.2 a q q2
          omega
        · have := S.2.2.2.2.1.2.2.1 a q2
          omega
    obtain ⟨j, rfl⟩ : ∃ j, a = 1 + j := ⟨a - 1, by omega⟩
    have hj : j < 26 := by omega
    obtain ⟨cell, c1, c2, c3, c4⟩ := (F9.2.1 j hj).1
    refine ⟨_, F10.2.1 j hj, cell, ?_, c2, c3⟩
    rw [S.2.2.2.2.2.2.1.2.1 (adK j) (Array.getElem?_eq_some_iff.mp c1).1 c4]
    exact c1
end Sim10
