section Sim11
variable {D : va_G} {b0 : Nat} {cA : Nat → ClassId} {av : Nat → Value} {adK adV : Nat → Nat} {L : Nat} {xs : Nat → Int32} {p : Program} {l : Launch} {e : Env} {R : Room} {s : State} {m : MethodId} {args : Array Value} {below : List Frame} {meth : Method} {c : Code} {M : Me} {Q : State → Prop} {s0 pc len nL mc ms : Nat} {ls : List (Option PV)} {st t : List PV} {h : Hp} {H : Heap} {locs : List Loc} {cells slots : Nat} {la : Array Slot} {x : Nx}
theorem drop_facts {n : Nat} {v : PV} {u : List PV} (h1 : 1 ≤ n) (hu : st.drop (n - 1) = v :: u) : st.drop n = u ∧ st.take n = st.take (n - 1) ++ [v] ∧ (st.take (n - 1)).length = n - 1 := by
  have hlt : n - 1 < st.length := by
    have h2 : (st.drop (n - 1)).length = (v :: u).length := by rw [hu]
    rw [List.length_drop, List.length_cons] at h2
    omega
  have e0 : n - 1 + 1 = n := by omega
  have e1 := List.drop_eq_getElem_cons hlt
  rw [hu, e0] at e1
  injection e1 with e2 e3
  refine ⟨e3.symm, ?_, by rw [List.length_take]; omega⟩
  have e4 := List.take_succ_eq_append_getElem hlt
  rw [e0, ← e2] at e4
  exact e4
theorem st_split {n : Nat} {v : PV} {u : List PV} (hu : st.drop (n - 1) = v :: u) : st.map (cv av) = (((st.take (n - 1)).reverse).map (cv av)).reverse ++ cv av v :: u.map (cv av) := by
  have e1 : st = st.take (n - 1) ++ (v :: u) := by rw [← hu]; exact (List.take_append_drop _ _).symm
  have e2 : st.map (cv av) = (st.take (n - 1)).map (cv av) ++ (v :: u).map (cv av) := by rw [← List.map_append, ← e1]
  rw [e2, List.map_reverse, List.reverse_reverse]
  rfl
theorem s_call {i : Instr} {n d : Nat} {M' : Me} {as rest : List PV} {r1 : Option PV} {h1 : Hp} (F : Fx D b0 cA av adK adV L xs p R s m args meth c M) (IH : SIM D b0 cA av adK adV L xs l n) (hd : decode M.2.2.1 pc = .ok (i, len)) (hc : cll (tbl M.1) i len st h = some (M', as, rest)) (hex : ex n d M' 0 (ent M'.2.2.2.1 as) [] h = some (r1, h1)) (hfr : d + 2 ≤ R.frames) (hlo : 64 * (d + 2) ≤ R.locals) (hRc : b0 + hN h1 ≤ s.heap.size + R.cells) (hRs : hS h1 ≤ s0 + R.slots)
    (kk : Go D b0 cA av L xs p l e R s m args below meth c M s0 Q (pc + 3, ls, psh r1 rest, h1)) : Go D b0 cA av L xs p l e R s m args below meth c M s0 Q (pc, ls, st, h) := by
  have F' := F
  obtain ⟨F1, F2, F3, F4, F5, F6, F7, F8, F9, F10, F11, F12⟩ := F'
  have hg := ex_grow _ _ _ _ _ _ _ _ _ hex
  intro H locs cells slots la S
  dsimp only at S
  refine W_size (fun hz => ?_)
  have e1 := S.2.2.2.2.2.2.2.1
  have e2 := S.2.2.2.2.2.2.2.2.1
  have hroom : cells + (hN h1 - hN h) ≤ R.cells ∧ slots + (hS h1 - hS h) ≤ R.slots := by constructor <;> omega
  have hMet : MF M' → (exl as.reverse).length ≤ M'.2.2.2.1 → (∀ v ∈ as, v ∈ st) → Met l M'.2.1 (wsM M') (rmM d (hN h1 - hN h) (hS h1 - hS h)) (PC D b0 cA av adK adV L xs as h) (QC D b0 cA av L xs r1 h1) (hN h1 - hN h) (hS h1 - hS h) (fun q => b0 ≤ q) := fun hM hl hs => met_of IH hex hM hl F10 (fun v hv => S.2.2.1 v (hs v hv)) S.2.2.2.2.1 S.2.2.2.2.2.1 S.2.2.2.2.2.2.2.2.2
  have hrm : MF M' → (rmM d (hN h1 - hN h) (hS h1 - hS h)).frames + 1 ≤ R.frames ∧ 8 + (M'.2.2.2.1 + 11) + (rmM d (hN h1 - hN h) (hS h1 - hS h)).locals ≤ R.locals := by
    intro hM
    have := hM.2.2.2.2.1
    constructor
    · show d + 1 + 1 ≤ R.frames; omega
    · show 8 + (M'.2.2.2.1 + 11) + 64 * (d + 1) ≤ R.locals; omega
  have hfix : CallFix p m c M.2.2.1 M.2.2.2.1 s args TG (cn M.1) := ⟨F1, F2, F4, F5, F7⟩
  unfold cll at hc
  split at hc
  · rename_i k
    split at hc
    · rename_i kd n' M0 hl
      split at hc
      · rename_i a u hu
        split at hc
        · rename_i hcond
          obtain ⟨rfl, hkd, hn1, hk, hokr, hel⟩ := hcond
          cases hc
          obtain ⟨d1, d2, d3⟩ := drop_facts hn1 hu
          have h8 := sum_okr F10.1 hokr
          have hcf := cal_ok hl
          dsimp only at hcf
          have hsp := st_split (av := av) hu
          rcases hcf with ⟨q, -⟩ | ⟨q, -⟩ | ⟨hM, hcf⟩
          · omega
          · omega
          · have hv : ∀ v ∈ st.take n', v ∈ st := fun v hv => List.mem_of_mem_take hv
            have hr : ∀ v ∈ st.drop n', v ∈ st := fun v hv => List.mem_of_mem_drop hv
            have hrev : (st.take n').reverse.map (cv av) = av a :: ((st.take (n' - 1)).reverse).map (cv av) := by
              rw [d2, List.reverse_append]; rfl
            have hlenA : (((st.take (n' - 1)).reverse).map (cv av)).length = n' - 1 := by rw [List.length_map, List.length_reverse]; exact d3
            rcases hcf with ⟨rfl, c1, c2, c3, c4, c5⟩ | ⟨rfl, ⟨host, c1⟩, c2, c3, c4, c5⟩ | ⟨rfl, -⟩ | ⟨rfl, -⟩ | ⟨rfl, -⟩ | ⟨rfl, -⟩
            · obtain ⟨b, hb, hcell⟩ := recv_ok F S hk c5
              rw [hM.2.2.2.2.2.1] at hcell
              rw [hb] at hrev
              refine s_after (rest := st.drop n') (va_runV (As := ((st.take (n' - 1)).reverse).map (cv av)) (rest := (st.drop n').map (cv av)) (b := b) (C := M'.2.1.cls) hfix (hMet hM hel hv) ⟨callB_of (n' - 1) F7 (wsM_good hM) rfl rfl rfl (F7 _ hM.2.1) (F7 _ c1) ⟨hM.2.2.2.1.1, hM.2.2.2.1.2, c4⟩ (hrm hM), F7 _ c2, F7 _ c3⟩ ⟨PC_blind, hcell, fun U hU hW => ?_⟩ rfl hlenA S.1.2.1 ?_ (by show 2 * 0 + _ ≤ 8; omega) hd hroom) hg S hr kk
              · have := PC_here (as := st.take n') F S hz U hU hW
                rw [hrev] at this
                exact this
              · show st.map (cv av) = _
                rw [hsp, d1]
                show _ ++ av a :: _ = _
                rw [hb]
            · obtain ⟨b, hb, hcell⟩ := recv_ok F S hk c5
              rw [hM.2.2.2.2.2.1] at hcell
              rw [hb] at hrev
              refine s_after (rest := st.drop n') (va_runVN (As := ((st.take (n' - 1)).reverse).map (cv av)) (rest := (st.drop n').map (cv av)) (b := b) (C := M'.2.1.cls) hfix (hMet hM hel hv) ⟨va_cnB (n' - 1) F7 (wsM_good hM) rfl rfl rfl (F9.2.2.2.2.2.2.2.2.1 _ c1) (F7 _ hM.2.1) ⟨hM.2.2.2.1.1, hM.2.2.2.1.2, c4⟩ (hrm hM), F7 _ c2, F7 _ c3⟩ ⟨PC_blind, hcell, fun U hU hW => ?_⟩ rfl hlenA S.1.2.1 ?_ (by show 2 * 0 + _ ≤ 8; omega) hd hroom) hg S hr kk
              · have := PC_here (as := st.take n') F S hz U hU hW
                rw [hrev] at this
                exact this
              · show st.map (cv av) = _
                rw [hsp, d1]
                show _ ++ av a :: _ = _
                rw [hb]
            · omega
            · omega
            · omega
            · omega
        · cases hc
      · cases hc
    · cases hc
  · rename_i k
    split at hc
    · rename_i kd n' M0 hl
      split at hc
      · rename_i a u hu
        split at hc
        · rename_i hcond
          obtain ⟨rfl, hkd, hn1, hk, hokr, hel⟩ := hcond
          cases hc
          obtain ⟨d1, d2, d3⟩ := drop_facts hn1 hu
          have h8 := sum_okr F10.1 hokr
          have hcf := cal_ok hl
          dsimp only at hcf
          have hsp := st_split (av := av) hu
          rcases hcf with ⟨q, -⟩ | ⟨q, -⟩ | ⟨hM, hcf⟩
          · omega
          · omega
          · have hv : ∀ v ∈ st.take n', v ∈ st := fun v hv => List.mem_of_mem_take hv
            have hr : ∀ v ∈ st.drop n', v ∈ st := fun v hv => List.mem_of_mem_drop hv
            have hrev : (st.take n').reverse.map (cv av) = av a :: ((st.take (n' - 1)).reverse).map (cv av) := by
              rw [d2, List.reverse_append]; rfl
            have hlenA : (((st.take (n' - 1)).reverse).map (cv av)).length = n' - 1 := by rw [List.length_map, List.length_reverse]; exact d3
            have hb := F10.1.2.1 a hk
            rw [hb] at hrev
            rcases hcf with ⟨rfl, -⟩ | ⟨rfl, -⟩ | ⟨rfl, c1, c2, c3, c4, c5⟩ | ⟨rfl, ⟨host, c1⟩, c2, c3, c4, c5⟩ | ⟨rfl, -⟩ | ⟨rfl, -⟩
            · omega
            · omega
            · refine s_after (rest := st.drop n') (va_runI (As := ((st.take (n' - 1)).reverse).map (cv av)) (rest := (st.drop n').map (cv av)) (b := b0 + (a - 200)) hfix (hMet hM hel hv) (cwI (n' - 1) F7 (wsM_good hM) (by unfold wsM; rw [c4]) rfl rfl (F7 _ hM.2.1) (F7 _ c1) (F7 _ c2) c3 ⟨hM.2.2.2.1.1, hM.2.2.2.1.2, c5⟩ (hrm hM)) ⟨PC_blind, fun U hU hW => ?_⟩ rfl hlenA S.1.2.1 ?_ (by show 2 * 0 + _ ≤ 8; omega) hd hroom) hg S hr kk
              · have := PC_here (as := st.take n') F S hz U hU hW
                rw [hrev] at this
                exact this
              · show st.map (cv av) = _
                rw [hsp, d1]
                show _ ++ av a :: _ = _
                rw [hb]
            · refine s_after (rest := st.drop n') (va_runIN (As := ((st.take (n' - 1)).reverse).map (cv av)) (rest := (st.drop n').map (cv av)) (b := b0 + (a - 200)) hfix (hMet hM hel hv) ⟨va_cnB (n' - 1) F7 (wsM_good hM) (by unfold wsM; rw [c4]) rfl rfl (F9.2.2.2.2.2.2.2.2.1 _ c1) (F7 _ hM.2.1) ⟨hM.2.2.2.1.1, hM.2.2.2.1.2, c5⟩ (hrm hM), c3, F7 _ c2⟩ ⟨PC_blind, fun U hU hW => ?_⟩ rfl hlenA S.1.2.1 ?_ (by show 2 * 0 + _ ≤ 8; omega) hd hroom) hg S hr kk
              · have := PC_here (as := st.take n') F S hz U hU hW
                rw [hrev] at this
                exact this
              · show st.map (cv av) = _
                rw [hsp, d1]
                show _ ++ av a :: _ = _
                rw [hb]
            · omega
            · omega
        · cases hc
      · cases hc
    · cases hc
  · rename_i k
    split at hc
    · rename_i kd n' M0 hl
      split at hc
      · rename_i hcond
        obtain ⟨rfl, hkd, hn1, hokr, hel⟩ := hcond
        cases hc
        have h8 := sum_okr F10.1 hokr
        have hcf := cal_ok hl
        dsimp only at hcf
        have hsp : st.map (cv av) = (((st.take n').reverse).map (cv av)).reverse ++ (st.drop n').map (cv av) := by
          rw [List.map_reverse, List.reverse_reverse, ← List.map_append, List.take_append_drop]
        rcases hcf with ⟨q, -⟩ | ⟨q, -⟩ | ⟨hM, hcf⟩
        · omega
        · omega
        · have hv : ∀ v ∈ st.take n', v ∈ st := fun v hv => List.mem_of_mem_take hv
          have hr : ∀ v ∈ st.drop n', v ∈ st := fun v hv => List.mem_of_mem_drop hv
          have hlenA : (((st.take n').reverse).map (cv av)).length = n' := by rw [List.length_map, List.length_reverse, List.length_take]; omega
          rcases hcf with ⟨rfl, -⟩ | ⟨rfl, -⟩ | ⟨rfl, -⟩ | ⟨rfl, -⟩ | ⟨rfl, c1, c2, c3⟩ | ⟨rfl, ⟨host, c1⟩, c2, c3⟩
          · omega
          · omega
          · omega
          · omega
          · exact s_after (rest := st.drop n') (va_runS (As := ((st.take n').reverse).map (cv av)) (rest := (st.drop n').map (cv av)) hfix (hMet hM hel hv) ⟨callB_of n' F7 (wsM_good hM) rfl rfl rfl (F7 _ hM.2.1) (F7 _ c1) ⟨hM.2.2.2.1.1, hM.2.2.2.1.2, c3⟩ (hrm hM), F7 _ c2⟩ ⟨PC_blind, fun U hU hW => PC_here (as := st.take n') F S hz U hU hW⟩ rfl hlenA S.1.2.1 hsp (by show 2 * 0 + _ ≤ 8; omega) hd hroom) hg S hr kk
          · exact s_after (rest := st.drop n') (va_runSN (As := ((st.take n').reverse).map (cv av)) (rest := (st.drop n').map (cv av)) hfix (hMet hM hel hv) ⟨va_cnB n' F7 (wsM_good hM) rfl rfl rfl (F9.2.2.2.2.2.2.2.2.1 _ c1) (F7 _ hM.2.1) ⟨hM.2.2.2.1.1, hM.2.2.2.1.2, c3⟩ (hrm hM), F7 _ c2, trivial⟩ ⟨PC_blind, fun U hU hW => PC_here (as := st.take n') F S hz U hU hW⟩ rfl hlenA S.1.2.1 hsp (by show 2 * 0 + _ ≤ 8; omega) hd hroom) hg S hr kk
      · cases hc
    · cases hc
  · cases hc
theorem sim (hL : L ≤ 100000) (n : Nat) : SIM D b0 cA av adK adV L xs l n := by
  induction n with
  | zero => intro d M pc ls st h r h' hx; simp [ex] at hx
  | succ n ih =>
    intro d M pc ls st h r h' hx hini p e R s m args below meth c s0 mc ms F hfr hlo hRc hRs hmc hms
    unfold ex at hx
    split at hx
    · cases hx
    · rename_i i len hd
      split at hx
      · rename_i r0 hr
        cases hx
        exact s_ret F hd hr hmc hms
      · split at hx
        · rename_i M' as rest hc
          split at hx
          · cases hx
          · rename_i d'
            split at hx
            · rename_i r1 h1 hcl
              have hg2 := ex_grow _ _ _ _ _ _ _ _ _ hx
              exact s_call F ih hd hc hcl (by omega) (by omega) (by omega) (by omega) (ih _ _ _ _ _ _ _ _ hx hini p e R s m args below meth c s0 mc ms F hfr hlo hRc hRs hmc hms)
            · cases hx
        · split at hx
          · rename_i pc' ls' st' h1 hs
            have hg2 := ex_grow _ _ _ _ _ _ _ _ _ hx
            refine sim_step F hini hL hd hs ?_ ?_ (ih _ _ _ _ _ _ _ _ hx hini p e R s m args below meth c s0 mc ms F hfr hlo hRc hRs hmc hms)
            · show b0 + hN h1 ≤ s.heap.size + R.cells
              omega
            · show hS h1 ≤ s0 + R.slots
              omega
          · cases hx
end Sim11
