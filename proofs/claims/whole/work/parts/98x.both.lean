/-! each call of both, in one form -/
theorem ex_up (n : Nat) : ∀ (d : Nat) (M : Me) (pc : Nat) (ls : List (Option PV)) (st : List PV) (h : Hp) (x : Option PV × Hp), ex n d M pc ls st h = some x → ex n (d + 1) M pc ls st h = some x := by
  induction n with
  | zero => intro d M pc ls st h x hx; simp [ex] at hx
  | succ n ih =>
    intro d M pc ls st h x hx
    unfold ex at hx ⊢
    split at hx
    · exact absurd hx (by simp)
    · rename_i i len hd
      split at hx
      · exact hx
      · split at hx
        · rename_i M' as rest hc
          split at hx
          · exact absurd hx (by simp)
          · rename_i d'
            split at hx
            · rename_i r h' hcl
              simp only [ih _ _ _ _ _ _ _ hcl]
              exact ih _ _ _ _ _ _ _ hx
            · exact absurd hx (by simp)
        · split at hx
          · exact ih _ _ _ _ _ _ _ hx
          · exact absurd hx (by simp)
theorem Rsp_up {d : Nat} {M : Me} {ls : List (Option PV)} {σ σ' : AS} {v : PV} (r : RSpec d M ls σ v σ') : RSpec (d + 1) M ls σ v σ' := by
  intro h Q x w k
  obtain ⟨n, a, b, e, q⟩ := r h Q x w k
  exact ⟨n, a, b, ex_up _ _ _ _ _ _ _ _ e, q⟩
theorem WFi {p : Prop} [Decidable p] {a b : AS} (h1 : p → WF a) (h2 : WF b) : WF (if p then a else b) := by
  split
  · rename_i q; exact h1 q
  · exact h2
theorem lw_v {A : Nat → Int} (po : poolOk A) {g : Int} (h : whyV A g = 0) : g.toNat < 6 := by
  unfold whyV at h
  have := po.2.2.2.1
  split at h <;> omega
theorem lw_g {A : Nat → Int} (po : poolOk A) {g : Int} (h : 0 ≤ g ∧ g < A 2) : g.toNat < 6 := by
  have := po.2.2.2.1
  omega
theorem lw_b {A : Nat → Int} {g n : Int} (h : whyB A g n = 0) : 0 ≤ n ∧ n ≤ 9 := by
  unfold whyB at h
  split at h
  · rename_i q; exact q.2
  · omega
theorem lw_n {t s n : Int} (h : nuV t s n = 0) : (0 ≤ s ∧ s ≤ 3) ∧ 0 ≤ n ∧ n ≤ 40 := by
  unfold nuV at h
  split at h
  · rename_i q
    split at h
    · rename_i q2; exact ⟨q.2, q2⟩
    · omega
  · omega
theorem lw_i {i : Int} (h : imV i = 0) : i.toNat < 2 := by
  unfold imV at h
  split at h <;> omega
theorem lw_r {σ : AS} {i : Int} (h : rsV σ i = 0) : i.toNat < 2 ∧ sH σ i.toNat = 1 := by
  unfold rsV at h
  split at h
  · rename_i q
    split at h
    · rename_i q2; exact ⟨by omega, q2⟩
    · omega
  · omega
theorem L_feed {d : Nat} {σ : AS} (w : WF σ) {a b c e f : Int} : ∃ y σ', WF σ' ∧ CSpec (d + 79) mX11_feed [some (.inr (.inr 200)), some (.inl a), some (.inl b), some (.inl c), some (.inl e), some (.inl f)] σ (.inl y) σ' ∧ RSpec (d + 79) mX12_feed [some (.inr (.inr 294)), some (.inl a), some (.inl b), some (.inl c), some (.inl e), some (.inl f), none, none] σ (.inl y) σ' := ⟨_, _, WFi (fun q => w.fd q) w, C_feed (d := d + 78), R_feed (d := d + 78)⟩
theorem L_fault {d : Nat} {σ : AS} (w : WF σ) {v : Int} : ∃ y σ', WF σ' ∧ CSpec (d + 79) mX11_fault [some (.inr (.inr 200)), some (.inl v)] σ (.inl y) σ' ∧ RSpec (d + 79) mX12_fault [some (.inr (.inr 294)), some (.inl v)] σ (.inl y) σ' := ⟨_, _, w, C_fault (d := d + 79), R_fault (d := d + 79)⟩
theorem L_thing {d : Nat} {σ : AS} (w : WF σ) {t wh : Int} (ht : i32 t) : ∃ y σ', WF σ' ∧ CSpec (d + 79) mX11_thing [some (.inr (.inr 200)), some (.inl t), some (.inl wh)] σ (.inl y) σ' ∧ RSpec (d + 79) mX12_thing [some (.inr (.inr 294)), some (.inl t), some (.inl wh)] σ (.inl y) σ' := ⟨_, _, w, C_thing (d := d + 78), R_thing (d := d + 77) ht⟩
theorem L_goer {d : Nat} {σ : AS} (w : WF σ) {t wh : Int} : ∃ y σ', WF σ' ∧ CSpec (d + 79) mX11_goer [some (.inr (.inr 200)), some (.inl t), some (.inl wh)] σ (.inl y) σ' ∧ RSpec (d + 79) mX12_goer [some (.inr (.inr 294)), some (.inl t), some (.inl wh)] σ (.inl y) σ' := ⟨_, _, w, C_goer (d := d + 75), R_goer (d := d + 75)⟩
theorem L_shows {d : Nat} {σ : AS} (w : WF σ) {t : Int} : ∃ y σ', WF σ' ∧ CSpec (d + 79) mX11_shows [some (.inr (.inr 200)), some (.inl t)] σ (.inl y) σ' ∧ RSpec (d + 79) mX12_shows [some (.inr (.inr 294)), some (.inl t)] σ (.inl y) σ' := ⟨_, _, w, C_shows (d := d + 75), R_shows (d := d + 75)⟩
theorem L_truthful {d : Nat} {σ : AS} (w : WF σ) : ∃ y σ', WF σ' ∧ CSpec (d + 79) mX11_truthful [some (.inr (.inr 200)), none, none] σ (.inl y) σ' ∧ RSpec (d + 79) mX12_truthful [some (.inr (.inr 294)), none, none] σ (.inl y) σ' := ⟨_, _, w, C_truthful (d := d + 75), R_truthful (d := d + 75)⟩
theorem L_dive {d : Nat} {σ : AS} (w : WF σ) {g : Int} : ∃ y σ', WF σ' ∧ CSpec (d + 79) mX11_dive [some (.inr (.inr 200)), some (.inl g), none] σ (.inl y) σ' ∧ RSpec (d + 79) mX12_dive [some (.inr (.inr 294)), some (.inl g)] σ (.inl y) σ' := ⟨_, _, WFi (fun q => w.nt (dvB_ok w.1 w.2.1 (lw_v w.1 q))) w, C_dive (d := d + 74), R_dive (d := d + 74)⟩
theorem L_say {d : Nat} {σ : AS} (w : WF σ) {g n : Int} : ∃ y σ', WF σ' ∧ CSpec (d + 79) mX11_say [some (.inr (.inr 200)), some (.inl g), some (.inl n), none] σ (.inl y) σ' ∧ RSpec (d + 79) mX12_say [some (.inr (.inr 294)), some (.inl g), some (.inl n), none] σ (.inl y) σ' := ⟨_, _, WFi (fun q => w.nt (syB_ok w.1 w.2.1 (lw_g w.1 (whyS_go q).1) (whyS_go q).2.1 (whyS_go q).2.2)) w, C_say (d := d + 74), R_say (d := d + 73)⟩
theorem L_wipe {d : Nat} {σ : AS} (w : WF σ) {t : Int} : ∃ y σ', WF σ' ∧ CSpec (d + 79) mX11_wipe [some (.inr (.inr 200)), some (.inl t), none] σ (.inl y) σ' ∧ RSpec (d + 79) mX12_wipe [some (.inr (.inr 294)), some (.inl t), none] σ (.inl y) σ' := ⟨_, _, WFi (fun _ => w.nt (wpB_ok w.2.1)) w, C_wipe (d := d + 76), R_wipe (d := d + 76)⟩
theorem L_breath {d : Nat} {σ : AS} (w : WF σ) {g n : Int} : ∃ y σ', WF σ' ∧ CSpec (d + 79) mX11_breath [some (.inr (.inr 200)), some (.inl g), some (.inl n), none] σ (.inl y) σ' ∧ RSpec (d + 79) mX12_breath [some (.inr (.inr 294)), some (.inl g), some (.inl n)] σ (.inl y) σ' := ⟨_, _, WFi (fun q => w.nt (brB_ok w.2.1 (lw_g w.1 q.1) q.2.1 q.2.2)) w, C_breath (d := d + 76), R_breath (d := d + 76)⟩
theorem L_bold {d : Nat} {σ : AS} (w : WF σ) {g n : Int} : ∃ y σ', WF σ' ∧ CSpec (d + 79) mX11_bold [some (.inr (.inr 200)), some (.inl g), some (.inl n), none, none] σ (.inl y) σ' ∧ RSpec (d + 79) mX12_bold [some (.inr (.inr 294)), some (.inl g), some (.inl n)] σ (.inl y) σ' := ⟨_, _, WFi (fun q => w.nt (boB_ok w.2.1 (lw_b q).1 (lw_b q).2)) w, C_bold (d := d + 76), R_bold (d := d + 76)⟩
theorem L_undo {d : Nat} {σ : AS} (w : WF σ) {n : Int} : ∃ y σ', WF σ' ∧ CSpec (d + 79) mX11_undo [some (.inr (.inr 200)), some (.inl n)] σ (.inl y) σ' ∧ RSpec (d + 79) mX12_undo [some (.inr (.inr 294)), some (.inl n), none] σ (.inl y) σ' := ⟨_, _, WFi (fun q => w.un q.1 q.2) w, C_undo (d := d + 77), R_undo (d := d + 77)⟩
theorem L_judge {d : Nat} {σ : AS} (w : WF σ) {t wh : Int} : ∃ y σ', WF σ' ∧ CSpec (d + 79) mX11_judge [some (.inr (.inr 200)), some (.inl t), some (.inl wh), none, none] σ (.inl y) σ' ∧ RSpec (d + 79) mX12_judge [some (.inr (.inr 294)), some (.inl t), some (.inl wh), none, none, none, none] σ (.inl y) σ' := ⟨_, _, w, C_judge (d := d + 72), R_judge (d := d + 71)⟩
theorem L_perform {d : Nat} {σ : AS} (w : WF σ) {t : Int} : ∃ y σ', WF σ' ∧ CSpec (d + 79) mX11_perform [some (.inr (.inr 200)), some (.inl t), none] σ (.inl y) σ' ∧ RSpec (d + 79) mX12_perform [some (.inr (.inr 294)), some (.inl t), none, none] σ (.inl y) σ' := ⟨_, _, WFi (fun _ => w.nt (rowD_ok w.1 _ _ _ w.2.1).1) w, C_perform (d := d + 72), R_perform (d := d + 71)⟩
theorem L_summer {d : Nat} {σ : AS} (w : WF σ) {sd t : Int} : ∃ y σ', WF σ' ∧ CSpec (d + 79) mX11_summer [some (.inr (.inr 200)), some (.inl sd), some (.inl t), none, none, none, none, none] σ (.inl y) σ' ∧ RSpec (d + 79) mX12_summer [some (.inr (.inr 294)), some (.inl sd), some (.inl t), none, none, none] σ (.inl y) σ' := ⟨_, _, WFi (fun _ => w.nt (sumD_ok w.1 _ _ _ _ w.2.1).1) w, C_summer (d := d + 73), R_summer (d := d + 72)⟩
theorem L_rows {d : Nat} {σ : AS} (w : WF σ) {t n : Int} : ∃ y σ', WF σ' ∧ CSpec (d + 79) mX11_rows [some (.inr (.inr 200)), some (.inl t), some (.inl n), none] σ (.inr (.inl y)) σ' ∧ RSpec (d + 79) mX12_rows [some (.inr (.inr 294)), some (.inl t), some (.inl n), none] σ (.inr (.inl y)) σ' := ⟨_, _, w, C_rows (d := d + 72), R_rows (d := d + 75)⟩
theorem L_needed {d : Nat} {σ : AS} (w : WF σ) {t : Int} : ∃ y σ', WF σ' ∧ CSpec (d + 79) mX11_needed [some (.inr (.inr 200)), some (.inl t), none, none, none] σ (.inl y) σ' ∧ RSpec (d + 79) mX12_needed [some (.inr (.inr 294)), some (.inl t), none, none] σ (.inl y) σ' := ⟨_, _, w, C_needed (d := d + 72), R_needed (d := d + 74)⟩
theorem L_fewest {d : Nat} {σ : AS} (w : WF σ) {t : Int} : ∃ y σ', WF σ' ∧ CSpec (d + 79) mX11_fewest [some (.inr (.inr 200)), some (.inl t), none, none, none] σ (.inl y) σ' ∧ RSpec (d + 79) mX12_fewest [some (.inr (.inr 294)), some (.inl t), none, none] σ (.inl y) σ' := ⟨_, _, w, C_fewest (d := d + 72), R_fewest (d := d + 74)⟩
theorem L_deepest {d : Nat} {σ : AS} (w : WF σ) {t : Int} (ht : i32 t) : ∃ y σ', WF σ' ∧ CSpec (d + 79) mX11_deepest [some (.inr (.inr 200)), some (.inl t), none, none, none] σ (.inl y) σ' ∧ RSpec (d + 79) mX12_deepest [some (.inr (.inr 294)), some (.inl t), none, none] σ (.inl y) σ' := ⟨_, _, w, C_deepest (d := d + 72) ht, R_deepest (d := d + 75)⟩
theorem L_shallowest {d : Nat} {σ : AS} (w : WF σ) {t : Int} (ht : i32 t) : ∃ y σ', WF σ' ∧ CSpec (d + 79) mX11_shallowest [some (.inr (.inr 200)), some (.inl t), none, none, none] σ (.inl y) σ' ∧ RSpec (d + 79) mX12_shallowest [some (.inr (.inr 294)), some (.inl t), none, none] σ (.inl y) σ' := ⟨_, _, w, C_shallowest (d := d + 72) ht, R_shallowest (d := d + 75)⟩
theorem L_numbersTold {d : Nat} {σ : AS} (w : WF σ) {t : Int} (ht : i32 t) : ∃ y σ', WF σ' ∧ CSpec (d + 79) mX11_numbersTold [some (.inr (.inr 200)), some (.inl t), none, none, none] σ (.inl y) σ' ∧ RSpec (d + 79) mX12_numbersTold [some (.inr (.inr 294)), some (.inl t), none, none, none, none] σ (.inl y) σ' := ⟨_, _, w, C_numbersTold (d := d + 72) ht, R_numbersTold (d := d + 75)⟩
theorem L_possible {d : Nat} {σ : AS} (w : WF σ) {t : Int} (ht : i32 t) : ∃ y σ', WF σ' ∧ CSpec (d + 79) mX11_possible [some (.inr (.inr 200)), some (.inl t)] σ (.inl y) σ' ∧ RSpec (d + 79) mX12_possible [some (.inr (.inr 294)), some (.inl t), none, none] σ (.inl y) σ' := ⟨_, _, w, C_possible (d := d + 72) ht, R_possible (d := d + 75)⟩
theorem L_stands {d : Nat} {σ : AS} (w : WF σ) {t : Int} (ht : i32 t) : ∃ y σ', WF σ' ∧ CSpec (d + 79) mX11_stands [some (.inr (.inr 200)), some (.inl t)] σ (.inl y) σ' ∧ RSpec (d + 79) mX12_stands [some (.inr (.inr 294)), some (.inl t)] σ (.inl y) σ' := ⟨_, _, w, C_stands (d := d + 72) ht, R_stands (d := d + 75)⟩
theorem L_posted {d : Nat} {σ : AS} (w : WF σ) {t : Int} : ∃ y σ', WF σ' ∧ CSpec (d + 79) mX11_posted [some (.inr (.inr 200)), some (.inl t), none, none] σ (.inr (.inl y)) σ' ∧ RSpec (d + 79) mX12_posted [some (.inr (.inr 294)), some (.inl t), none, none, none, none] σ (.inr (.inl y)) σ' := ⟨_, _, w, C_posted (d := d + 72), R_posted (d := d + 75)⟩
theorem L_whoPosted {d : Nat} {σ : AS} (w : WF σ) {t i : Int} : ∃ y σ', WF σ' ∧ CSpec (d + 79) mX11_whoPosted [some (.inr (.inr 200)), some (.inl t), some (.inl i), none, none, none] σ (.inl y) σ' ∧ RSpec (d + 79) mX12_whoPosted [some (.inr (.inr 294)), some (.inl t), some (.inl i), none, none, none, none] σ (.inl y) σ' := ⟨_, _, w, C_whoPosted (d := d + 72), R_whoPosted (d := d + 74)⟩
theorem L_suspects {d : Nat} {σ : AS} (w : WF σ) {t : Int} : ∃ y σ', WF σ' ∧ CSpec (d + 79) mX11_suspects [some (.inr (.inr 200)), some (.inl t), none, none, none] σ (.inl y) σ' ∧ RSpec (d + 79) mX12_suspects [some (.inr (.inr 294)), some (.inl t), none, none, none, none, none] σ (.inl y) σ' := ⟨_, _, w, C_suspects (d := d + 72), R_suspects (d := d + 74)⟩
theorem L_bolds {d : Nat} {σ : AS} (w : WF σ) {t g : Int} : ∃ y σ', WF σ' ∧ CSpec (d + 79) mX11_bolds [some (.inr (.inr 200)), some (.inl t), some (.inl g), none, none, none] σ (.inl y) σ' ∧ RSpec (d + 79) mX12_bolds [some (.inr (.inr 294)), some (.inl t), some (.inl g), none] σ (.inl y) σ' := ⟨_, _, w, C_bolds (d := d + 73), R_bolds (d := d + 74)⟩
theorem L_nexts {d : Nat} {σ : AS} (w : WF σ) {t g : Int} : ∃ y σ', WF σ' ∧ CSpec (d + 79) mX11_nexts [some (.inr (.inr 200)), some (.inl t), some (.inl g), none, none, none] σ (.inl y) σ' ∧ RSpec (d + 79) mX12_nexts [some (.inr (.inr 294)), some (.inl t), some (.inl g), none, none, none] σ (.inl y) σ' := ⟨_, _, w, C_nexts (d := d + 73), R_nexts (d := d + 74)⟩
theorem L_forces {d : Nat} {σ : AS} (w : WF σ) {t a b : Int} (ha : i32 a) (hb : i32 b) : ∃ y σ', WF σ' ∧ CSpec (d + 79) mX11_forces [some (.inr (.inr 200)), some (.inl t), some (.inl a), some (.inl b), none] σ (.inl y) σ' ∧ RSpec (d + 79) mX12_forces [some (.inr (.inr 294)), some (.inl t), some (.inl a), some (.inl b), none, none] σ (.inl y) σ' := ⟨_, _, w, C_forces (d := d + 72) ha hb, R_forces (d := d + 74)⟩
theorem L_best {d : Nat} {σ : AS} (w : WF σ) {t a b : Int} (ha : i32 a) (hb : i32 b) : ∃ y σ', WF σ' ∧ CSpec (d + 79) mX11_best [some (.inr (.inr 200)), some (.inl t), some (.inl a), some (.inl b), none, none] σ (.inl y) σ' ∧ RSpec (d + 79) mX12_best [some (.inr (.inr 294)), some (.inl t), some (.inl a), some (.inl b), none, none, none] σ (.inl y) σ' := ⟨_, _, w, C_best (d := d + 72) ha hb, R_best (d := d + 74)⟩
theorem L_power {d : Nat} {σ : AS} (w : WF σ) {a b : Int} (ha : i32 a) (hb : i32 b) : ∃ y σ', WF σ' ∧ CSpec (d + 79) mX11_power [some (.inr (.inr 200)), some (.inl a), some (.inl b), none, none, none] σ (.inl y) σ' ∧ RSpec (d + 79) mX12_power [some (.inr (.inr 294)), some (.inl a), some (.inl b), none, none] σ (.inl y) σ' := ⟨_, _, w, C_power (d := d + 72) ha hb, R_power (d := d + 74)⟩
theorem L_chance {d : Nat} {σ : AS} (w : WF σ) {t n wh : Int} : ∃ y σ', WF σ' ∧ CSpec (d + 79) mX11_chance [some (.inr (.inr 200)), some (.inl t), some (.inl n), some (.inl wh), none, none, none, none, none, none, none] σ (.inr (.inl y)) σ' ∧ RSpec (d + 79) mX12_chance [some (.inr (.inr 294)), some (.inl t), some (.inl n), some (.inl wh), none, none, none, none] σ (.inr (.inl y)) σ' := ⟨_, _, w, C_chance (d := d + 72), R_chance (d := d + 4)⟩
theorem L_likeliest {d : Nat} {σ : AS} (w : WF σ) {n : Int} : ∃ y σ', WF σ' ∧ CSpec (d + 79) mX11_likeliest [some (.inr (.inr 200)), some (.inl n), none, none, none, none, none, none, none] σ (.inl y) σ' ∧ RSpec (d + 79) mX12_likeliest [some (.inr (.inr 294)), some (.inl n), none, none] σ (.inl y) σ' := ⟨_, _, w, C_likeliest (d := d + 72), R_likeliest (d := d + 74)⟩
theorem L_numbers {d : Nat} {σ : AS} (w : WF σ) {t s n : Int} : ∃ y σ', WF σ' ∧ CSpec (d + 79) mX11_numbers [some (.inr (.inr 200)), some (.inl t), some (.inl s), some (.inl n)] σ (.inl y) σ' ∧ RSpec (d + 79) mX12_numbers [some (.inr (.inr 294)), some (.inl t), some (.inl s), some (.inl n), none] σ (.inl y) σ' := ⟨_, _, WFi (fun q => w.nu (lw_n q).1 (lw_n q).2) w, C_numbers (d := d + 77), R_numbers (d := d + 77)⟩
theorem L_write {d : Nat} {σ : AS} (w : WF σ) {t i v : Int} : ∃ y σ', WF σ' ∧ CSpec (d + 79) mX11_write [some (.inr (.inr 200)), some (.inl t), some (.inl i), some (.inr (.inl v)), none] σ (.inr (.inl y)) σ' ∧ RSpec (d + 79) mX12_write [some (.inr (.inr 294)), some (.inl t), some (.inl i), some (.inr (.inl v)), none, none] σ (.inr (.inl y)) σ' := ⟨_, _, WFi (fun _ => w.wr) w, C_write (d := d + 77), R_write (d := d + 77)⟩
theorem L_image {d : Nat} {σ : AS} (w : WF σ) {i : Int} : ∃ y σ', WF σ' ∧ CSpec (d + 79) mX11_image [some (.inr (.inr 200)), some (.inl i)] σ (.inl y) σ' ∧ RSpec (d + 79) mX12_image [some (.inr (.inr 294)), some (.inl i), none] σ (.inl y) σ' := ⟨_, _, WFi (fun q => w.im (lw_i q)) w, C_image (d := d + 78), R_image (d := d + 78)⟩
theorem L_restore {d : Nat} {σ : AS} (w : WF σ) {i : Int} : ∃ y σ', WF σ' ∧ CSpec (d + 79) mX11_restore [some (.inr (.inr 200)), some (.inl i)] σ (.inl y) σ' ∧ RSpec (d + 79) mX12_restore [some (.inr (.inr 294)), some (.inl i), none] σ (.inl y) σ' := ⟨_, _, WFi (fun q => w.rs (lw_r q).1 (lw_r q).2) w, C_restore (d := d + 78), R_restore (d := d + 78)⟩
theorem L_count {d : Nat} {σ : AS} (w : WF σ) {wh : Int} : ∃ y σ', WF σ' ∧ CSpec (d + 79) mX11_count [some (.inr (.inr 200)), some (.inl wh)] σ (.inl y) σ' ∧ RSpec (d + 79) mX12_count [some (.inr (.inr 294)), some (.inl wh)] σ (.inl y) σ' := ⟨_, _, w, C_count (d := d + 77), R_count (d := d + 77)⟩
theorem L_soonest {d : Nat} {σ : AS} (w : WF σ) {t s : Int} (hs : i32 s) : ∃ y σ', WF σ' ∧ CSpec (d + 79) mX11_soonest [some (.inr (.inr 200)), some (.inl t), some (.inl s), none, none] σ (.inl y) σ' ∧ RSpec (d + 79) mX12_soonest [some (.inr (.inr 294)), some (.inl t), some (.inl s)] σ (.inl y) σ' := by
  obtain ⟨v, c, r⟩ := B_soonest (d := d + 72) w (t := t) (s := s) hs
  exact ⟨v, σ, w, c, Rsp_up r⟩
theorem L_way {d : Nat} {σ : AS} (w : WF σ) {t s i : Int} (hs : i32 s) : ∃ y σ', WF σ' ∧ CSpec (d + 79) mX11_way [some (.inr (.inr 200)), some (.inl t), some (.inl s), some (.inl i), none, none] σ (.inl y) σ' ∧ RSpec (d + 79) mX12_way [some (.inr (.inr 294)), some (.inl t), some (.inl s), some (.inl i)] σ (.inl y) σ' := by
  obtain ⟨v, c, r⟩ := B_way (d := d + 72) w (t := t) (s := s) (i := i) hs
  exact ⟨v, σ, w, c, r⟩
theorem L_tells {d : Nat} {σ : AS} (w : WF σ) {n s : Int} (hs : i32 s) : ∃ y σ', WF σ' ∧ CSpec (d + 79) mX11_tells [some (.inr (.inr 200)), some (.inl n), some (.inl s), none] σ (.inl y) σ' ∧ RSpec (d + 79) mX12_tells [some (.inr (.inr 294)), some (.inl n), some (.inl s)] σ (.inl y) σ' := by
  obtain ⟨v, c, r⟩ := B_tells (d := d + 72) w (n := n) (s := s) hs
  exact ⟨v, σ, w, c, Rsp_up r⟩
theorem L_tellsBy {d : Nat} {σ : AS} (w : WF σ) {n s i : Int} (hs : i32 s) : ∃ y σ', WF σ' ∧ CSpec (d + 79) mX11_tellsBy [some (.inr (.inr 200)), some (.inl n), some (.inl s), some (.inl i), none] σ (.inl y) σ' ∧ RSpec (d + 79) mX12_tellsBy [some (.inr (.inr 294)), some (.inl n), some (.inl s), some (.inl i)] σ (.inl y) σ' := by
  obtain ⟨v, c, r⟩ := B_tellsBy (d := d + 72) w (n := n) (s := s) (i := i) hs
  exact ⟨v, σ, w, c, r⟩
theorem L_lists {d : Nat} {σ : AS} (w : WF σ) {t th s : Int} (hs : i32 s) : ∃ y σ', WF σ' ∧ CSpec (d + 79) mX11_lists [some (.inr (.inr 200)), some (.inl t), some (.inl th), some (.inl s), none, none, none, none] σ (.inl y) σ' ∧ RSpec (d + 79) mX12_lists [some (.inr (.inr 294)), some (.inl t), some (.inl th), some (.inl s), none, none, none, none] σ (.inl y) σ' := B_lists (d := d + 72) w hs
