/-! every condition of the reference has one outcome -/
def Ev0 (ev : Prop → Prop) : Prop := ev = fun P => P
theorem det_take {ρ : Type} {E : (ρ → Prop) → Prop} {c : Prop} {w1 w2 : ρ → Prop} (hc : c) (h1 : Det E w1) (hr : ∀ P : ρ, w2 P) : Det E (fun P => (c → w1 P) ∧ w2 P) := det_sw (fun _ => h1) (fun _ P => hr P) (fun n => absurd hc n)
theorem det_skip {ρ : Type} {E : (ρ → Prop) → Prop} {c : Prop} {w1 w2 : ρ → Prop} (hc : ¬ c) (h2 : Det E w2) : Det E (fun P => (c → w1 P) ∧ w2 P) := det_sw (fun q => absurd q hc) (fun q => absurd q hc) (fun _ => h2)
theorem det_call1 {ρ α : Type} {E : (ρ → Prop) → Prop} {w' : (α → Prop) → Prop} (h' : Det Ev1 w') {K : ρ → α → Prop} (h : ∀ a : α, Det E (fun P => K P a)) : Det E (fun P => w' (K P)) := det_call h' (fun ev' e => by
  obtain ⟨a, rfl⟩ := e
  exact h a)
theorem det_call2 {ρ α β : Type} {E : (ρ → Prop) → Prop} {w' : (α → β → Prop) → Prop} (h' : Det Ev2 w') {K : ρ → α → β → Prop} (h : ∀ (a : α) (b : β), Det E (fun P => K P a b)) : Det E (fun P => w' (K P)) := det_call h' (fun ev' e => by
  obtain ⟨a, b, rfl⟩ := e
  exact h a b)
theorem det_letn {ρ α : Type} {E : (ρ → Prop) → Prop} {x : α} {w : α → ρ → Prop} (h : ∀ y : α, Det E (w y)) : Det E (fun P => ∀ y : α, y = x → w y P) := det_let (h x)
theorem dt_wp_X12_answer {S : MST} : Det Ev1 (fun Post : Int32 → Prop => wp_X12_answer S Post) := by
  unfold wp_X12_answer
  exact det_leaf ⟨_, rfl⟩
theorem dl_wl_X12_has_6 {ρ : Type} {E : (ρ → Prop) → Prop} {S : MST} {K_82 : ρ → Int32 → Prop} {Pw : ρ → Int32 → Prop} (hK_82 : ∀ (x_0 : Int32), Det E (fun P => K_82 P x_0)) (hP : ∀ (x_0 : Int32), Det E (fun P => Pw P x_0)) : ∀ (n_ : Nat) (x6_1 : Int32) (x6_2 : Int32) (x6_3 : Int32) (x6_4 : Int32) (x6_5 : Int32), Det E (fun P => wl_X12_has_6 S (K_82 P) (Pw P) n_ x6_1 x6_2 x6_3 x6_4 x6_5) := by
  intro n_
  induction n_ with
  | zero => intro x6_1 x6_2 x6_3 x6_4 x6_5; unfold wl_X12_has_6; exact det_false
  | succ n_ ih_ =>
    intro x6_1 x6_2 x6_3 x6_4 x6_5
    unfold wl_X12_has_6
    refine det_and (fun _ => ?_)
    refine det_if (fun _ => ?_) (fun _ => ?_)
    · exact hK_82 _
    · refine det_if' (fun _ => ?_) (fun _ => ?_)
      · exact ih_ _ _ _ _ _
      · refine det_and (fun _ => ?_)
        refine det_if (fun _ => ?_) (fun _ => ?_)
        · exact ih_ _ _ _ _ _
        · refine det_and (fun _ => ?_)
          refine det_if' (fun _ => ?_) (fun _ => ?_)
          · exact ih_ _ _ _ _ _
          · refine det_and (fun _ => ?_)
            refine det_if' (fun _ => ?_) (fun _ => ?_)
            · exact ih_ _ _ _ _ _
            · exact ih_ _ _ _ _ _
theorem dt_wp_X12_has {S : MST} {a1 : Int32} {a2 : Int32} {a3 : Int32} : Det Ev1 (fun Post : Int32 → Prop => wp_X12_has S a1 a2 a3 Post) := by
  unfold wp_X12_has
  refine det_ex (fun n_6 => ?_)
  refine dl_wl_X12_has_6 (fun x82_4 => ?_) (fun _ => ?_) _ _ _ _ _ _
  · refine det_and (fun _ => ?_)
    exact det_leaf ⟨_, rfl⟩
  · exact det_leaf ⟨_, rfl⟩
theorem dl_wl_X12_assumes_2 {ρ : Type} {E : (ρ → Prop) → Prop}  {K_132 : ρ → MST → Prop} {Pw : ρ → MST → Prop} (hK_132 : ∀ (x_0 : MST), Det E (fun P => K_132 P x_0)) (hP : ∀ (x_0 : MST), Det E (fun P => Pw P x_0)) : ∀ (n_ : Nat) (S_2 : MST) (x2_1 : Int32) (x2_2 : Int32), Det E (fun P => wl_X12_assumes_2  (K_132 P) (Pw P) n_ S_2 x2_1 x2_2) := by
  intro n_
  induction n_ with
  | zero => intro S_2 x2_1 x2_2; unfold wl_X12_assumes_2; exact det_false
  | succ n_ ih_ =>
    intro S_2 x2_1 x2_2
    unfold wl_X12_assumes_2
    refine det_if (fun _ => ?_) (fun _ => ?_)
    · exact hK_132 _
    · refine det_if (fun _ => ?_) (fun _ => ?_)
      · refine det_call1 dt_wp_X12_has (fun r3 => ?_)
        refine det_if (fun _ => ?_) (fun _ => ?_)
        · refine det_and (fun _ => ?_)
          refine det_letn (fun S5 => ?_)
          exact ih_ _ _ _
        · refine det_call1 dt_wp_X12_has (fun r6 => ?_)
          refine det_if' (fun _ => ?_) (fun _ => ?_)
          · refine det_and (fun _ => ?_)
            refine det_letn (fun S8 => ?_)
            exact ih_ _ _ _
          · refine det_and (fun _ => ?_)
            refine det_if' (fun _ => ?_) (fun _ => ?_)
            · refine det_and (fun _ => ?_)
              refine det_letn (fun S11 => ?_)
              exact ih_ _ _ _
            · refine det_and (fun _ => ?_)
              refine det_if (fun _ => ?_) (fun _ => ?_)
              · refine det_and (fun _ => ?_)
                refine det_letn (fun S14 => ?_)
                exact ih_ _ _ _
              · refine det_and (fun _ => ?_)
                refine det_letn (fun S15 => ?_)
                exact ih_ _ _ _
      · refine det_and (fun _ => ?_)
        refine det_if (fun _ => ?_) (fun _ => ?_)
        · refine det_and (fun _ => ?_)
          refine det_letn (fun S18 => ?_)
          exact ih_ _ _ _
        · refine det_call1 dt_wp_X12_has (fun r19 => ?_)
          refine det_if (fun _ => ?_) (fun _ => ?_)
          · refine det_and (fun _ => ?_)
            refine det_letn (fun S21 => ?_)
            exact ih_ _ _ _
          · refine det_call1 dt_wp_X12_has (fun r22 => ?_)
            refine det_if' (fun _ => ?_) (fun _ => ?_)
            · refine det_and (fun _ => ?_)
              refine det_letn (fun S24 => ?_)
              exact ih_ _ _ _
            · refine det_and (fun _ => ?_)
              refine det_if' (fun _ => ?_) (fun _ => ?_)
              · refine det_and (fun _ => ?_)
                refine det_letn (fun S27 => ?_)
                exact ih_ _ _ _
              · refine det_and (fun _ => ?_)
                refine det_if (fun _ => ?_) (fun _ => ?_)
                · refine det_and (fun _ => ?_)
                  refine det_letn (fun S30 => ?_)
                  exact ih_ _ _ _
                · refine det_and (fun _ => ?_)
                  refine det_letn (fun S31 => ?_)
                  exact ih_ _ _ _
theorem dt_wp_X12_assumes {S : MST} {a1 : Int32} : Det Ev1 (fun Post : MST → Prop => wp_X12_assumes S a1 Post) := by
  unfold wp_X12_assumes
  refine det_ex (fun n_2 => ?_)
  refine dl_wl_X12_assumes_2 (fun S_132 => ?_) (fun _ => ?_) _ _ _ _
  · exact det_leaf ⟨_, rfl⟩
  · exact det_leaf ⟨_, rfl⟩
theorem dl_wl_X12_begins_23 {ρ : Type} {E : (ρ → Prop) → Prop}  {K_86 : ρ → MST → Prop} {Pw : ρ → MST → Prop} (hK_86 : ∀ (x_0 : MST), Det E (fun P => K_86 P x_0)) (hP : ∀ (x_0 : MST), Det E (fun P => Pw P x_0)) : ∀ (n_ : Nat) (S_23 : MST) (x23_1 : Int32) (x23_2 : Int32), Det E (fun P => wl_X12_begins_23  (K_86 P) (Pw P) n_ S_23 x23_1 x23_2) := by
  intro n_
  induction n_ with
  | zero => intro S_23 x23_1 x23_2; unfold wl_X12_begins_23; exact det_false
  | succ n_ ih_ =>
    intro S_23 x23_1 x23_2
    unfold wl_X12_begins_23
    refine det_if (fun _ => ?_) (fun _ => ?_)
    · exact hK_86 _
    · refine det_if (fun _ => ?_) (fun _ => ?_)
      · refine det_and (fun _ => ?_)
        refine det_letn (fun S3 => ?_)
        refine det_if (fun _ => ?_) (fun _ => ?_)
        · refine det_and (fun _ => ?_)
          refine det_letn (fun S5 => ?_)
          exact ih_ _ _ _
        · refine det_and (fun _ => ?_)
          refine det_and (fun _ => ?_)
          refine det_letn (fun S7 => ?_)
          exact ih_ _ _ _
      · refine det_and (fun _ => ?_)
        refine det_if (fun _ => ?_) (fun _ => ?_)
        · refine det_and (fun _ => ?_)
          refine det_letn (fun S10 => ?_)
          refine det_if (fun _ => ?_) (fun _ => ?_)
          · refine det_and (fun _ => ?_)
            refine det_letn (fun S12 => ?_)
            exact ih_ _ _ _
          · refine det_and (fun _ => ?_)
            refine det_and (fun _ => ?_)
            refine det_letn (fun S14 => ?_)
            exact ih_ _ _ _
        · refine det_and (fun _ => ?_)
          refine det_letn (fun S15 => ?_)
          refine det_if (fun _ => ?_) (fun _ => ?_)
          · refine det_and (fun _ => ?_)
            refine det_letn (fun S17 => ?_)
            exact ih_ _ _ _
          · refine det_and (fun _ => ?_)
            refine det_and (fun _ => ?_)
            refine det_letn (fun S19 => ?_)
            exact ih_ _ _ _
theorem dl_wl_X12_begins_2 {ρ : Type} {E : (ρ → Prop) → Prop}  {K_21 : ρ → MST → Int32 → Prop} {Pw : ρ → MST → Prop} (hK_21 : ∀ (x_0 : MST) (x_1 : Int32), Det E (fun P => K_21 P x_0 x_1)) (hP : ∀ (x_0 : MST), Det E (fun P => Pw P x_0)) : ∀ (n_ : Nat) (S_2 : MST) (x2_1 : Int32) (x2_2 : Int32), Det E (fun P => wl_X12_begins_2  (K_21 P) (Pw P) n_ S_2 x2_1 x2_2) := by
  intro n_
  induction n_ with
  | zero => intro S_2 x2_1 x2_2; unfold wl_X12_begins_2; exact det_false
  | succ n_ ih_ =>
    intro S_2 x2_1 x2_2
    unfold wl_X12_begins_2
    refine det_if (fun _ => ?_) (fun _ => ?_)
    · exact hK_21 _ _
    · refine det_and (fun _ => ?_)
      refine det_letn (fun S21 => ?_)
      exact ih_ _ _ _
theorem dt_wp_X12_begins {S : MST} {a1 : Int32} : Det Ev1 (fun Post : MST → Prop => wp_X12_begins S a1 Post) := by
  unfold wp_X12_begins
  refine det_ex (fun n_2 => ?_)
  refine dl_wl_X12_begins_2 (fun S_21 x21_1 => ?_) (fun _ => ?_) _ _ _ _
  · refine det_ex (fun n_23 => ?_)
    refine dl_wl_X12_begins_23 (fun S_86 => ?_) (fun _ => ?_) _ _ _ _
    · exact det_leaf ⟨_, rfl⟩
    · exact det_leaf ⟨_, rfl⟩
  · exact det_leaf ⟨_, rfl⟩
theorem dt_wp_X12_traps {S : MST} {a1 : Int32} {a2 : Int32} : Det Ev1 (fun Post : MST → Prop => wp_X12_traps S a1 a2 Post) := by
  unfold wp_X12_traps
  refine det_letn (fun S1 => ?_)
  refine det_and (fun _ => ?_)
  refine det_letn (fun S2 => ?_)
  refine det_and (fun _ => ?_)
  refine det_and (fun _ => ?_)
  refine det_letn (fun S4 => ?_)
  refine det_and (fun _ => ?_)
  refine det_letn (fun S5 => ?_)
  refine det_and (fun _ => ?_)
  refine det_letn (fun S6 => ?_)
  exact det_leaf ⟨_, rfl⟩
theorem dt_wp_X12_stepOn {S : MST} : Det Ev2 (fun Post : MST → Int32 → Prop => wp_X12_stepOn S Post) := by
  unfold wp_X12_stepOn
  refine det_if' (fun _ => ?_) (fun _ => ?_)
  · refine det_letn (fun S2 => ?_)
    exact det_leaf ⟨_, _, rfl⟩
  · refine det_letn (fun S3 => ?_)
    exact det_leaf ⟨_, _, rfl⟩
theorem dt_wp_X12_codeNow {S : MST} {a1 : Int32} : Det Ev1 (fun Post : Int32 → Prop => wp_X12_codeNow S a1 Post) := by
  unfold wp_X12_codeNow
  refine det_and (fun _ => ?_)
  exact det_leaf ⟨_, rfl⟩
theorem dt_wp_X12_part {S : MST} {a1 : Int32} {a2 : Int32} {a3 : Int32} {a4 : Int32} : Det Ev1 (fun Post : MST → Prop => wp_X12_part S a1 a2 a3 a4 Post) := by
  unfold wp_X12_part
  refine det_and (fun _ => ?_)
  refine det_and (fun _ => ?_)
  refine det_letn (fun S2 => ?_)
  refine det_and (fun _ => ?_)
  refine det_letn (fun S3 => ?_)
  refine det_and (fun _ => ?_)
  refine det_letn (fun S4 => ?_)
  refine det_and (fun _ => ?_)
  refine det_letn (fun S5 => ?_)
  refine det_and (fun _ => ?_)
  refine det_letn (fun S6 => ?_)
  refine det_and (fun _ => ?_)
  refine det_and (fun _ => ?_)
  refine det_letn (fun S8 => ?_)
  exact det_leaf ⟨_, rfl⟩
theorem dl_wl_X12_fieldGuards_2 {ρ : Type} {E : (ρ → Prop) → Prop}  {K_46 : ρ → MST → Prop} {Pw : ρ → MST → Prop} (hK_46 : ∀ (x_0 : MST), Det E (fun P => K_46 P x_0)) (hP : ∀ (x_0 : MST), Det E (fun P => Pw P x_0)) : ∀ (n_ : Nat) (S_2 : MST) (x2_1 : Int32) (x2_2 : Int32), Det E (fun P => wl_X12_fieldGuards_2  (K_46 P) (Pw P) n_ S_2 x2_1 x2_2) := by
  intro n_
  induction n_ with
  | zero => intro S_2 x2_1 x2_2; unfold wl_X12_fieldGuards_2; exact det_false
  | succ n_ ih_ =>
    intro S_2 x2_1 x2_2
    unfold wl_X12_fieldGuards_2
    refine det_if (fun _ => ?_) (fun _ => ?_)
    · exact hK_46 _
    · refine det_and (fun _ => ?_)
      refine det_if (fun _ => ?_) (fun _ => ?_)
      · exact ih_ _ _ _
      · refine det_and (fun _ => ?_)
        refine det_call1 dt_wp_X12_part (fun S5 => ?_)
        exact ih_ _ _ _
theorem dt_wp_X12_fieldGuards {S : MST} {a1 : Int32} : Det Ev1 (fun Post : MST → Prop => wp_X12_fieldGuards S a1 Post) := by
  unfold wp_X12_fieldGuards
  refine det_ex (fun n_2 => ?_)
  refine dl_wl_X12_fieldGuards_2 (fun S_46 => ?_) (fun _ => ?_) _ _ _ _
  · exact det_leaf ⟨_, rfl⟩
  · exact det_leaf ⟨_, rfl⟩
theorem dt_wp_X12_isTarget {S : MST} {a1 : Int32} {a2 : Int32} : Det Ev1 (fun Post : Int32 → Prop => wp_X12_isTarget S a1 a2 Post) := by
  unfold wp_X12_isTarget
  refine det_call1 dt_wp_X12_has (fun r1 => ?_)
  refine det_if' (fun _ => ?_) (fun _ => ?_)
  · exact det_leaf ⟨_, rfl⟩
  · refine det_call1 dt_wp_X12_has (fun r3 => ?_)
    refine det_if (fun _ => ?_) (fun _ => ?_)
    · exact det_leaf ⟨_, rfl⟩
    · exact det_leaf ⟨_, rfl⟩
theorem dt_wp_X12_layOne {S : MST} {a1 : Int32} : Det Ev1 (fun Post : MST → Prop => wp_X12_layOne S a1 Post) := by
  unfold wp_X12_layOne
  refine det_and (fun _ => ?_)
  refine det_if (fun _ => ?_) (fun _ => ?_)
  · exact det_leaf ⟨_, rfl⟩
  · refine det_and (fun _ => ?_)
    refine det_call1 dt_wp_X12_part (fun S4 => ?_)
    refine det_and (fun _ => ?_)
    refine det_letn (fun S5 => ?_)
    exact det_leaf ⟨_, rfl⟩
theorem dl_wl_X12_layAll_2 {ρ : Type} {E : (ρ → Prop) → Prop}  {K_18 : ρ → MST → Prop} {Pw : ρ → MST → Prop} (hK_18 : ∀ (x_0 : MST), Det E (fun P => K_18 P x_0)) (hP : ∀ (x_0 : MST), Det E (fun P => Pw P x_0)) : ∀ (n_ : Nat) (S_2 : MST) (x2_1 : Int32) (x2_2 : Int32), Det E (fun P => wl_X12_layAll_2  (K_18 P) (Pw P) n_ S_2 x2_1 x2_2) := by
  intro n_
  induction n_ with
  | zero => intro S_2 x2_1 x2_2; unfold wl_X12_layAll_2; exact det_false
  | succ n_ ih_ =>
    intro S_2 x2_1 x2_2
    unfold wl_X12_layAll_2
    refine det_if (fun _ => ?_) (fun _ => ?_)
    · exact hK_18 _
    · refine det_call1 dt_wp_X12_layOne (fun S2 => ?_)
      exact ih_ _ _ _
theorem dt_wp_X12_layAll {S : MST} {a1 : Int32} : Det Ev1 (fun Post : MST → Prop => wp_X12_layAll S a1 Post) := by
  unfold wp_X12_layAll
  refine det_ex (fun n_2 => ?_)
  refine dl_wl_X12_layAll_2 (fun S_18 => ?_) (fun _ => ?_) _ _ _ _
  · exact det_leaf ⟨_, rfl⟩
  · exact det_leaf ⟨_, rfl⟩
theorem dt_wp_X12_knows {S : MST} {a1 : Int32} {a2 : Int32} : Det Ev1 (fun Post : MST → Prop => wp_X12_knows S a1 a2 Post) := by
  unfold wp_X12_knows
  refine det_and (fun _ => ?_)
  refine det_letn (fun S1 => ?_)
  refine det_and (fun _ => ?_)
  refine det_letn (fun S2 => ?_)
  exact det_leaf ⟨_, rfl⟩
theorem dt_wp_X12_makeWhen {S : MST} {a1 : Int32} {a2 : Int32} : Det Ev1 (fun Post : MST → Prop => wp_X12_makeWhen S a1 a2 Post) := by
  unfold wp_X12_makeWhen
  refine det_and (fun _ => ?_)
  refine det_if' (fun _ => ?_) (fun _ => ?_)
  · refine det_and (fun _ => ?_)
    refine det_if' (fun _ => ?_) (fun _ => ?_)
    · refine det_and (fun _ => ?_)
      refine det_letn (fun S5 => ?_)
      exact det_leaf ⟨_, rfl⟩
    · refine det_call1 dt_wp_X12_layAll (fun S6 => ?_)
      refine det_call1 dt_wp_X12_part (fun S7 => ?_)
      refine det_and (fun _ => ?_)
      refine det_letn (fun S8 => ?_)
      exact det_leaf ⟨_, rfl⟩
  · refine det_call1 dt_wp_X12_layAll (fun S9 => ?_)
    refine det_call1 dt_wp_X12_part (fun S10 => ?_)
    refine det_and (fun _ => ?_)
    refine det_letn (fun S11 => ?_)
    exact det_leaf ⟨_, rfl⟩
theorem dt_wp_X12_sumOf {a0 : Int32} {a1 : Int32} {a2 : Int32} : Det Ev1 (fun Post : Int32 → Prop => wp_X12_sumOf a0 a1 a2 Post) := by
  unfold wp_X12_sumOf
  rcases zt_3_7 a0 with hk | hk | hk | hk | hk | hk
  · refine det_take hk ?_ (fun _ => ⟨fun e => absurd e (fun e => absurd hk (by rw [e]; decide)), fun e => absurd e (fun e => absurd hk (by rw [e]; decide)), fun e => absurd e (fun e => absurd hk (by rw [e]; decide)), fun e => absurd e (fun e => absurd hk (by rw [e]; decide)), fun e => absurd e (fun e => absurd hk (by rw [e]; decide))⟩)
    refine det_if' (fun _ => ?_) (fun _ => ?_)
    · exact det_leaf ⟨_, rfl⟩
    · exact det_leaf ⟨_, rfl⟩
  · refine det_skip (fun c => absurd c (by rw [hk]; decide)) (det_take hk ?_ (fun _ => ⟨fun e => absurd e (fun e => absurd (hk.symm.trans e) (by decide)), fun e => absurd e (fun e => absurd (hk.symm.trans e) (by decide)), fun e => absurd e (fun e => absurd (hk.symm.trans e) (by decide)), fun e => absurd e (fun e => absurd (hk.symm.trans e) (by decide))⟩))
    exact det_leaf ⟨_, rfl⟩
  · refine det_skip (fun c => absurd c (by rw [hk]; decide)) (det_skip (fun e => absurd (hk.symm.trans e) (by decide)) (det_take hk ?_ (fun _ => ⟨fun e => absurd e (fun e => absurd (hk.symm.trans e) (by decide)), fun e => absurd e (fun e => absurd (hk.symm.trans e) (by decide)), fun e => absurd e (fun e => absurd (hk.symm.trans e) (by decide))⟩)))
    exact det_leaf ⟨_, rfl⟩
  · refine det_skip (fun c => absurd c (by rw [hk]; decide)) (det_skip (fun e => absurd (hk.symm.trans e) (by decide)) (det_skip (fun e => absurd (hk.symm.trans e) (by decide)) (det_take hk ?_ (fun _ => ⟨fun e => absurd e (fun e => absurd (hk.symm.trans e) (by decide)), fun e => absurd e (fun e => absurd (hk.symm.trans e) (by decide))⟩))))
    exact det_leaf ⟨_, rfl⟩
  · refine det_skip (fun c => absurd c (by rw [hk]; decide)) (det_skip (fun e => absurd (hk.symm.trans e) (by decide)) (det_skip (fun e => absurd (hk.symm.trans e) (by decide)) (det_skip (fun e => absurd (hk.symm.trans e) (by decide)) (det_take hk ?_ (fun _ => fun e => absurd e (fun e => absurd (hk.symm.trans e) (by decide)))))))
    refine det_and (fun _ => ?_)
    exact det_leaf ⟨_, rfl⟩
  · refine det_skip (fun c => absurd c (by rw [hk]; decide)) (det_skip (fun e => absurd (hk.symm.trans e) (by decide)) (det_skip (fun e => absurd (hk.symm.trans e) (by decide)) (det_skip (fun e => absurd (hk.symm.trans e) (by decide)) (det_skip (fun e => absurd (hk.symm.trans e) (by decide)) (det_last hk ?_)))))
    refine det_if (fun _ => ?_) (fun _ => ?_)
    · exact det_leaf ⟨_, rfl⟩
    · exact det_leaf ⟨_, rfl⟩
theorem dt_wp_X12_makeTwo {S : MST} {a1 : Int32} {a2 : Int32} : Det Ev1 (fun Post : MST → Prop => wp_X12_makeTwo S a1 a2 Post) := by
  unfold wp_X12_makeTwo
  refine det_and (fun _ => ?_)
  refine det_if (fun _ => ?_) (fun _ => ?_)
  · refine det_call1 dt_wp_X12_layOne (fun S3 => ?_)
    refine det_call1 dt_wp_X12_layOne (fun S4 => ?_)
    refine det_call1 dt_wp_X12_part (fun S5 => ?_)
    refine det_and (fun _ => ?_)
    refine det_letn (fun S6 => ?_)
    exact det_leaf ⟨_, rfl⟩
  · refine det_and (fun _ => ?_)
    refine det_if (fun _ => ?_) (fun _ => ?_)
    · refine det_call1 dt_wp_X12_layOne (fun S9 => ?_)
      refine det_call1 dt_wp_X12_layOne (fun S10 => ?_)
      refine det_call1 dt_wp_X12_part (fun S11 => ?_)
      refine det_and (fun _ => ?_)
      refine det_letn (fun S12 => ?_)
      exact det_leaf ⟨_, rfl⟩
    · refine det_if' (fun _ => ?_) (fun _ => ?_)
      · refine det_and (fun _ => ?_)
        refine det_and (fun _ => ?_)
        refine det_call1 dt_wp_X12_sumOf (fun r16 => ?_)
        refine det_and (fun _ => ?_)
        refine det_letn (fun S17 => ?_)
        refine det_and (fun _ => ?_)
        refine det_letn (fun S18 => ?_)
        exact det_leaf ⟨_, rfl⟩
      · refine det_and (fun _ => ?_)
        refine det_if (fun _ => ?_) (fun _ => ?_)
        · refine det_call1 dt_wp_X12_layOne (fun S21 => ?_)
          refine det_call1 dt_wp_X12_layOne (fun S22 => ?_)
          refine det_call1 dt_wp_X12_part (fun S23 => ?_)
          refine det_and (fun _ => ?_)
          refine det_letn (fun S24 => ?_)
          exact det_leaf ⟨_, rfl⟩
        · refine det_and (fun _ => ?_)
          refine det_and (fun _ => ?_)
          refine det_call1 dt_wp_X12_sumOf (fun r27 => ?_)
          refine det_and (fun _ => ?_)
          refine det_letn (fun S28 => ?_)
          refine det_and (fun _ => ?_)
          refine det_letn (fun S29 => ?_)
          exact det_leaf ⟨_, rfl⟩
theorem dt_wp_X12_make {S : MST} {a1 : Int32} {a2 : Int32} : Det Ev1 (fun Post : MST → Prop => wp_X12_make S a1 a2 Post) := by
  unfold wp_X12_make
  refine det_and (fun _ => ?_)
  refine det_and (fun _ => ?_)
  refine det_and (fun _ => ?_)
  rcases zt_0_19 (S 4 ((60 * a1) + a2 : Int32).toNatClampNeg) with hk | hk | hk | hk | hk | hk | hk | hk | hk | hk | hk | hk | hk | hk | hk | hk | hk | hk | hk | hk | hk
  · refine det_take hk ?_ (fun _ => ⟨fun e => absurd e (fun e => absurd hk (by rw [e]; decide)), fun e => absurd e (fun e => absurd hk (by rw [e]; decide)), fun e => absurd e (fun e => absurd hk (by rw [e]; decide)), fun e => absurd e (fun e => absurd hk (by rw [e]; decide)), fun e => absurd e (fun e => absurd hk (by rw [e]; decide)), fun e => absurd e (fun e => absurd hk (by rw [e]; decide)), fun e => absurd e (fun e => absurd hk (by rw [e]; decide)), fun e => absurd e (fun e => absurd hk (by rw [e]; decide)), fun e => absurd e (fun e => absurd hk (by rw [e]; decide)), fun e => absurd e (fun e => absurd hk (by rw [e]; decide)), fun e => absurd e (fun e => absurd hk (by rw [e]; decide)), fun e => absurd e (fun e => absurd hk (by rw [e]; decide)), fun e => absurd e (fun e => absurd hk (by rw [e]; decide)), fun e => absurd e (fun e => absurd hk (by rw [e]; decide)), fun e => absurd e (fun e => absurd hk (by rw [e]; decide)), fun e => absurd e (fun e => absurd hk (by rw [e]; decide)), fun e => absurd e (fun e => absurd hk (by rw [e]; decide)), fun e => absurd e (fun e => absurd hk (by rw [e]; decide)), fun e => absurd e (fun e => absurd hk (by rw [e]; decide)), fun e => absurd e (fun e => absurd hk (by rw [e]; decide))⟩)
    refine det_call1 dt_wp_X12_makeTwo (fun S4 => ?_)
    exact det_leaf ⟨_, rfl⟩
  · refine det_skip (fun c => absurd c (by rw [hk]; decide)) (det_take hk ?_ (fun _ => ⟨fun e => absurd e (fun e => absurd (hk.symm.trans e) (by decide)), fun e => absurd e (fun e => absurd (hk.symm.trans e) (by decide)), fun e => absurd e (fun e => absurd (hk.symm.trans e) (by decide)), fun e => absurd e (fun e => absurd (hk.symm.trans e) (by decide)), fun e => absurd e (fun e => absurd (hk.symm.trans e) (by decide)), fun e => absurd e (fun e => absurd (hk.symm.trans e) (by decide)), fun e => absurd e (fun e => absurd (hk.symm.trans e) (by decide)), fun e => absurd e (fun e => absurd (hk.symm.trans e) (by decide)), fun e => absurd e (fun e => absurd (hk.symm.trans e) (by decide)), fun e => absurd e (fun e => absurd (hk.symm.trans e) (by decide)), fun e => absurd e (fun e => absurd (hk.symm.trans e) (by decide)), fun e => absurd e (fun e => absurd (hk.symm.trans e) (by decide)), fun e => absurd e (fun e => absurd (hk.symm.trans e) (by decide)), fun e => absurd e (fun e => absurd (hk.symm.trans e) (by decide)), fun e => absurd e (fun e => absurd (hk.symm.trans e) (by decide)), fun e => absurd e (fun e => absurd (hk.symm.trans e) (by decide)), fun e => absurd e (fun e => absurd (hk.symm.trans e) (by decide)), fun e => absurd e (fun e => absurd (hk.symm.trans e) (by decide)), fun e => absurd e (fun e => absurd (hk.symm.trans e) (by decide))⟩))
    refine det_call1 dt_wp_X12_knows (fun S5 => ?_)
    exact det_leaf ⟨_, rfl⟩
  · refine det_skip (fun c => absurd c (by rw [hk]; decide)) (det_skip (fun e => absurd (hk.symm.trans e) (by decide)) (det_take hk ?_ (fun _ => ⟨fun e => absurd e (fun e => absurd (hk.symm.trans e) (by decide)), fun e => absurd e (fun e => absurd (hk.symm.trans e) (by decide)), fun e => absurd e (fun e => absurd (hk.symm.trans e) (by decide)), fun e => absurd e (fun e => absurd (hk.symm.trans e) (by decide)), fun e => absurd e (fun e => absurd (hk.symm.trans e) (by decide)), fun e => absurd e (fun e => absurd (hk.symm.trans e) (by decide)), fun e => absurd e (fun e => absurd (hk.symm.trans e) (by decide)), fun e => absurd e (fun e => absurd (hk.symm.trans e) (by decide)), fun e => absurd e (fun e => absurd (hk.symm.trans e) (by decide)), fun e => absurd e (fun e => absurd (hk.symm.trans e) (by decide)), fun e => absurd e (fun e => absurd (hk.symm.trans e) (by decide)), fun e => absurd e (fun e => absurd (hk.symm.trans e) (by decide)), fun e => absurd e (fun e => absurd (hk.symm.trans e) (by decide)), fun e => absurd e (fun e => absurd (hk.symm.trans e) (by decide)), fun e => absurd e (fun e => absurd (hk.symm.trans e) (by decide)), fun e => absurd e (fun e => absurd (hk.symm.trans e) (by decide)), fun e => absurd e (fun e => absurd (hk.symm.trans e) (by decide)), fun e => absurd e (fun e => absurd (hk.symm.trans e) (by decide))⟩)))
    refine det_and (fun _ => ?_)
    refine det_if (fun _ => ?_) (fun _ => ?_)
    · refine det_call1 dt_wp_X12_part (fun S8 => ?_)
      exact det_leaf ⟨_, rfl⟩
    · refine det_and (fun _ => ?_)
      refine det_call1 dt_wp_X12_knows (fun S10 => ?_)
      exact det_leaf ⟨_, rfl⟩
  · refine det_skip (fun c => absurd c (by rw [hk]; decide)) (det_skip (fun e => absurd (hk.symm.trans e) (by decide)) (det_skip (fun e => absurd (hk.symm.trans e) (by decide)) (det_take hk ?_ (fun _ => ⟨fun e => absurd e (fun e => absurd (hk.symm.trans e) (by decide)), fun e => absurd e (fun e => absurd (hk.symm.trans e) (by decide)), fun e => absurd e (fun e => absurd (hk.symm.trans e) (by decide)), fun e => absurd e (fun e => absurd (hk.symm.trans e) (by decide)), fun e => absurd e (fun e => absurd (hk.symm.trans e) (by decide)), fun e => absurd e (fun e => absurd (hk.symm.trans e) (by decide)), fun e => absurd e (fun e => absurd (hk.symm.trans e) (by decide)), fun e => absurd e (fun e => absurd (hk.symm.trans e) (by decide)), fun e => absurd e (fun e => absurd (hk.symm.trans e) (by decide)), fun e => absurd e (fun e => absurd (hk.symm.trans e) (by decide)), fun e => absurd e (fun e => absurd (hk.symm.trans e) (by decide)), fun e => absurd e (fun e => absurd (hk.symm.trans e) (by decide)), fun e => absurd e (fun e => absurd (hk.symm.trans e) (by decide)), fun e => absurd e (fun e => absurd (hk.symm.trans e) (by decide)), fun e => absurd e (fun e => absurd (hk.symm.trans e) (by decide)), fun e => absurd e (fun e => absurd (hk.symm.trans e) (by decide)), fun e => absurd e (fun e => absurd (hk.symm.trans e) (by decide))⟩))))
    refine det_and (fun _ => ?_)
    refine det_and (fun _ => ?_)
    refine det_letn (fun S12 => ?_)
    refine det_and (fun _ => ?_)
    refine det_if (fun _ => ?_) (fun _ => ?_)
    · refine det_call1 dt_wp_X12_part (fun S15 => ?_)
      refine det_and (fun _ => ?_)
      refine det_letn (fun S16 => ?_)
      exact det_leaf ⟨_, rfl⟩
    · refine det_and (fun _ => ?_)
      refine det_and (fun _ => ?_)
      refine det_letn (fun S18 => ?_)
      refine det_and (fun _ => ?_)
      refine det_call1 dt_wp_X12_part (fun S20 => ?_)
      refine det_and (fun _ => ?_)
      refine det_letn (fun S21 => ?_)
      exact det_leaf ⟨_, rfl⟩
  · refine det_skip (fun c => absurd c (by rw [hk]; decide)) (det_skip (fun e => absurd (hk.symm.trans e) (by decide)) (det_skip (fun e => absurd (hk.symm.trans e) (by decide)) (det_skip (fun e => absurd (hk.symm.trans e) (by decide)) (det_take hk ?_ (fun _ => ⟨fun e => absurd e (fun e => absurd (hk.symm.trans e) (by decide)), fun e => absurd e (fun e => absurd (hk.symm.trans e) (by decide)), fun e => absurd e (fun e => absurd (hk.symm.trans e) (by decide)), fun e => absurd e (fun e => absurd (hk.symm.trans e) (by decide)), fun e => absurd e (fun e => absurd (hk.symm.trans e) (by decide)), fun e => absurd e (fun e => absurd (hk.symm.trans e) (by decide)), fun e => absurd e (fun e => absurd (hk.symm.trans e) (by decide)), fun e => absurd e (fun e => absurd (hk.symm.trans e) (by decide)), fun e => absurd e (fun e => absurd (hk.symm.trans e) (by decide)), fun e => absurd e (fun e => absurd (hk.symm.trans e) (by decide)), fun e => absurd e (fun e => absurd (hk.symm.trans e) (by decide)), fun e => absurd e (fun e => absurd (hk.symm.trans e) (by decide)), fun e => absurd e (fun e => absurd (hk.symm.trans e) (by decide)), fun e => absurd e (fun e => absurd (hk.symm.trans e) (by decide)), fun e => absurd e (fun e => absurd (hk.symm.trans e) (by decide)), fun e => absurd e (fun e => absurd (hk.symm.trans e) (by decide))⟩)))))
    refine det_call1 dt_wp_X12_makeTwo (fun S22 => ?_)
    exact det_leaf ⟨_, rfl⟩
  · refine det_skip (fun c => absurd c (by rw [hk]; decide)) (det_skip (fun e => absurd (hk.symm.trans e) (by decide)) (det_skip (fun e => absurd (hk.symm.trans e) (by decide)) (det_skip (fun e => absurd (hk.symm.trans e) (by decide)) (det_skip (fun e => absurd (hk.symm.trans e) (by decide)) (det_take hk ?_ (fun _ => ⟨fun e => absurd e (fun e => absurd (hk.symm.trans e) (by decide)), fun e => absurd e (fun e => absurd (hk.symm.trans e) (by decide)), fun e => absurd e (fun e => absurd (hk.symm.trans e) (by decide)), fun e => absurd e (fun e => absurd (hk.symm.trans e) (by decide)), fun e => absurd e (fun e => absurd (hk.symm.trans e) (by decide)), fun e => absurd e (fun e => absurd (hk.symm.trans e) (by decide)), fun e => absurd e (fun e => absurd (hk.symm.trans e) (by decide)), fun e => absurd e (fun e => absurd (hk.symm.trans e) (by decide)), fun e => absurd e (fun e => absurd (hk.symm.trans e) (by decide)), fun e => absurd e (fun e => absurd (hk.symm.trans e) (by decide)), fun e => absurd e (fun e => absurd (hk.symm.trans e) (by decide)), fun e => absurd e (fun e => absurd (hk.symm.trans e) (by decide)), fun e => absurd e (fun e => absurd (hk.symm.trans e) (by decide)), fun e => absurd e (fun e => absurd (hk.symm.trans e) (by decide)), fun e => absurd e (fun e => absurd (hk.symm.trans e) (by decide))⟩))))))
    refine det_call1 dt_wp_X12_makeTwo (fun S23 => ?_)
    exact det_leaf ⟨_, rfl⟩
  · refine det_skip (fun c => absurd c (by rw [hk]; decide)) (det_skip (fun e => absurd (hk.symm.trans e) (by decide)) (det_skip (fun e => absurd (hk.symm.trans e) (by decide)) (det_skip (fun e => absurd (hk.symm.trans e) (by decide)) (det_skip (fun e => absurd (hk.symm.trans e) (by decide)) (det_skip (fun e => absurd (hk.symm.trans e) (by decide)) (det_take hk ?_ (fun _ => ⟨fun e => absurd e (fun e => absurd (hk.symm.trans e) (by decide)), fun e => absurd e (fun e => absurd (hk.symm.trans e) (by decide)), fun e => absurd e (fun e => absurd (hk.symm.trans e) (by decide)), fun e => absurd e (fun e => absurd (hk.symm.trans e) (by decide)), fun e => absurd e (fun e => absurd (hk.symm.trans e) (by decide)), fun e => absurd e (fun e => absurd (hk.symm.trans e) (by decide)), fun e => absurd e (fun e => absurd (hk.symm.trans e) (by decide)), fun e => absurd e (fun e => absurd (hk.symm.trans e) (by decide)), fun e => absurd e (fun e => absurd (hk.symm.trans e) (by decide)), fun e => absurd e (fun e => absurd (hk.symm.trans e) (by decide)), fun e => absurd e (fun e => absurd (hk.symm.trans e) (by decide)), fun e => absurd e (fun e => absurd (hk.symm.trans e) (by decide)), fun e => absurd e (fun e => absurd (hk.symm.trans e) (by decide)), fun e => absurd e (fun e => absurd (hk.symm.trans e) (by decide))⟩)))))))
    refine det_call1 dt_wp_X12_makeTwo (fun S24 => ?_)
    exact det_leaf ⟨_, rfl⟩
  · refine det_skip (fun c => absurd c (by rw [hk]; decide)) (det_skip (fun e => absurd (hk.symm.trans e) (by decide)) (det_skip (fun e => absurd (hk.symm.trans e) (by decide)) (det_skip (fun e => absurd (hk.symm.trans e) (by decide)) (det_skip (fun e => absurd (hk.symm.trans e) (by decide)) (det_skip (fun e => absurd (hk.symm.trans e) (by decide)) (det_skip (fun e => absurd (hk.symm.trans e) (by decide)) (det_take hk ?_ (fun _ => ⟨fun e => absurd e (fun e => absurd (hk.symm.trans e) (by decide)), fun e => absurd e (fun e => absurd (hk.symm.trans e) (by decide)), fun e => absurd e (fun e => absurd (hk.symm.trans e) (by decide)), fun e => absurd e (fun e => absurd (hk.symm.trans e) (by decide)), fun e => absurd e (fun e => absurd (hk.symm.trans e) (by decide)), fun e => absurd e (fun e => absurd (hk.symm.trans e) (by decide)), fun e => absurd e (fun e => absurd (hk.symm.trans e) (by decide)), fun e => absurd e (fun e => absurd (hk.symm.trans e) (by decide)), fun e => absurd e (fun e => absurd (hk.symm.trans e) (by decide)), fun e => absurd e (fun e => absurd (hk.symm.trans e) (by decide)), fun e => absurd e (fun e => absurd (hk.symm.trans e) (by decide)), fun e => absurd e (fun e => absurd (hk.symm.trans e) (by decide)), fun e => absurd e (fun e => absurd (hk.symm.trans e) (by decide))⟩))))))))
    refine det_call1 dt_wp_X12_makeTwo (fun S25 => ?_)
    exact det_leaf ⟨_, rfl⟩
  · refine det_skip (fun c => absurd c (by rw [hk]; decide)) (det_skip (fun e => absurd (hk.symm.trans e) (by decide)) (det_skip (fun e => absurd (hk.symm.trans e) (by decide)) (det_skip (fun e => absurd (hk.symm.trans e) (by decide)) (det_skip (fun e => absurd (hk.symm.trans e) (by decide)) (det_skip (fun e => absurd (hk.symm.trans e) (by decide)) (det_skip (fun e => absurd (hk.symm.trans e) (by decide)) (det_skip (fun e => absurd (hk.symm.trans e) (by decide)) (det_take hk ?_ (fun _ => ⟨fun e => absurd e (fun e => absurd (hk.symm.trans e) (by decide)), fun e => absurd e (fun e => absurd (hk.symm.trans e) (by decide)), fun e => absurd e (fun e => absurd (hk.symm.trans e) (by decide)), fun e => absurd e (fun e => absurd (hk.symm.trans e) (by decide)), fun e => absurd e (fun e => absurd (hk.symm.trans e) (by decide)), fun e => absurd e (fun e => absurd (hk.symm.trans e) (by decide)), fun e => absurd e (fun e => absurd (hk.symm.trans e) (by decide)), fun e => absurd e (fun e => absurd (hk.symm.trans e) (by decide)), fun e => absurd e (fun e => absurd (hk.symm.trans e) (by decide)), fun e => absurd e (fun e => absurd (hk.symm.trans e) (by decide)), fun e => absurd e (fun e => absurd (hk.symm.trans e) (by decide)), fun e => absurd e (fun e => absurd (hk.symm.trans e) (by decide))⟩)))))))))
    refine det_call1 dt_wp_X12_makeTwo (fun S26 => ?_)
    exact det_leaf ⟨_, rfl⟩
  · refine det_skip (fun c => absurd c (by rw [hk]; decide)) (det_skip (fun e => absurd (hk.symm.trans e) (by decide)) (det_skip (fun e => absurd (hk.symm.trans e) (by decide)) (det_skip (fun e => absurd (hk.symm.trans e) (by decide)) (det_skip (fun e => absurd (hk.symm.trans e) (by decide)) (det_skip (fun e => absurd (hk.symm.trans e) (by decide)) (det_skip (fun e => absurd (hk.symm.trans e) (by decide)) (det_skip (fun e => absurd (hk.symm.trans e) (by decide)) (det_skip (fun e => absurd (hk.symm.trans e) (by decide)) (det_take hk ?_ (fun _ => ⟨fun e => absurd e (fun e => absurd (hk.symm.trans e) (by decide)), fun e => absurd e (fun e => absurd (hk.symm.trans e) (by decide)), fun e => absurd e (fun e => absurd (hk.symm.trans e) (by decide)), fun e => absurd e (fun e => absurd (hk.symm.trans e) (by decide)), fun e => absurd e (fun e => absurd (hk.symm.trans e) (by decide)), fun e => absurd e (fun e => absurd (hk.symm.trans e) (by decide)), fun e => absurd e (fun e => absurd (hk.symm.trans e) (by decide)), fun e => absurd e (fun e => absurd (hk.symm.trans e) (by decide)), fun e => absurd e (fun e => absurd (hk.symm.trans e) (by decide)), fun e => absurd e (fun e => absurd (hk.symm.trans e) (by decide)), fun e => absurd e (fun e => absurd (hk.symm.trans e) (by decide))⟩))))))))))
    refine det_call1 dt_wp_X12_makeTwo (fun S27 => ?_)
    exact det_leaf ⟨_, rfl⟩
  · refine det_skip (fun c => absurd c (by rw [hk]; decide)) (det_skip (fun e => absurd (hk.symm.trans e) (by decide)) (det_skip (fun e => absurd (hk.symm.trans e) (by decide)) (det_skip (fun e => absurd (hk.symm.trans e) (by decide)) (det_skip (fun e => absurd (hk.symm.trans e) (by decide)) (det_skip (fun e => absurd (hk.symm.trans e) (by decide)) (det_skip (fun e => absurd (hk.symm.trans e) (by decide)) (det_skip (fun e => absurd (hk.symm.trans e) (by decide)) (det_skip (fun e => absurd (hk.symm.trans e) (by decide)) (det_skip (fun e => absurd (hk.symm.trans e) (by decide)) (det_take hk ?_ (fun _ => ⟨fun e => absurd e (fun e => absurd (hk.symm.trans e) (by decide)), fun e => absurd e (fun e => absurd (hk.symm.trans e) (by decide)), fun e => absurd e (fun e => absurd (hk.symm.trans e) (by decide)), fun e => absurd e (fun e => absurd (hk.symm.trans e) (by decide)), fun e => absurd e (fun e => absurd (hk.symm.trans e) (by decide)), fun e => absurd e (fun e => absurd (hk.symm.trans e) (by decide)), fun e => absurd e (fun e => absurd (hk.symm.trans e) (by decide)), fun e => absurd e (fun e => absurd (hk.symm.trans e) (by decide)), fun e => absurd e (fun e => absurd (hk.symm.trans e) (by decide)), fun e => absurd e (fun e => absurd (hk.symm.trans e) (by decide))⟩)))))))))))
    refine det_call1 dt_wp_X12_layAll (fun S28 => ?_)
    refine det_call1 dt_wp_X12_part (fun S29 => ?_)
    exact det_leaf ⟨_, rfl⟩
  · refine det_skip (fun c => absurd c (by rw [hk]; decide)) (det_skip (fun e => absurd (hk.symm.trans e) (by decide)) (det_skip (fun e => absurd (hk.symm.trans e) (by decide)) (det_skip (fun e => absurd (hk.symm.trans e) (by decide)) (det_skip (fun e => absurd (hk.symm.trans e) (by decide)) (det_skip (fun e => absurd (hk.symm.trans e) (by decide)) (det_skip (fun e => absurd (hk.symm.trans e) (by decide)) (det_skip (fun e => absurd (hk.symm.trans e) (by decide)) (det_skip (fun e => absurd (hk.symm.trans e) (by decide)) (det_skip (fun e => absurd (hk.symm.trans e) (by decide)) (det_skip (fun e => absurd (hk.symm.trans e) (by decide)) (det_take hk ?_ (fun _ => ⟨fun e => absurd e (fun e => absurd (hk.symm.trans e) (by decide)), fun e => absurd e (fun e => absurd (hk.symm.trans e) (by decide)), fun e => absurd e (fun e => absurd (hk.symm.trans e) (by decide)), fun e => absurd e (fun e => absurd (hk.symm.trans e) (by decide)), fun e => absurd e (fun e => absurd (hk.symm.trans e) (by decide)), fun e => absurd e (fun e => absurd (hk.symm.trans e) (by decide)), fun e => absurd e (fun e => absurd (hk.symm.trans e) (by decide)), fun e => absurd e (fun e => absurd (hk.symm.trans e) (by decide)), fun e => absurd e (fun e => absurd (hk.symm.trans e) (by decide))⟩))))))))))))
    refine det_call1 dt_wp_X12_makeWhen (fun S30 => ?_)
    exact det_leaf ⟨_, rfl⟩
  · refine det_skip (fun c => absurd c (by rw [hk]; decide)) (det_skip (fun e => absurd (hk.symm.trans e) (by decide)) (det_skip (fun e => absurd (hk.symm.trans e) (by decide)) (det_skip (fun e => absurd (hk.symm.trans e) (by decide)) (det_skip (fun e => absurd (hk.symm.trans e) (by decide)) (det_skip (fun e => absurd (hk.symm.trans e) (by decide)) (det_skip (fun e => absurd (hk.symm.trans e) (by decide)) (det_skip (fun e => absurd (hk.symm.trans e) (by decide)) (det_skip (fun e => absurd (hk.symm.trans e) (by decide)) (det_skip (fun e => absurd (hk.symm.trans e) (by decide)) (det_skip (fun e => absurd (hk.symm.trans e) (by decide)) (det_skip (fun e => absurd (hk.symm.trans e) (by decide)) (det_take hk ?_ (fun _ => ⟨fun e => absurd e (fun e => absurd (hk.symm.trans e) (by decide)), fun e => absurd e (fun e => absurd (hk.symm.trans e) (by decide)), fun e => absurd e (fun e => absurd (hk.symm.trans e) (by decide)), fun e => absurd e (fun e => absurd (hk.symm.trans e) (by decide)), fun e => absurd e (fun e => absurd (hk.symm.trans e) (by decide)), fun e => absurd e (fun e => absurd (hk.symm.trans e) (by decide)), fun e => absurd e (fun e => absurd (hk.symm.trans e) (by decide)), fun e => absurd e (fun e => absurd (hk.symm.trans e) (by decide))⟩)))))))))))))
    refine det_call1 dt_wp_X12_layAll (fun S31 => ?_)
    refine det_and (fun _ => ?_)
    refine det_call1 dt_wp_X12_part (fun S33 => ?_)
    refine det_call1 dt_wp_X12_fieldGuards (fun S34 => ?_)
    exact det_leaf ⟨_, rfl⟩
  · refine det_skip (fun c => absurd c (by rw [hk]; decide)) (det_skip (fun e => absurd (hk.symm.trans e) (by decide)) (det_skip (fun e => absurd (hk.symm.trans e) (by decide)) (det_skip (fun e => absurd (hk.symm.trans e) (by decide)) (det_skip (fun e => absurd (hk.symm.trans e) (by decide)) (det_skip (fun e => absurd (hk.symm.trans e) (by decide)) (det_skip (fun e => absurd (hk.symm.trans e) (by decide)) (det_skip (fun e => absurd (hk.symm.trans e) (by decide)) (det_skip (fun e => absurd (hk.symm.trans e) (by decide)) (det_skip (fun e => absurd (hk.symm.trans e) (by decide)) (det_skip (fun e => absurd (hk.symm.trans e) (by decide)) (det_skip (fun e => absurd (hk.symm.trans e) (by decide)) (det_skip (fun e => absurd (hk.symm.trans e) (by decide)) (det_take hk ?_ (fun _ => ⟨fun e => absurd e (fun e => absurd (hk.symm.trans e) (by decide)), fun e => absurd e (fun e => absurd (hk.symm.trans e) (by decide)), fun e => absurd e (fun e => absurd (hk.symm.trans e) (by decide)), fun e => absurd e (fun e => absurd (hk.symm.trans e) (by decide)), fun e => absurd e (fun e => absurd (hk.symm.trans e) (by decide)), fun e => absurd e (fun e => absurd (hk.symm.trans e) (by decide)), fun e => absurd e (fun e => absurd (hk.symm.trans e) (by decide))⟩))))))))))))))
    refine det_call1 dt_wp_X12_layOne (fun S35 => ?_)
    refine det_call1 dt_wp_X12_part (fun S36 => ?_)
    exact det_leaf ⟨_, rfl⟩
  · refine det_skip (fun c => absurd c (by rw [hk]; decide)) (det_skip (fun e => absurd (hk.symm.trans e) (by decide)) (det_skip (fun e => absurd (hk.symm.trans e) (by decide)) (det_skip (fun e => absurd (hk.symm.trans e) (by decide)) (det_skip (fun e => absurd (hk.symm.trans e) (by decide)) (det_skip (fun e => absurd (hk.symm.trans e) (by decide)) (det_skip (fun e => absurd (hk.symm.trans e) (by decide)) (det_skip (fun e => absurd (hk.symm.trans e) (by decide)) (det_skip (fun e => absurd (hk.symm.trans e) (by decide)) (det_skip (fun e => absurd (hk.symm.trans e) (by decide)) (det_skip (fun e => absurd (hk.symm.trans e) (by decide)) (det_skip (fun e => absurd (hk.symm.trans e) (by decide)) (det_skip (fun e => absurd (hk.symm.trans e) (by decide)) (det_skip (fun e => absurd (hk.symm.trans e) (by decide)) (det_take hk ?_ (fun _ => ⟨fun e => absurd e (fun e => absurd (hk.symm.trans e) (by decide)), fun e => absurd e (fun e => absurd (hk.symm.trans e) (by decide)), fun e => absurd e (fun e => absurd (hk.symm.trans e) (by decide)), fun e => absurd e (fun e => absurd (hk.symm.trans e) (by decide)), fun e => absurd e (fun e => absurd (hk.symm.trans e) (by decide)), fun e => absurd e (fun e => absurd (hk.symm.trans e) (by decide))⟩)))))))))))))))
    refine det_and (fun _ => ?_)
    refine det_if (fun _ => ?_) (fun _ => ?_)
    · refine det_call1 dt_wp_X12_part (fun S39 => ?_)
      exact det_leaf ⟨_, rfl⟩
    · refine det_and (fun _ => ?_)
      refine det_call1 dt_wp_X12_knows (fun S41 => ?_)
      exact det_leaf ⟨_, rfl⟩
  · refine det_skip (fun c => absurd c (by rw [hk]; decide)) (det_skip (fun e => absurd (hk.symm.trans e) (by decide)) (det_skip (fun e => absurd (hk.symm.trans e) (by decide)) (det_skip (fun e => absurd (hk.symm.trans e) (by decide)) (det_skip (fun e => absurd (hk.symm.trans e) (by decide)) (det_skip (fun e => absurd (hk.symm.trans e) (by decide)) (det_skip (fun e => absurd (hk.symm.trans e) (by decide)) (det_skip (fun e => absurd (hk.symm.trans e) (by decide)) (det_skip (fun e => absurd (hk.symm.trans e) (by decide)) (det_skip (fun e => absurd (hk.symm.trans e) (by decide)) (det_skip (fun e => absurd (hk.symm.trans e) (by decide)) (det_skip (fun e => absurd (hk.symm.trans e) (by decide)) (det_skip (fun e => absurd (hk.symm.trans e) (by decide)) (det_skip (fun e => absurd (hk.symm.trans e) (by decide)) (det_skip (fun e => absurd (hk.symm.trans e) (by decide)) (det_take hk ?_ (fun _ => ⟨fun e => absurd e (fun e => absurd (hk.symm.trans e) (by decide)), fun e => absurd e (fun e => absurd (hk.symm.trans e) (by decide)), fun e => absurd e (fun e => absurd (hk.symm.trans e) (by decide)), fun e => absurd e (fun e => absurd (hk.symm.trans e) (by decide)), fun e => absurd e (fun e => absurd (hk.symm.trans e) (by decide))⟩))))))))))))))))
    refine det_call1 dt_wp_X12_layOne (fun S42 => ?_)
    refine det_call1 dt_wp_X12_part (fun S43 => ?_)
    exact det_leaf ⟨_, rfl⟩
  · refine det_skip (fun c => absurd c (by rw [hk]; decide)) (det_skip (fun e => absurd (hk.symm.trans e) (by decide)) (det_skip (fun e => absurd (hk.symm.trans e) (by decide)) (det_skip (fun e => absurd (hk.symm.trans e) (by decide)) (det_skip (fun e => absurd (hk.symm.trans e) (by decide)) (det_skip (fun e => absurd (hk.symm.trans e) (by decide)) (det_skip (fun e => absurd (hk.symm.trans e) (by decide)) (det_skip (fun e => absurd (hk.symm.trans e) (by decide)) (det_skip (fun e => absurd (hk.symm.trans e) (by decide)) (det_skip (fun e => absurd (hk.symm.trans e) (by decide)) (det_skip (fun e => absurd (hk.symm.trans e) (by decide)) (det_skip (fun e => absurd (hk.symm.trans e) (by decide)) (det_skip (fun e => absurd (hk.symm.trans e) (by decide)) (det_skip (fun e => absurd (hk.symm.trans e) (by decide)) (det_skip (fun e => absurd (hk.symm.trans e) (by decide)) (det_skip (fun e => absurd (hk.symm.trans e) (by decide)) (det_take hk ?_ (fun _ => ⟨fun e => absurd e (fun e => absurd (hk.symm.trans e) (by decide)), fun e => absurd e (fun e => absurd (hk.symm.trans e) (by decide)), fun e => absurd e (fun e => absurd (hk.symm.trans e) (by decide)), fun e => absurd e (fun e => absurd (hk.symm.trans e) (by decide))⟩)))))))))))))))))
    refine det_call1 dt_wp_X12_layOne (fun S44 => ?_)
    refine det_call1 dt_wp_X12_part (fun S45 => ?_)
    exact det_leaf ⟨_, rfl⟩
  · refine det_skip (fun c => absurd c (by rw [hk]; decide)) (det_skip (fun e => absurd (hk.symm.trans e) (by decide)) (det_skip (fun e => absurd (hk.symm.trans e) (by decide)) (det_skip (fun e => absurd (hk.symm.trans e) (by decide)) (det_skip (fun e => absurd (hk.symm.trans e) (by decide)) (det_skip (fun e => absurd (hk.symm.trans e) (by decide)) (det_skip (fun e => absurd (hk.symm.trans e) (by decide)) (det_skip (fun e => absurd (hk.symm.trans e) (by decide)) (det_skip (fun e => absurd (hk.symm.trans e) (by decide)) (det_skip (fun e => absurd (hk.symm.trans e) (by decide)) (det_skip (fun e => absurd (hk.symm.trans e) (by decide)) (det_skip (fun e => absurd (hk.symm.trans e) (by decide)) (det_skip (fun e => absurd (hk.symm.trans e) (by decide)) (det_skip (fun e => absurd (hk.symm.trans e) (by decide)) (det_skip (fun e => absurd (hk.symm.trans e) (by decide)) (det_skip (fun e => absurd (hk.symm.trans e) (by decide)) (det_skip (fun e => absurd (hk.symm.trans e) (by decide)) (det_take hk ?_ (fun _ => ⟨fun e => absurd e (fun e => absurd (hk.symm.trans e) (by decide)), fun e => absurd e (fun e => absurd (hk.symm.trans e) (by decide)), fun e => absurd e (fun e => absurd (hk.symm.trans e) (by decide))⟩))))))))))))))))))
    refine det_call1 dt_wp_X12_layOne (fun S46 => ?_)
    refine det_call1 dt_wp_X12_part (fun S47 => ?_)
    exact det_leaf ⟨_, rfl⟩
  · refine det_skip (fun c => absurd c (by rw [hk]; decide)) (det_skip (fun e => absurd (hk.symm.trans e) (by decide)) (det_skip (fun e => absurd (hk.symm.trans e) (by decide)) (det_skip (fun e => absurd (hk.symm.trans e) (by decide)) (det_skip (fun e => absurd (hk.symm.trans e) (by decide)) (det_skip (fun e => absurd (hk.symm.trans e) (by decide)) (det_skip (fun e => absurd (hk.symm.trans e) (by decide)) (det_skip (fun e => absurd (hk.symm.trans e) (by decide)) (det_skip (fun e => absurd (hk.symm.trans e) (by decide)) (det_skip (fun e => absurd (hk.symm.trans e) (by decide)) (det_skip (fun e => absurd (hk.symm.trans e) (by decide)) (det_skip (fun e => absurd (hk.symm.trans e) (by decide)) (det_skip (fun e => absurd (hk.symm.trans e) (by decide)) (det_skip (fun e => absurd (hk.symm.trans e) (by decide)) (det_skip (fun e => absurd (hk.symm.trans e) (by decide)) (det_skip (fun e => absurd (hk.symm.trans e) (by decide)) (det_skip (fun e => absurd (hk.symm.trans e) (by decide)) (det_skip (fun e => absurd (hk.symm.trans e) (by decide)) (det_take hk ?_ (fun _ => ⟨fun e => absurd e (fun e => absurd (hk.symm.trans e) (by decide)), fun e => absurd e (fun e => absurd (hk.symm.trans e) (by decide))⟩)))))))))))))))))))
    refine det_call1 dt_wp_X12_layOne (fun S48 => ?_)
    refine det_call1 dt_wp_X12_layOne (fun S49 => ?_)
    refine det_call1 dt_wp_X12_part (fun S50 => ?_)
    exact det_leaf ⟨_, rfl⟩
  · refine det_skip (fun c => absurd c (by rw [hk]; decide)) (det_skip (fun e => absurd (hk.symm.trans e) (by decide)) (det_skip (fun e => absurd (hk.symm.trans e) (by decide)) (det_skip (fun e => absurd (hk.symm.trans e) (by decide)) (det_skip (fun e => absurd (hk.symm.trans e) (by decide)) (det_skip (fun e => absurd (hk.symm.trans e) (by decide)) (det_skip (fun e => absurd (hk.symm.trans e) (by decide)) (det_skip (fun e => absurd (hk.symm.trans e) (by decide)) (det_skip (fun e => absurd (hk.symm.trans e) (by decide)) (det_skip (fun e => absurd (hk.symm.trans e) (by decide)) (det_skip (fun e => absurd (hk.symm.trans e) (by decide)) (det_skip (fun e => absurd (hk.symm.trans e) (by decide)) (det_skip (fun e => absurd (hk.symm.trans e) (by decide)) (det_skip (fun e => absurd (hk.symm.trans e) (by decide)) (det_skip (fun e => absurd (hk.symm.trans e) (by decide)) (det_skip (fun e => absurd (hk.symm.trans e) (by decide)) (det_skip (fun e => absurd (hk.symm.trans e) (by decide)) (det_skip (fun e => absurd (hk.symm.trans e) (by decide)) (det_skip (fun e => absurd (hk.symm.trans e) (by decide)) (det_take hk ?_ (fun _ => fun e => absurd e (fun e => absurd (hk.symm.trans e) (by decide))))))))))))))))))))))
    refine det_and (fun _ => ?_)
    refine det_if (fun _ => ?_) (fun _ => ?_)
    · refine det_call1 dt_wp_X12_part (fun S53 => ?_)
      exact det_leaf ⟨_, rfl⟩
    · refine det_and (fun _ => ?_)
      refine det_call1 dt_wp_X12_knows (fun S55 => ?_)
      exact det_leaf ⟨_, rfl⟩
  · refine det_skip (fun c => absurd c (by rw [hk]; decide)) (det_skip (fun e => absurd (hk.symm.trans e) (by decide)) (det_skip (fun e => absurd (hk.symm.trans e) (by decide)) (det_skip (fun e => absurd (hk.symm.trans e) (by decide)) (det_skip (fun e => absurd (hk.symm.trans e) (by decide)) (det_skip (fun e => absurd (hk.symm.trans e) (by decide)) (det_skip (fun e => absurd (hk.symm.trans e) (by decide)) (det_skip (fun e => absurd (hk.symm.trans e) (by decide)) (det_skip (fun e => absurd (hk.symm.trans e) (by decide)) (det_skip (fun e => absurd (hk.symm.trans e) (by decide)) (det_skip (fun e => absurd (hk.symm.trans e) (by decide)) (det_skip (fun e => absurd (hk.symm.trans e) (by decide)) (det_skip (fun e => absurd (hk.symm.trans e) (by decide)) (det_skip (fun e => absurd (hk.symm.trans e) (by decide)) (det_skip (fun e => absurd (hk.symm.trans e) (by decide)) (det_skip (fun e => absurd (hk.symm.trans e) (by decide)) (det_skip (fun e => absurd (hk.symm.trans e) (by decide)) (det_skip (fun e => absurd (hk.symm.trans e) (by decide)) (det_skip (fun e => absurd (hk.symm.trans e) (by decide)) (det_skip (fun e => absurd (hk.symm.trans e) (by decide)) (det_last hk ?_))))))))))))))))))))
    refine det_and (fun _ => ?_)
    refine det_letn (fun S56 => ?_)
    exact det_leaf ⟨_, rfl⟩
theorem dl_wl_X12_makeCode_99 {ρ : Type} {E : (ρ → Prop) → Prop}  {K_266 : ρ → MST → Prop} {Pw : ρ → MST → Prop} (hK_266 : ∀ (x_0 : MST), Det E (fun P => K_266 P x_0)) (hP : ∀ (x_0 : MST), Det E (fun P => Pw P x_0)) : ∀ (n_ : Nat) (S_99 : MST) (x99_1 : Int32) (x99_2 : Int32), Det E (fun P => wl_X12_makeCode_99  (K_266 P) (Pw P) n_ S_99 x99_1 x99_2) := by
  intro n_
  induction n_ with
  | zero => intro S_99 x99_1 x99_2; unfold wl_X12_makeCode_99; exact det_false
  | succ n_ ih_ =>
    intro S_99 x99_1 x99_2
    unfold wl_X12_makeCode_99
    refine det_and (fun _ => ?_)
    refine det_if (fun _ => ?_) (fun _ => ?_)
    · exact hK_266 _
    · refine det_and (fun _ => ?_)
      refine det_if (fun _ => ?_) (fun _ => ?_)
      · exact ih_ _ _ _
      · refine det_call1 dt_wp_X12_isTarget (fun r15 => ?_)
        refine det_if (fun _ => ?_) (fun _ => ?_)
        · refine det_if' (fun _ => ?_) (fun _ => ?_)
          · refine det_and (fun _ => ?_)
            refine det_and (fun _ => ?_)
            refine det_letn (fun S19 => ?_)
            refine det_letn (fun S20 => ?_)
            refine det_call1 dt_wp_X12_make (fun S21 => ?_)
            exact ih_ _ _ _
          · refine det_and (fun _ => ?_)
            refine det_letn (fun S22 => ?_)
            refine det_letn (fun S23 => ?_)
            refine det_call1 dt_wp_X12_make (fun S24 => ?_)
            exact ih_ _ _ _
        · refine det_if (fun _ => ?_) (fun _ => ?_)
          · refine det_call1 dt_wp_X12_begins (fun S26 => ?_)
            refine det_if' (fun _ => ?_) (fun _ => ?_)
            · refine det_and (fun _ => ?_)
              refine det_and (fun _ => ?_)
              refine det_letn (fun S29 => ?_)
              refine det_letn (fun S30 => ?_)
              refine det_call1 dt_wp_X12_make (fun S31 => ?_)
              exact ih_ _ _ _
            · refine det_and (fun _ => ?_)
              refine det_letn (fun S32 => ?_)
              refine det_letn (fun S33 => ?_)
              refine det_call1 dt_wp_X12_make (fun S34 => ?_)
              exact ih_ _ _ _
          · refine det_and (fun _ => ?_)
            refine det_if (fun _ => ?_) (fun _ => ?_)
            · refine det_call1 dt_wp_X12_begins (fun S37 => ?_)
              refine det_if' (fun _ => ?_) (fun _ => ?_)
              · refine det_and (fun _ => ?_)
                refine det_and (fun _ => ?_)
                refine det_letn (fun S40 => ?_)
                refine det_letn (fun S41 => ?_)
                refine det_call1 dt_wp_X12_make (fun S42 => ?_)
                exact ih_ _ _ _
              · refine det_and (fun _ => ?_)
                refine det_letn (fun S43 => ?_)
                refine det_letn (fun S44 => ?_)
                refine det_call1 dt_wp_X12_make (fun S45 => ?_)
                exact ih_ _ _ _
            · refine det_and (fun _ => ?_)
              refine det_if (fun _ => ?_) (fun _ => ?_)
              · refine det_call1 dt_wp_X12_begins (fun S48 => ?_)
                refine det_if' (fun _ => ?_) (fun _ => ?_)
                · refine det_and (fun _ => ?_)
                  refine det_and (fun _ => ?_)
                  refine det_letn (fun S51 => ?_)
                  refine det_letn (fun S52 => ?_)
                  refine det_call1 dt_wp_X12_make (fun S53 => ?_)
                  exact ih_ _ _ _
                · refine det_and (fun _ => ?_)
                  refine det_letn (fun S54 => ?_)
                  refine det_letn (fun S55 => ?_)
                  refine det_call1 dt_wp_X12_make (fun S56 => ?_)
                  exact ih_ _ _ _
              · refine det_and (fun _ => ?_)
                refine det_if (fun _ => ?_) (fun _ => ?_)
                · refine det_call1 dt_wp_X12_begins (fun S59 => ?_)
                  refine det_if' (fun _ => ?_) (fun _ => ?_)
                  · refine det_and (fun _ => ?_)
                    refine det_and (fun _ => ?_)
                    refine det_letn (fun S62 => ?_)
                    refine det_letn (fun S63 => ?_)
                    refine det_call1 dt_wp_X12_make (fun S64 => ?_)
                    exact ih_ _ _ _
                  · refine det_and (fun _ => ?_)
                    refine det_letn (fun S65 => ?_)
                    refine det_letn (fun S66 => ?_)
                    refine det_call1 dt_wp_X12_make (fun S67 => ?_)
                    exact ih_ _ _ _
                · refine det_and (fun _ => ?_)
                  refine det_call1 dt_wp_X12_layAll (fun S69 => ?_)
                  refine det_call1 dt_wp_X12_begins (fun S70 => ?_)
                  refine det_if' (fun _ => ?_) (fun _ => ?_)
                  · refine det_and (fun _ => ?_)
                    refine det_and (fun _ => ?_)
                    refine det_letn (fun S73 => ?_)
                    refine det_letn (fun S74 => ?_)
                    refine det_call1 dt_wp_X12_make (fun S75 => ?_)
                    exact ih_ _ _ _
                  · refine det_and (fun _ => ?_)
                    refine det_letn (fun S76 => ?_)
                    refine det_letn (fun S77 => ?_)
                    refine det_call1 dt_wp_X12_make (fun S78 => ?_)
                    exact ih_ _ _ _
theorem dl_wl_X12_makeCode_48 {ρ : Type} {E : (ρ → Prop) → Prop}  {K_87 : ρ → MST → Int32 → Prop} {Pw : ρ → MST → Prop} (hK_87 : ∀ (x_0 : MST) (x_1 : Int32), Det E (fun P => K_87 P x_0 x_1)) (hP : ∀ (x_0 : MST), Det E (fun P => Pw P x_0)) : ∀ (n_ : Nat) (S_48 : MST) (x48_1 : Int32) (x48_2 : Int32), Det E (fun P => wl_X12_makeCode_48  (K_87 P) (Pw P) n_ S_48 x48_1 x48_2) := by
  intro n_
  induction n_ with
  | zero => intro S_48 x48_1 x48_2; unfold wl_X12_makeCode_48; exact det_false
  | succ n_ ih_ =>
    intro S_48 x48_1 x48_2
    unfold wl_X12_makeCode_48
    refine det_if (fun _ => ?_) (fun _ => ?_)
    · exact hK_87 _ _
    · refine det_and (fun _ => ?_)
      refine det_if (fun _ => ?_) (fun _ => ?_)
      · exact ih_ _ _ _
      · refine det_and (fun _ => ?_)
        refine det_call1 dt_wp_X12_part (fun S83 => ?_)
        exact ih_ _ _ _
theorem dt_wp_X12_makeCode {S : MST} {a1 : Int32} : Det Ev1 (fun Post : MST → Prop => wp_X12_makeCode S a1 Post) := by
  unfold wp_X12_makeCode
  refine det_call1 dt_wp_X12_assumes (fun S1 => ?_)
  refine det_and (fun _ => ?_)
  refine det_and (fun _ => ?_)
  refine det_letn (fun S3 => ?_)
  refine det_and (fun _ => ?_)
  refine det_letn (fun S4 => ?_)
  refine det_call1 dt_wp_X12_codeNow (fun r5 => ?_)
  refine det_letn (fun S6 => ?_)
  refine det_and (fun _ => ?_)
  refine det_letn (fun S7 => ?_)
  refine det_letn (fun S8 => ?_)
  refine det_ex (fun n_48 => ?_)
  refine dl_wl_X12_makeCode_48 (fun S_87 x87_1 => ?_) (fun _ => ?_) _ _ _ _
  · refine det_call1 dt_wp_X12_fieldGuards (fun S9 => ?_)
    refine det_call1 dt_wp_X12_begins (fun S10 => ?_)
    refine det_ex (fun n_99 => ?_)
    refine dl_wl_X12_makeCode_99 (fun S_266 => ?_) (fun _ => ?_) _ _ _ _
    · exact det_leaf ⟨_, rfl⟩
    · exact det_leaf ⟨_, rfl⟩
  · exact det_leaf ⟨_, rfl⟩
theorem dl_wl_X12_remember_r_3 {ρ : Type} {E : (ρ → Prop) → Prop}  {K_142 : ρ → MST → Int32 → Prop} {Pw : ρ → MST → Prop} (hK_142 : ∀ (x_0 : MST) (x_1 : Int32), Det E (fun P => K_142 P x_0 x_1)) (hP : ∀ (x_0 : MST), Det E (fun P => Pw P x_0)) : ∀ (n_ : Nat) (S_3 : MST) (x3_1 : Int32) (x3_3 : Int32) (x3_4 : Int32), Det E (fun P => wl_X12_remember_r_3  (K_142 P) (Pw P) n_ S_3 x3_1 x3_3 x3_4) := by
  intro n_
  induction n_ with
  | zero => intro S_3 x3_1 x3_3 x3_4; unfold wl_X12_remember_r_3; exact det_false
  | succ n_ ih_ =>
    intro S_3 x3_1 x3_3 x3_4
    unfold wl_X12_remember_r_3
    refine det_if (fun _ => ?_) (fun _ => ?_)
    · exact hK_142 _ _
    · refine det_if (fun _ => ?_) (fun _ => ?_)
      · refine det_and (fun _ => ?_)
        refine det_and (fun _ => ?_)
        refine det_if' (fun _ => ?_) (fun _ => ?_)
        · refine det_and (fun _ => ?_)
          refine det_if (fun _ => ?_) (fun _ => ?_)
          · refine det_and (fun _ => ?_)
            refine det_letn (fun S10 => ?_)
            exact ih_ _ _ _ _
          · refine det_and (fun _ => ?_)
            refine det_if' (fun _ => ?_) (fun _ => ?_)
            · refine det_and (fun _ => ?_)
              refine det_letn (fun S13 => ?_)
              exact ih_ _ _ _ _
            · refine det_and (fun _ => ?_)
              refine det_letn (fun S14 => ?_)
              exact ih_ _ _ _ _
        · refine det_and (fun _ => ?_)
          refine det_letn (fun S15 => ?_)
          refine det_and (fun _ => ?_)
          refine det_letn (fun S16 => ?_)
          refine det_and (fun _ => ?_)
          refine det_if (fun _ => ?_) (fun _ => ?_)
          · refine det_and (fun _ => ?_)
            refine det_letn (fun S19 => ?_)
            exact ih_ _ _ _ _
          · refine det_and (fun _ => ?_)
            refine det_if' (fun _ => ?_) (fun _ => ?_)
            · refine det_and (fun _ => ?_)
              refine det_letn (fun S22 => ?_)
              exact ih_ _ _ _ _
            · refine det_and (fun _ => ?_)
              refine det_letn (fun S23 => ?_)
              exact ih_ _ _ _ _
      · refine det_and (fun _ => ?_)
        refine det_if (fun _ => ?_) (fun _ => ?_)
        · refine det_and (fun _ => ?_)
          refine det_if' (fun _ => ?_) (fun _ => ?_)
          · refine det_and (fun _ => ?_)
            refine det_if (fun _ => ?_) (fun _ => ?_)
            · refine det_and (fun _ => ?_)
              refine det_letn (fun S30 => ?_)
              exact ih_ _ _ _ _
            · refine det_and (fun _ => ?_)
              refine det_if' (fun _ => ?_) (fun _ => ?_)
              · refine det_and (fun _ => ?_)
                refine det_letn (fun S33 => ?_)
                exact ih_ _ _ _ _
              · refine det_and (fun _ => ?_)
                refine det_letn (fun S34 => ?_)
                exact ih_ _ _ _ _
          · refine det_and (fun _ => ?_)
            refine det_letn (fun S35 => ?_)
            refine det_and (fun _ => ?_)
            refine det_letn (fun S36 => ?_)
            refine det_and (fun _ => ?_)
            refine det_if (fun _ => ?_) (fun _ => ?_)
            · refine det_and (fun _ => ?_)
              refine det_letn (fun S39 => ?_)
              exact ih_ _ _ _ _
            · refine det_and (fun _ => ?_)
              refine det_if' (fun _ => ?_) (fun _ => ?_)
              · refine det_and (fun _ => ?_)
                refine det_letn (fun S42 => ?_)
                exact ih_ _ _ _ _
              · refine det_and (fun _ => ?_)
                refine det_letn (fun S43 => ?_)
                exact ih_ _ _ _ _
        · refine det_and (fun _ => ?_)
          refine det_and (fun _ => ?_)
          refine det_if' (fun _ => ?_) (fun _ => ?_)
          · refine det_and (fun _ => ?_)
            refine det_if (fun _ => ?_) (fun _ => ?_)
            · refine det_and (fun _ => ?_)
              refine det_letn (fun S49 => ?_)
              exact ih_ _ _ _ _
            · refine det_and (fun _ => ?_)
              refine det_if' (fun _ => ?_) (fun _ => ?_)
              · refine det_and (fun _ => ?_)
                refine det_letn (fun S52 => ?_)
                exact ih_ _ _ _ _
              · refine det_and (fun _ => ?_)
                refine det_letn (fun S53 => ?_)
                exact ih_ _ _ _ _
          · refine det_and (fun _ => ?_)
            refine det_letn (fun S54 => ?_)
            refine det_and (fun _ => ?_)
            refine det_letn (fun S55 => ?_)
            refine det_and (fun _ => ?_)
            refine det_if (fun _ => ?_) (fun _ => ?_)
            · refine det_and (fun _ => ?_)
              refine det_letn (fun S58 => ?_)
              exact ih_ _ _ _ _
            · refine det_and (fun _ => ?_)
              refine det_if' (fun _ => ?_) (fun _ => ?_)
              · refine det_and (fun _ => ?_)
                refine det_letn (fun S61 => ?_)
                exact ih_ _ _ _ _
              · refine det_and (fun _ => ?_)
                refine det_letn (fun S62 => ?_)
                exact ih_ _ _ _ _
theorem dt_wp_X12_remember_r {S : MST} {a1 : Int32} {a3 : Int32} : Det Ev1 (fun Post : MST → Prop => wp_X12_remember_r S a1 a3 Post) := by
  unfold wp_X12_remember_r
  refine det_ex (fun n_3 => ?_)
  refine dl_wl_X12_remember_r_3 (fun S_142 x142_1 => ?_) (fun _ => ?_) _ _ _ _ _
  · refine det_and (fun _ => ?_)
    refine det_and (fun _ => ?_)
    refine det_letn (fun S2 => ?_)
    exact det_leaf ⟨_, rfl⟩
  · exact det_leaf ⟨_, rfl⟩
theorem dl_wl_X12_remember_f_3 {ρ : Type} {E : (ρ → Prop) → Prop}  {K_142 : ρ → MST → Int32 → Prop} {Pw : ρ → MST → Prop} (hK_142 : ∀ (x_0 : MST) (x_1 : Int32), Det E (fun P => K_142 P x_0 x_1)) (hP : ∀ (x_0 : MST), Det E (fun P => Pw P x_0)) : ∀ (n_ : Nat) (S_3 : MST) (x3_1 : Int32) (x3_3 : Int32) (x3_4 : Int32), Det E (fun P => wl_X12_remember_f_3  (K_142 P) (Pw P) n_ S_3 x3_1 x3_3 x3_4) := by
  intro n_
  induction n_ with
  | zero => intro S_3 x3_1 x3_3 x3_4; unfold wl_X12_remember_f_3; exact det_false
  | succ n_ ih_ =>
    intro S_3 x3_1 x3_3 x3_4
    unfold wl_X12_remember_f_3
    refine det_if (fun _ => ?_) (fun _ => ?_)
    · exact hK_142 _ _
    · refine det_if (fun _ => ?_) (fun _ => ?_)
      · refine det_and (fun _ => ?_)
        refine det_and (fun _ => ?_)
        refine det_if' (fun _ => ?_) (fun _ => ?_)
        · refine det_and (fun _ => ?_)
          refine det_if (fun _ => ?_) (fun _ => ?_)
          · refine det_and (fun _ => ?_)
            refine det_letn (fun S10 => ?_)
            exact ih_ _ _ _ _
          · refine det_and (fun _ => ?_)
            refine det_if' (fun _ => ?_) (fun _ => ?_)
            · refine det_and (fun _ => ?_)
              refine det_letn (fun S13 => ?_)
              exact ih_ _ _ _ _
            · refine det_and (fun _ => ?_)
              refine det_letn (fun S14 => ?_)
              exact ih_ _ _ _ _
        · refine det_and (fun _ => ?_)
          refine det_letn (fun S15 => ?_)
          refine det_and (fun _ => ?_)
          refine det_letn (fun S16 => ?_)
          refine det_and (fun _ => ?_)
          refine det_if (fun _ => ?_) (fun _ => ?_)
          · refine det_and (fun _ => ?_)
            refine det_letn (fun S19 => ?_)
            exact ih_ _ _ _ _
          · refine det_and (fun _ => ?_)
            refine det_if' (fun _ => ?_) (fun _ => ?_)
            · refine det_and (fun _ => ?_)
              refine det_letn (fun S22 => ?_)
              exact ih_ _ _ _ _
            · refine det_and (fun _ => ?_)
              refine det_letn (fun S23 => ?_)
              exact ih_ _ _ _ _
      · refine det_and (fun _ => ?_)
        refine det_if (fun _ => ?_) (fun _ => ?_)
        · refine det_and (fun _ => ?_)
          refine det_if' (fun _ => ?_) (fun _ => ?_)
          · refine det_and (fun _ => ?_)
            refine det_if (fun _ => ?_) (fun _ => ?_)
            · refine det_and (fun _ => ?_)
              refine det_letn (fun S30 => ?_)
              exact ih_ _ _ _ _
            · refine det_and (fun _ => ?_)
              refine det_if' (fun _ => ?_) (fun _ => ?_)
              · refine det_and (fun _ => ?_)
                refine det_letn (fun S33 => ?_)
                exact ih_ _ _ _ _
              · refine det_and (fun _ => ?_)
                refine det_letn (fun S34 => ?_)
                exact ih_ _ _ _ _
          · refine det_and (fun _ => ?_)
            refine det_letn (fun S35 => ?_)
            refine det_and (fun _ => ?_)
            refine det_letn (fun S36 => ?_)
            refine det_and (fun _ => ?_)
            refine det_if (fun _ => ?_) (fun _ => ?_)
            · refine det_and (fun _ => ?_)
              refine det_letn (fun S39 => ?_)
              exact ih_ _ _ _ _
            · refine det_and (fun _ => ?_)
              refine det_if' (fun _ => ?_) (fun _ => ?_)
              · refine det_and (fun _ => ?_)
                refine det_letn (fun S42 => ?_)
                exact ih_ _ _ _ _
              · refine det_and (fun _ => ?_)
                refine det_letn (fun S43 => ?_)
                exact ih_ _ _ _ _
        · refine det_and (fun _ => ?_)
          refine det_and (fun _ => ?_)
          refine det_if' (fun _ => ?_) (fun _ => ?_)
          · refine det_and (fun _ => ?_)
            refine det_if (fun _ => ?_) (fun _ => ?_)
            · refine det_and (fun _ => ?_)
              refine det_letn (fun S49 => ?_)
              exact ih_ _ _ _ _
            · refine det_and (fun _ => ?_)
              refine det_if' (fun _ => ?_) (fun _ => ?_)
              · refine det_and (fun _ => ?_)
                refine det_letn (fun S52 => ?_)
                exact ih_ _ _ _ _
              · refine det_and (fun _ => ?_)
                refine det_letn (fun S53 => ?_)
                exact ih_ _ _ _ _
          · refine det_and (fun _ => ?_)
            refine det_letn (fun S54 => ?_)
            refine det_and (fun _ => ?_)
            refine det_letn (fun S55 => ?_)
            refine det_and (fun _ => ?_)
            refine det_if (fun _ => ?_) (fun _ => ?_)
            · refine det_and (fun _ => ?_)
              refine det_letn (fun S58 => ?_)
              exact ih_ _ _ _ _
            · refine det_and (fun _ => ?_)
              refine det_if' (fun _ => ?_) (fun _ => ?_)
              · refine det_and (fun _ => ?_)
                refine det_letn (fun S61 => ?_)
                exact ih_ _ _ _ _
              · refine det_and (fun _ => ?_)
                refine det_letn (fun S62 => ?_)
                exact ih_ _ _ _ _
theorem dt_wp_X12_remember_f {S : MST} {a1 : Int32} {a3 : Int32} : Det Ev1 (fun Post : MST → Prop => wp_X12_remember_f S a1 a3 Post) := by
  unfold wp_X12_remember_f
  refine det_ex (fun n_3 => ?_)
  refine dl_wl_X12_remember_f_3 (fun S_142 x142_1 => ?_) (fun _ => ?_) _ _ _ _ _
  · refine det_and (fun _ => ?_)
    refine det_and (fun _ => ?_)
    refine det_letn (fun S2 => ?_)
    exact det_leaf ⟨_, rfl⟩
  · exact det_leaf ⟨_, rfl⟩
theorem dt_wj_X12_call_r_199 {S_199 : MST} : Det Ev1 (fun Post : MST → Prop => wj_X12_call_r_199 S_199 Post) := by
  unfold wj_X12_call_r_199
  refine det_letn (fun S1 => ?_)
  exact det_leaf ⟨_, rfl⟩
theorem dl_wl_X12_call_r_93 {ρ : Type} {E : (ρ → Prop) → Prop}  {K_140 : ρ → MST → Int32 → Int32 → Int32 → Prop} {Pw : ρ → MST → Prop} (hK_140 : ∀ (x_0 : MST) (x_1 : Int32) (x_2 : Int32) (x_3 : Int32), Det E (fun P => K_140 P x_0 x_1 x_2 x_3)) (hP : ∀ (x_0 : MST), Det E (fun P => Pw P x_0)) : ∀ (n_ : Nat) (S_93 : MST) (x93_1 : Int32) (x93_3 : Int32) (x93_5 : Int32) (x93_6 : Int32), Det E (fun P => wl_X12_call_r_93  (K_140 P) (Pw P) n_ S_93 x93_1 x93_3 x93_5 x93_6) := by
  intro n_
  induction n_ with
  | zero => intro S_93 x93_1 x93_3 x93_5 x93_6; unfold wl_X12_call_r_93; exact det_false
  | succ n_ ih_ =>
    intro S_93 x93_1 x93_3 x93_5 x93_6
    unfold wl_X12_call_r_93
    refine det_if (fun _ => ?_) (fun _ => ?_)
    · exact hK_140 _ _ _ _
    · refine det_and (fun _ => ?_)
      refine det_if (fun _ => ?_) (fun _ => ?_)
      · refine det_and (fun _ => ?_)
        refine det_letn (fun S17 => ?_)
        exact ih_ _ _ _ _ _
      · refine det_and (fun _ => ?_)
        refine det_and (fun _ => ?_)
        refine det_letn (fun S19 => ?_)
        exact ih_ _ _ _ _ _
theorem dt_wj_X12_call_r_60 {S_60 : MST} {x60_1 : Int32} {x60_3 : Int32} : Det Ev1 (fun Post : MST → Prop => wj_X12_call_r_60 S_60 x60_1 x60_3 Post) := by
  unfold wj_X12_call_r_60
  refine det_and (fun _ => ?_)
  refine det_letn (fun S2 => ?_)
  refine det_and (fun _ => ?_)
  refine det_letn (fun S3 => ?_)
  refine det_and (fun _ => ?_)
  refine det_letn (fun S4 => ?_)
  refine det_ex (fun n_93 => ?_)
  refine dl_wl_X12_call_r_93 (fun S_140 x140_1 x140_3 x140_5 => ?_) (fun _ => ?_) _ _ _ _ _ _
  · refine det_and (fun _ => ?_)
    refine det_if (fun _ => ?_) (fun _ => ?_)
    · refine det_and (fun _ => ?_)
      refine det_letn (fun S7 => ?_)
      refine det_call1 dt_wp_X12_remember_r (fun S8 => ?_)
      refine det_call1 dt_wj_X12_call_r_199 (fun _ => ?_)
      exact det_leaf ⟨_, rfl⟩
    · refine det_call1 dt_wp_X12_codeNow (fun r9 => ?_)
      refine det_and (fun _ => ?_)
      refine det_letn (fun S10 => ?_)
      refine det_and (fun _ => ?_)
      refine det_and (fun _ => ?_)
      refine det_letn (fun S12 => ?_)
      refine det_letn (fun S13 => ?_)
      refine det_call1 dt_wj_X12_call_r_199 (fun _ => ?_)
      exact det_leaf ⟨_, rfl⟩
  · exact det_leaf ⟨_, rfl⟩
theorem dt_wp_X12_call_r {S : MST} {a1 : Int32} {a3 : Int32} {a4 : Int32} : Det Ev1 (fun Post : MST → Prop => wp_X12_call_r S a1 a3 a4 Post) := by
  unfold wp_X12_call_r
  refine det_if' (fun _ => ?_) (fun _ => ?_)
  · refine det_call2 dt_wp_X12_stepOn (fun S21 r21 => ?_)
    refine det_if' (fun _ => ?_) (fun _ => ?_)
    · refine det_letn (fun S23 => ?_)
      refine det_and (fun _ => ?_)
      refine det_if' (fun _ => ?_) (fun _ => ?_)
      · refine det_call1 dt_wj_X12_call_r_60 (fun _ => ?_)
        exact det_leaf ⟨_, rfl⟩
      · refine det_and (fun _ => ?_)
        refine det_if' (fun _ => ?_) (fun _ => ?_)
        · refine det_call1 dt_wj_X12_call_r_60 (fun _ => ?_)
          exact det_leaf ⟨_, rfl⟩
        · refine det_call1 dt_wp_X12_makeCode (fun S28 => ?_)
          refine det_call1 dt_wj_X12_call_r_60 (fun _ => ?_)
          exact det_leaf ⟨_, rfl⟩
    · exact det_leaf ⟨_, rfl⟩
  · refine det_call1 dt_wp_X12_traps (fun S29 => ?_)
    exact det_leaf ⟨_, rfl⟩
theorem dt_wj_X12_call_f_199 {S_199 : MST} : Det Ev1 (fun Post : MST → Prop => wj_X12_call_f_199 S_199 Post) := by
  unfold wj_X12_call_f_199
  refine det_letn (fun S1 => ?_)
  exact det_leaf ⟨_, rfl⟩
theorem dl_wl_X12_call_f_93 {ρ : Type} {E : (ρ → Prop) → Prop}  {K_140 : ρ → MST → Int32 → Int32 → Int32 → Prop} {Pw : ρ → MST → Prop} (hK_140 : ∀ (x_0 : MST) (x_1 : Int32) (x_2 : Int32) (x_3 : Int32), Det E (fun P => K_140 P x_0 x_1 x_2 x_3)) (hP : ∀ (x_0 : MST), Det E (fun P => Pw P x_0)) : ∀ (n_ : Nat) (S_93 : MST) (x93_1 : Int32) (x93_3 : Int32) (x93_5 : Int32) (x93_6 : Int32), Det E (fun P => wl_X12_call_f_93  (K_140 P) (Pw P) n_ S_93 x93_1 x93_3 x93_5 x93_6) := by
  intro n_
  induction n_ with
  | zero => intro S_93 x93_1 x93_3 x93_5 x93_6; unfold wl_X12_call_f_93; exact det_false
  | succ n_ ih_ =>
    intro S_93 x93_1 x93_3 x93_5 x93_6
    unfold wl_X12_call_f_93
    refine det_if (fun _ => ?_) (fun _ => ?_)
    · exact hK_140 _ _ _ _
    · refine det_and (fun _ => ?_)
      refine det_if (fun _ => ?_) (fun _ => ?_)
      · refine det_and (fun _ => ?_)
        refine det_letn (fun S17 => ?_)
        exact ih_ _ _ _ _ _
      · refine det_and (fun _ => ?_)
        refine det_and (fun _ => ?_)
        refine det_letn (fun S19 => ?_)
        exact ih_ _ _ _ _ _
theorem dt_wj_X12_call_f_60 {S_60 : MST} {x60_1 : Int32} {x60_3 : Int32} : Det Ev1 (fun Post : MST → Prop => wj_X12_call_f_60 S_60 x60_1 x60_3 Post) := by
  unfold wj_X12_call_f_60
  refine det_and (fun _ => ?_)
  refine det_letn (fun S2 => ?_)
  refine det_and (fun _ => ?_)
  refine det_letn (fun S3 => ?_)
  refine det_and (fun _ => ?_)
  refine det_letn (fun S4 => ?_)
  refine det_ex (fun n_93 => ?_)
  refine dl_wl_X12_call_f_93 (fun S_140 x140_1 x140_3 x140_5 => ?_) (fun _ => ?_) _ _ _ _ _ _
  · refine det_and (fun _ => ?_)
    refine det_if (fun _ => ?_) (fun _ => ?_)
    · refine det_and (fun _ => ?_)
      refine det_letn (fun S7 => ?_)
      refine det_call1 dt_wp_X12_remember_f (fun S8 => ?_)
      refine det_call1 dt_wj_X12_call_f_199 (fun _ => ?_)
      exact det_leaf ⟨_, rfl⟩
    · refine det_call1 dt_wp_X12_codeNow (fun r9 => ?_)
      refine det_and (fun _ => ?_)
      refine det_letn (fun S10 => ?_)
      refine det_and (fun _ => ?_)
      refine det_and (fun _ => ?_)
      refine det_letn (fun S12 => ?_)
      refine det_letn (fun S13 => ?_)
      refine det_call1 dt_wj_X12_call_f_199 (fun _ => ?_)
      exact det_leaf ⟨_, rfl⟩
  · exact det_leaf ⟨_, rfl⟩
theorem dt_wp_X12_call_f {S : MST} {a1 : Int32} {a3 : Int32} {a4 : Int32} : Det Ev1 (fun Post : MST → Prop => wp_X12_call_f S a1 a3 a4 Post) := by
  unfold wp_X12_call_f
  refine det_if' (fun _ => ?_) (fun _ => ?_)
  · refine det_call2 dt_wp_X12_stepOn (fun S21 r21 => ?_)
    refine det_if' (fun _ => ?_) (fun _ => ?_)
    · refine det_letn (fun S23 => ?_)
      refine det_and (fun _ => ?_)
      refine det_if' (fun _ => ?_) (fun _ => ?_)
      · refine det_call1 dt_wj_X12_call_f_60 (fun _ => ?_)
        exact det_leaf ⟨_, rfl⟩
      · refine det_and (fun _ => ?_)
        refine det_if' (fun _ => ?_) (fun _ => ?_)
        · refine det_call1 dt_wj_X12_call_f_60 (fun _ => ?_)
          exact det_leaf ⟨_, rfl⟩
        · refine det_call1 dt_wp_X12_makeCode (fun S28 => ?_)
          refine det_call1 dt_wj_X12_call_f_60 (fun _ => ?_)
          exact det_leaf ⟨_, rfl⟩
    · exact det_leaf ⟨_, rfl⟩
  · refine det_call1 dt_wp_X12_traps (fun S29 => ?_)
    exact det_leaf ⟨_, rfl⟩
theorem dt_wp_X12_comesTo {S : MST} {a1 : Int32} {a2 : Int32} {a3 : Int32} : Det Ev2 (fun Post : MST → Int32 → Prop => wp_X12_comesTo S a1 a2 a3 Post) := by
  unfold wp_X12_comesTo
  refine det_and (fun _ => ?_)
  refine det_if' (fun _ => ?_) (fun _ => ?_)
  · refine det_and (fun _ => ?_)
    refine det_if' (fun _ => ?_) (fun _ => ?_)
    · exact det_leaf ⟨_, _, rfl⟩
    · exact det_leaf ⟨_, _, rfl⟩
  · refine det_and (fun _ => ?_)
    refine det_letn (fun S5 => ?_)
    refine det_and (fun _ => ?_)
    refine det_letn (fun S6 => ?_)
    exact det_leaf ⟨_, _, rfl⟩
theorem dt_wp_X12_count {S : MST} {a1 : Int32} : Det Ev1 (fun Post : Int32 → Prop => wp_X12_count S a1 Post) := by
  unfold wp_X12_count
  rcases zt_0_5 a1 with hk | hk | hk | hk | hk | hk | hk
  · refine det_take hk ?_ (fun _ => ⟨fun e => absurd e (fun e => absurd hk (by rw [e]; decide)), fun e => absurd e (fun e => absurd hk (by rw [e]; decide)), fun e => absurd e (fun e => absurd hk (by rw [e]; decide)), fun e => absurd e (fun e => absurd hk (by rw [e]; decide)), fun e => absurd e (fun e => absurd hk (by rw [e]; decide)), fun e => absurd e (fun e => absurd hk (by rw [e]; decide))⟩)
    exact det_leaf ⟨_, rfl⟩
  · refine det_skip (fun c => absurd c (by rw [hk]; decide)) (det_take hk ?_ (fun _ => ⟨fun e => absurd e (fun e => absurd (hk.symm.trans e) (by decide)), fun e => absurd e (fun e => absurd (hk.symm.trans e) (by decide)), fun e => absurd e (fun e => absurd (hk.symm.trans e) (by decide)), fun e => absurd e (fun e => absurd (hk.symm.trans e) (by decide)), fun e => absurd e (fun e => absurd (hk.symm.trans e) (by decide))⟩))
    exact det_leaf ⟨_, rfl⟩
  · refine det_skip (fun c => absurd c (by rw [hk]; decide)) (det_skip (fun e => absurd (hk.symm.trans e) (by decide)) (det_take hk ?_ (fun _ => ⟨fun e => absurd e (fun e => absurd (hk.symm.trans e) (by decide)), fun e => absurd e (fun e => absurd (hk.symm.trans e) (by decide)), fun e => absurd e (fun e => absurd (hk.symm.trans e) (by decide)), fun e => absurd e (fun e => absurd (hk.symm.trans e) (by decide))⟩)))
    exact det_leaf ⟨_, rfl⟩
  · refine det_skip (fun c => absurd c (by rw [hk]; decide)) (det_skip (fun e => absurd (hk.symm.trans e) (by decide)) (det_skip (fun e => absurd (hk.symm.trans e) (by decide)) (det_take hk ?_ (fun _ => ⟨fun e => absurd e (fun e => absurd (hk.symm.trans e) (by decide)), fun e => absurd e (fun e => absurd (hk.symm.trans e) (by decide)), fun e => absurd e (fun e => absurd (hk.symm.trans e) (by decide))⟩))))
    exact det_leaf ⟨_, rfl⟩
  · refine det_skip (fun c => absurd c (by rw [hk]; decide)) (det_skip (fun e => absurd (hk.symm.trans e) (by decide)) (det_skip (fun e => absurd (hk.symm.trans e) (by decide)) (det_skip (fun e => absurd (hk.symm.trans e) (by decide)) (det_take hk ?_ (fun _ => ⟨fun e => absurd e (fun e => absurd (hk.symm.trans e) (by decide)), fun e => absurd e (fun e => absurd (hk.symm.trans e) (by decide))⟩)))))
    exact det_leaf ⟨_, rfl⟩
  · refine det_skip (fun c => absurd c (by rw [hk]; decide)) (det_skip (fun e => absurd (hk.symm.trans e) (by decide)) (det_skip (fun e => absurd (hk.symm.trans e) (by decide)) (det_skip (fun e => absurd (hk.symm.trans e) (by decide)) (det_skip (fun e => absurd (hk.symm.trans e) (by decide)) (det_take hk ?_ (fun _ => fun e => absurd e (fun e => absurd (hk.symm.trans e) (by decide))))))))
    exact det_leaf ⟨_, rfl⟩
  · refine det_skip (fun c => absurd c (by rw [hk]; decide)) (det_skip (fun e => absurd (hk.symm.trans e) (by decide)) (det_skip (fun e => absurd (hk.symm.trans e) (by decide)) (det_skip (fun e => absurd (hk.symm.trans e) (by decide)) (det_skip (fun e => absurd (hk.symm.trans e) (by decide)) (det_skip (fun e => absurd (hk.symm.trans e) (by decide)) (det_last hk ?_))))))
    exact det_leaf ⟨_, rfl⟩
theorem dt_wp_X12_in {a0 : Int64} {a2 : Int64} {a4 : Int64} : Det Ev1 (fun Post : Int32 → Prop => wp_X12_in a0 a2 a4 Post) := by
  unfold wp_X12_in
  refine det_if (fun _ => ?_) (fun _ => ?_)
  · exact det_leaf ⟨_, rfl⟩
  · refine det_if (fun _ => ?_) (fun _ => ?_)
    · exact det_leaf ⟨_, rfl⟩
    · exact det_leaf ⟨_, rfl⟩
theorem dt_wp_X12_isMethod {S : MST} {a1 : Int32} : Det Ev1 (fun Post : Int32 → Prop => wp_X12_isMethod S a1 Post) := by
  unfold wp_X12_isMethod
  refine det_call1 dt_wp_X12_in (fun r1 => ?_)
  refine det_and (fun _ => ?_)
  exact det_leaf ⟨_, rfl⟩
theorem dt_wp_X12_depth {S : MST} {a1 : Int32} {a2 : Int32} : Det Ev1 (fun Post : Int32 → Prop => wp_X12_depth S a1 a2 Post) := by
  unfold wp_X12_depth
  refine det_call1 dt_wp_X12_isMethod (fun r1 => ?_)
  refine det_if (fun _ => ?_) (fun _ => ?_)
  · exact det_leaf ⟨_, rfl⟩
  · refine det_and (fun _ => ?_)
    refine det_call1 dt_wp_X12_in (fun r4 => ?_)
    refine det_if' (fun _ => ?_) (fun _ => ?_)
    · refine det_and (fun _ => ?_)
      refine det_if (fun _ => ?_) (fun _ => ?_)
      · exact det_leaf ⟨_, rfl⟩
      · refine det_and (fun _ => ?_)
        exact det_leaf ⟨_, rfl⟩
    · exact det_leaf ⟨_, rfl⟩
theorem dt_wp_X12_partsOf {S : MST} {a1 : Int32} : Det Ev1 (fun Post : Int32 → Prop => wp_X12_partsOf S a1 Post) := by
  unfold wp_X12_partsOf
  refine det_and (fun _ => ?_)
  refine det_if' (fun _ => ?_) (fun _ => ?_)
  · refine det_call1 dt_wp_X12_codeNow (fun r3 => ?_)
    refine det_and (fun _ => ?_)
    exact det_leaf ⟨_, rfl⟩
  · exact det_leaf ⟨_, rfl⟩
theorem dt_wp_X12_of {S : MST} {a1 : Int32} {a2 : Int32} : Det Ev1 (fun Post : Int32 → Prop => wp_X12_of S a1 a2 Post) := by
  unfold wp_X12_of
  refine det_call1 dt_wp_X12_isMethod (fun r1 => ?_)
  refine det_if' (fun _ => ?_) (fun _ => ?_)
  · rcases zt_0_7 a2 with hk | hk | hk | hk | hk | hk | hk | hk | hk
    · refine det_take hk ?_ (fun _ => ⟨fun e => absurd e (fun e => absurd hk (by rw [e]; decide)), fun e => absurd e (fun e => absurd hk (by rw [e]; decide)), fun e => absurd e (fun e => absurd hk (by rw [e]; decide)), fun e => absurd e (fun e => absurd hk (by rw [e]; decide)), fun e => absurd e (fun e => absurd hk (by rw [e]; decide)), fun e => absurd e (fun e => absurd hk (by rw [e]; decide)), fun e => absurd e (fun e => absurd hk (by rw [e]; decide)), fun e => absurd e (fun e => absurd hk (by rw [e]; decide))⟩)
      exact det_leaf ⟨_, rfl⟩
    · refine det_skip (fun c => absurd c (by rw [hk]; decide)) (det_take hk ?_ (fun _ => ⟨fun e => absurd e (fun e => absurd (hk.symm.trans e) (by decide)), fun e => absurd e (fun e => absurd (hk.symm.trans e) (by decide)), fun e => absurd e (fun e => absurd (hk.symm.trans e) (by decide)), fun e => absurd e (fun e => absurd (hk.symm.trans e) (by decide)), fun e => absurd e (fun e => absurd (hk.symm.trans e) (by decide)), fun e => absurd e (fun e => absurd (hk.symm.trans e) (by decide)), fun e => absurd e (fun e => absurd (hk.symm.trans e) (by decide))⟩))
      refine det_and (fun _ => ?_)
      refine det_if (fun _ => ?_) (fun _ => ?_)
      · exact det_leaf ⟨_, rfl⟩
      · exact det_leaf ⟨_, rfl⟩
    · refine det_skip (fun c => absurd c (by rw [hk]; decide)) (det_skip (fun e => absurd (hk.symm.trans e) (by decide)) (det_take hk ?_ (fun _ => ⟨fun e => absurd e (fun e => absurd (hk.symm.trans e) (by decide)), fun e => absurd e (fun e => absurd (hk.symm.trans e) (by decide)), fun e => absurd e (fun e => absurd (hk.symm.trans e) (by decide)), fun e => absurd e (fun e => absurd (hk.symm.trans e) (by decide)), fun e => absurd e (fun e => absurd (hk.symm.trans e) (by decide)), fun e => absurd e (fun e => absurd (hk.symm.trans e) (by decide))⟩)))
      refine det_and (fun _ => ?_)
      exact det_leaf ⟨_, rfl⟩
    · refine det_skip (fun c => absurd c (by rw [hk]; decide)) (det_skip (fun e => absurd (hk.symm.trans e) (by decide)) (det_skip (fun e => absurd (hk.symm.trans e) (by decide)) (det_take hk ?_ (fun _ => ⟨fun e => absurd e (fun e => absurd (hk.symm.trans e) (by decide)), fun e => absurd e (fun e => absurd (hk.symm.trans e) (by decide)), fun e => absurd e (fun e => absurd (hk.symm.trans e) (by decide)), fun e => absurd e (fun e => absurd (hk.symm.trans e) (by decide)), fun e => absurd e (fun e => absurd (hk.symm.trans e) (by decide))⟩))))
      refine det_and (fun _ => ?_)
      exact det_leaf ⟨_, rfl⟩
    · refine det_skip (fun c => absurd c (by rw [hk]; decide)) (det_skip (fun e => absurd (hk.symm.trans e) (by decide)) (det_skip (fun e => absurd (hk.symm.trans e) (by decide)) (det_skip (fun e => absurd (hk.symm.trans e) (by decide)) (det_take hk ?_ (fun _ => ⟨fun e => absurd e (fun e => absurd (hk.symm.trans e) (by decide)), fun e => absurd e (fun e => absurd (hk.symm.trans e) (by decide)), fun e => absurd e (fun e => absurd (hk.symm.trans e) (by decide)), fun e => absurd e (fun e => absurd (hk.symm.trans e) (by decide))⟩)))))
      refine det_and (fun _ => ?_)
      exact det_leaf ⟨_, rfl⟩
    · refine det_skip (fun c => absurd c (by rw [hk]; decide)) (det_skip (fun e => absurd (hk.symm.trans e) (by decide)) (det_skip (fun e => absurd (hk.symm.trans e) (by decide)) (det_skip (fun e => absurd (hk.symm.trans e) (by decide)) (det_skip (fun e => absurd (hk.symm.trans e) (by decide)) (det_take hk ?_ (fun _ => ⟨fun e => absurd e (fun e => absurd (hk.symm.trans e) (by decide)), fun e => absurd e (fun e => absurd (hk.symm.trans e) (by decide)), fun e => absurd e (fun e => absurd (hk.symm.trans e) (by decide))⟩))))))
      refine det_and (fun _ => ?_)
      exact det_leaf ⟨_, rfl⟩
    · refine det_skip (fun c => absurd c (by rw [hk]; decide)) (det_skip (fun e => absurd (hk.symm.trans e) (by decide)) (det_skip (fun e => absurd (hk.symm.trans e) (by decide)) (det_skip (fun e => absurd (hk.symm.trans e) (by decide)) (det_skip (fun e => absurd (hk.symm.trans e) (by decide)) (det_skip (fun e => absurd (hk.symm.trans e) (by decide)) (det_take hk ?_ (fun _ => ⟨fun e => absurd e (fun e => absurd (hk.symm.trans e) (by decide)), fun e => absurd e (fun e => absurd (hk.symm.trans e) (by decide))⟩)))))))
      refine det_call1 dt_wp_X12_partsOf (fun r9 => ?_)
      exact det_leaf ⟨_, rfl⟩
    · refine det_skip (fun c => absurd c (by rw [hk]; decide)) (det_skip (fun e => absurd (hk.symm.trans e) (by decide)) (det_skip (fun e => absurd (hk.symm.trans e) (by decide)) (det_skip (fun e => absurd (hk.symm.trans e) (by decide)) (det_skip (fun e => absurd (hk.symm.trans e) (by decide)) (det_skip (fun e => absurd (hk.symm.trans e) (by decide)) (det_skip (fun e => absurd (hk.symm.trans e) (by decide)) (det_take hk ?_ (fun _ => fun e => absurd e (fun e => absurd (hk.symm.trans e) (by decide))))))))))
      refine det_and (fun _ => ?_)
      exact det_leaf ⟨_, rfl⟩
    · refine det_skip (fun c => absurd c (by rw [hk]; decide)) (det_skip (fun e => absurd (hk.symm.trans e) (by decide)) (det_skip (fun e => absurd (hk.symm.trans e) (by decide)) (det_skip (fun e => absurd (hk.symm.trans e) (by decide)) (det_skip (fun e => absurd (hk.symm.trans e) (by decide)) (det_skip (fun e => absurd (hk.symm.trans e) (by decide)) (det_skip (fun e => absurd (hk.symm.trans e) (by decide)) (det_skip (fun e => absurd (hk.symm.trans e) (by decide)) (det_last hk ?_))))))))
      refine det_and (fun _ => ?_)
      refine det_if (fun _ => ?_) (fun _ => ?_)
      · exact det_leaf ⟨_, rfl⟩
      · refine det_and (fun _ => ?_)
        exact det_leaf ⟨_, rfl⟩
  · exact det_leaf ⟨_, rfl⟩
theorem dt_wp_X12_part_ {S : MST} {a1 : Int32} {a2 : Int32} {a3 : Int32} : Det Ev1 (fun Post : Int32 → Prop => wp_X12_part_ S a1 a2 a3 Post) := by
  unfold wp_X12_part_
  refine det_call1 dt_wp_X12_isMethod (fun r1 => ?_)
  refine det_if (fun _ => ?_) (fun _ => ?_)
  · exact det_leaf ⟨_, rfl⟩
  · refine det_call1 dt_wp_X12_partsOf (fun r3 => ?_)
    refine det_call1 dt_wp_X12_in (fun r4 => ?_)
    refine det_if' (fun _ => ?_) (fun _ => ?_)
    · refine det_call1 dt_wp_X12_codeNow (fun r6 => ?_)
      rcases zt_0_4 a3 with hk | hk | hk | hk | hk | hk
      · refine det_take hk ?_ (fun _ => ⟨fun e => absurd e (fun e => absurd hk (by rw [e]; decide)), fun e => absurd e (fun e => absurd hk (by rw [e]; decide)), fun e => absurd e (fun e => absurd hk (by rw [e]; decide)), fun e => absurd e (fun e => absurd hk (by rw [e]; decide)), fun e => absurd e (fun e => absurd hk (by rw [e]; decide))⟩)
        exact det_leaf ⟨_, rfl⟩
      · refine det_skip (fun c => absurd c (by rw [hk]; decide)) (det_take hk ?_ (fun _ => ⟨fun e => absurd e (fun e => absurd (hk.symm.trans e) (by decide)), fun e => absurd e (fun e => absurd (hk.symm.trans e) (by decide)), fun e => absurd e (fun e => absurd (hk.symm.trans e) (by decide)), fun e => absurd e (fun e => absurd (hk.symm.trans e) (by decide))⟩))
        refine det_and (fun _ => ?_)
        exact det_leaf ⟨_, rfl⟩
      · refine det_skip (fun c => absurd c (by rw [hk]; decide)) (det_skip (fun e => absurd (hk.symm.trans e) (by decide)) (det_take hk ?_ (fun _ => ⟨fun e => absurd e (fun e => absurd (hk.symm.trans e) (by decide)), fun e => absurd e (fun e => absurd (hk.symm.trans e) (by decide)), fun e => absurd e (fun e => absurd (hk.symm.trans e) (by decide))⟩)))
        refine det_and (fun _ => ?_)
        exact det_leaf ⟨_, rfl⟩
      · refine det_skip (fun c => absurd c (by rw [hk]; decide)) (det_skip (fun e => absurd (hk.symm.trans e) (by decide)) (det_skip (fun e => absurd (hk.symm.trans e) (by decide)) (det_take hk ?_ (fun _ => ⟨fun e => absurd e (fun e => absurd (hk.symm.trans e) (by decide)), fun e => absurd e (fun e => absurd (hk.symm.trans e) (by decide))⟩))))
        refine det_and (fun _ => ?_)
        exact det_leaf ⟨_, rfl⟩
      · refine det_skip (fun c => absurd c (by rw [hk]; decide)) (det_skip (fun e => absurd (hk.symm.trans e) (by decide)) (det_skip (fun e => absurd (hk.symm.trans e) (by decide)) (det_skip (fun e => absurd (hk.symm.trans e) (by decide)) (det_take hk ?_ (fun _ => fun e => absurd e (fun e => absurd (hk.symm.trans e) (by decide)))))))
        refine det_and (fun _ => ?_)
        exact det_leaf ⟨_, rfl⟩
      · refine det_skip (fun c => absurd c (by rw [hk]; decide)) (det_skip (fun e => absurd (hk.symm.trans e) (by decide)) (det_skip (fun e => absurd (hk.symm.trans e) (by decide)) (det_skip (fun e => absurd (hk.symm.trans e) (by decide)) (det_skip (fun e => absurd (hk.symm.trans e) (by decide)) (det_last hk ?_)))))
        refine det_and (fun _ => ?_)
        exact det_leaf ⟨_, rfl⟩
    · exact det_leaf ⟨_, rfl⟩
theorem dl_wl_X12_digest_195 {ρ : Type} {E : (ρ → Prop) → Prop} {S : MST} {K_224 : ρ → Int64 → Int32 → Int32 → Prop} {Pw : ρ → Int64 → Prop} (hK_224 : ∀ (x_0 : Int64) (x_1 : Int32) (x_2 : Int32), Det E (fun P => K_224 P x_0 x_1 x_2)) (hP : ∀ (x_0 : Int64), Det E (fun P => Pw P x_0)) : ∀ (n_ : Nat) (x195_1 : Int64) (x195_3 : Int32) (x195_4 : Int32) (x195_5 : Int32), Det E (fun P => wl_X12_digest_195 S (K_224 P) (Pw P) n_ x195_1 x195_3 x195_4 x195_5) := by
  intro n_
  induction n_ with
  | zero => intro x195_1 x195_3 x195_4 x195_5; unfold wl_X12_digest_195; exact det_false
  | succ n_ ih_ =>
    intro x195_1 x195_3 x195_4 x195_5
    unfold wl_X12_digest_195
    refine det_if (fun _ => ?_) (fun _ => ?_)
    · exact hK_224 _ _ _
    · refine det_call1 dt_wp_X12_part_ (fun r5 => ?_)
      exact ih_ _ _ _ _
theorem dl_wl_X12_digest_182 {ρ : Type} {E : (ρ → Prop) → Prop} {S : MST} {K_230 : ρ → Int64 → Int32 → Prop} {Pw : ρ → Int64 → Prop} (hK_230 : ∀ (x_0 : Int64) (x_1 : Int32), Det E (fun P => K_230 P x_0 x_1)) (hP : ∀ (x_0 : Int64), Det E (fun P => Pw P x_0)) : ∀ (n_ : Nat) (x182_1 : Int64) (x182_3 : Int32) (x182_4 : Int32), Det E (fun P => wl_X12_digest_182 S (K_230 P) (Pw P) n_ x182_1 x182_3 x182_4) := by
  intro n_
  induction n_ with
  | zero => intro x182_1 x182_3 x182_4; unfold wl_X12_digest_182; exact det_false
  | succ n_ ih_ =>
    intro x182_1 x182_3 x182_4
    unfold wl_X12_digest_182
    refine det_call1 dt_wp_X12_partsOf (fun r2 => ?_)
    refine det_if (fun _ => ?_) (fun _ => ?_)
    · exact hK_230 _ _
    · refine det_ex (fun n_195 => ?_)
      refine dl_wl_X12_digest_195 (fun x224_1 x224_3 x224_4 => ?_) (fun _ => ?_) _ _ _ _ _
      · exact ih_ _ _ _
      · exact hP _
theorem dl_wl_X12_digest_151 {ρ : Type} {E : (ρ → Prop) → Prop} {S : MST} {K_179 : ρ → Int64 → Int32 → Prop} {Pw : ρ → Int64 → Prop} (hK_179 : ∀ (x_0 : Int64) (x_1 : Int32), Det E (fun P => K_179 P x_0 x_1)) (hP : ∀ (x_0 : Int64), Det E (fun P => Pw P x_0)) : ∀ (n_ : Nat) (x151_1 : Int64) (x151_3 : Int32) (x151_4 : Int32), Det E (fun P => wl_X12_digest_151 S (K_179 P) (Pw P) n_ x151_1 x151_3 x151_4) := by
  intro n_
  induction n_ with
  | zero => intro x151_1 x151_3 x151_4; unfold wl_X12_digest_151; exact det_false
  | succ n_ ih_ =>
    intro x151_1 x151_3 x151_4
    unfold wl_X12_digest_151
    refine det_if (fun _ => ?_) (fun _ => ?_)
    · exact hK_179 _ _
    · refine det_call1 dt_wp_X12_of (fun r7 => ?_)
      exact ih_ _ _ _
theorem dl_wl_X12_digest_140 {ρ : Type} {E : (ρ → Prop) → Prop} {S : MST} {K_236 : ρ → Int64 → Prop} {Pw : ρ → Int64 → Prop} (hK_236 : ∀ (x_0 : Int64), Det E (fun P => K_236 P x_0)) (hP : ∀ (x_0 : Int64), Det E (fun P => Pw P x_0)) : ∀ (n_ : Nat) (x140_1 : Int64) (x140_3 : Int32), Det E (fun P => wl_X12_digest_140 S (K_236 P) (Pw P) n_ x140_1 x140_3) := by
  intro n_
  induction n_ with
  | zero => intro x140_1 x140_3; unfold wl_X12_digest_140; exact det_false
  | succ n_ ih_ =>
    intro x140_1 x140_3
    unfold wl_X12_digest_140
    refine det_if (fun _ => ?_) (fun _ => ?_)
    · exact hK_236 _
    · refine det_ex (fun n_151 => ?_)
      refine dl_wl_X12_digest_151 (fun x179_1 x179_3 => ?_) (fun _ => ?_) _ _ _ _
      · refine det_ex (fun n_182 => ?_)
        refine dl_wl_X12_digest_182 (fun x230_1 x230_3 => ?_) (fun _ => ?_) _ _ _ _
        · exact ih_ _ _
        · exact hP _
      · exact hP _
theorem dl_wl_X12_digest_113 {ρ : Type} {E : (ρ → Prop) → Prop} {S : MST} {K_138 : ρ → Int64 → Prop} {Pw : ρ → Int64 → Prop} (hK_138 : ∀ (x_0 : Int64), Det E (fun P => K_138 P x_0)) (hP : ∀ (x_0 : Int64), Det E (fun P => Pw P x_0)) : ∀ (n_ : Nat) (x113_1 : Int64) (x113_3 : Int32), Det E (fun P => wl_X12_digest_113 S (K_138 P) (Pw P) n_ x113_1 x113_3) := by
  intro n_
  induction n_ with
  | zero => intro x113_1 x113_3; unfold wl_X12_digest_113; exact det_false
  | succ n_ ih_ =>
    intro x113_1 x113_3
    unfold wl_X12_digest_113
    refine det_if (fun _ => ?_) (fun _ => ?_)
    · exact hK_138 _
    · refine det_and (fun _ => ?_)
      exact ih_ _ _
theorem dl_wl_X12_digest_56 {ρ : Type} {E : (ρ → Prop) → Prop} {S : MST} {K_93 : ρ → Int64 → Int32 → Prop} {Pw : ρ → Int64 → Prop} (hK_93 : ∀ (x_0 : Int64) (x_1 : Int32), Det E (fun P => K_93 P x_0 x_1)) (hP : ∀ (x_0 : Int64), Det E (fun P => Pw P x_0)) : ∀ (n_ : Nat) (x56_1 : Int64) (x56_3 : Int32) (x56_4 : Int32), Det E (fun P => wl_X12_digest_56 S (K_93 P) (Pw P) n_ x56_1 x56_3 x56_4) := by
  intro n_
  induction n_ with
  | zero => intro x56_1 x56_3 x56_4; unfold wl_X12_digest_56; exact det_false
  | succ n_ ih_ =>
    intro x56_1 x56_3 x56_4
    unfold wl_X12_digest_56
    refine det_and (fun _ => ?_)
    refine det_if (fun _ => ?_) (fun _ => ?_)
    · exact hK_93 _ _
    · refine det_and (fun _ => ?_)
      exact ih_ _ _ _
theorem dl_wl_X12_digest_34 {ρ : Type} {E : (ρ → Prop) → Prop} {S : MST} {K_99 : ρ → Int64 → Prop} {Pw : ρ → Int64 → Prop} (hK_99 : ∀ (x_0 : Int64), Det E (fun P => K_99 P x_0)) (hP : ∀ (x_0 : Int64), Det E (fun P => Pw P x_0)) : ∀ (n_ : Nat) (x34_1 : Int64) (x34_3 : Int32), Det E (fun P => wl_X12_digest_34 S (K_99 P) (Pw P) n_ x34_1 x34_3) := by
  intro n_
  induction n_ with
  | zero => intro x34_1 x34_3; unfold wl_X12_digest_34; exact det_false
  | succ n_ ih_ =>
    intro x34_1 x34_3
    unfold wl_X12_digest_34
    refine det_if (fun _ => ?_) (fun _ => ?_)
    · exact hK_99 _
    · refine det_and (fun _ => ?_)
      refine det_ex (fun n_56 => ?_)
      refine dl_wl_X12_digest_56 (fun x93_1 x93_3 => ?_) (fun _ => ?_) _ _ _ _
      · exact ih_ _ _
      · exact hP _
theorem dl_wl_X12_digest_6 {ρ : Type} {E : (ρ → Prop) → Prop} {S : MST} {K_32 : ρ → Int64 → Prop} {Pw : ρ → Int64 → Prop} (hK_32 : ∀ (x_0 : Int64), Det E (fun P => K_32 P x_0)) (hP : ∀ (x_0 : Int64), Det E (fun P => Pw P x_0)) : ∀ (n_ : Nat) (x6_1 : Int64) (x6_3 : Int32), Det E (fun P => wl_X12_digest_6 S (K_32 P) (Pw P) n_ x6_1 x6_3) := by
  intro n_
  induction n_ with
  | zero => intro x6_1 x6_3; unfold wl_X12_digest_6; exact det_false
  | succ n_ ih_ =>
    intro x6_1 x6_3
    unfold wl_X12_digest_6
    refine det_if (fun _ => ?_) (fun _ => ?_)
    · exact hK_32 _
    · refine det_and (fun _ => ?_)
      exact ih_ _ _
theorem dt_wp_X12_digest {S : MST} : Det Ev1 (fun Post : Int64 → Prop => wp_X12_digest S Post) := by
  unfold wp_X12_digest
  refine det_ex (fun n_6 => ?_)
  refine dl_wl_X12_digest_6 (fun x32_1 => ?_) (fun _ => ?_) _ _ _
  · refine det_ex (fun n_34 => ?_)
    refine dl_wl_X12_digest_34 (fun x99_1 => ?_) (fun _ => ?_) _ _ _
    · refine det_ex (fun n_113 => ?_)
      refine dl_wl_X12_digest_113 (fun x138_1 => ?_) (fun _ => ?_) _ _ _
      · refine det_ex (fun n_140 => ?_)
        refine dl_wl_X12_digest_140 (fun x236_1 => ?_) (fun _ => ?_) _ _ _
        · exact det_leaf ⟨_, rfl⟩
        · exact det_leaf ⟨_, rfl⟩
      · exact det_leaf ⟨_, rfl⟩
    · exact det_leaf ⟨_, rfl⟩
  · exact det_leaf ⟨_, rfl⟩
theorem dl_wl_X12_isBehindCall_4 {ρ : Type} {E : (ρ → Prop) → Prop} {S : MST} {K_53 : ρ → Int32 → Int32 → Prop} {Pw : ρ → Int32 → Prop} (hK_53 : ∀ (x_0 : Int32) (x_1 : Int32), Det E (fun P => K_53 P x_0 x_1)) (hP : ∀ (x_0 : Int32), Det E (fun P => Pw P x_0)) : ∀ (n_ : Nat) (x4_1 : Int32) (x4_2 : Int32), Det E (fun P => wl_X12_isBehindCall_4 S (K_53 P) (Pw P) n_ x4_1 x4_2) := by
  intro n_
  induction n_ with
  | zero => intro x4_1 x4_2; unfold wl_X12_isBehindCall_4; exact det_false
  | succ n_ ih_ =>
    intro x4_1 x4_2
    unfold wl_X12_isBehindCall_4
    refine det_if (fun _ => ?_) (fun _ => ?_)
    · exact hK_53 _ _
    · refine det_and (fun _ => ?_)
      refine det_if' (fun _ => ?_) (fun _ => ?_)
      · exact hK_53 _ _
      · refine det_and (fun _ => ?_)
        refine det_and (fun _ => ?_)
        refine det_if' (fun _ => ?_) (fun _ => ?_)
        · exact hK_53 _ _
        · refine det_if' (fun _ => ?_) (fun _ => ?_)
          · exact hK_53 _ _
          · exact ih_ _ _
theorem dt_wp_X12_isBehindCall {S : MST} {a1 : Int32} : Det Ev1 (fun Post : Int32 → Prop => wp_X12_isBehindCall S a1 Post) := by
  unfold wp_X12_isBehindCall
  refine det_ex (fun n_4 => ?_)
  refine dl_wl_X12_isBehindCall_4 (fun x53_1 x53_2 => ?_) (fun _ => ?_) _ _ _
  · refine det_if (fun _ => ?_) (fun _ => ?_)
    · exact det_leaf ⟨_, rfl⟩
    · refine det_if' (fun _ => ?_) (fun _ => ?_)
      · exact det_leaf ⟨_, rfl⟩
      · refine det_and (fun _ => ?_)
        refine det_if' (fun _ => ?_) (fun _ => ?_)
        · exact det_leaf ⟨_, rfl⟩
        · refine det_and (fun _ => ?_)
          refine det_and (fun _ => ?_)
          refine det_if' (fun _ => ?_) (fun _ => ?_)
          · exact det_leaf ⟨_, rfl⟩
          · exact det_leaf ⟨_, rfl⟩
  · exact det_leaf ⟨_, rfl⟩
theorem dt_wj_X12_fails_128 {S_128 : MST} {x128_1 : Int32} {x128_4 : Int32} {x128_6 : Int32} : Det Ev1 (fun Post : MST → Prop => wj_X12_fails_128 S_128 x128_1 x128_4 x128_6 Post) := by
  unfold wj_X12_fails_128
  refine det_and (fun _ => ?_)
  refine det_letn (fun S1 => ?_)
  refine det_and (fun _ => ?_)
  refine det_letn (fun S2 => ?_)
  refine det_and (fun _ => ?_)
  refine det_and (fun _ => ?_)
  refine det_letn (fun S4 => ?_)
  exact det_leaf ⟨_, rfl⟩
theorem dt_wj_X12_fails_109 {S_109 : MST} {x109_1 : Int32} {x109_2 : Int32} {x109_4 : Int32} {x109_5 : Int32} : Det Ev1 (fun Post : MST → Prop => wj_X12_fails_109 S_109 x109_1 x109_2 x109_4 x109_5 Post) := by
  unfold wj_X12_fails_109
  refine det_if (fun _ => ?_) (fun _ => ?_)
  · refine det_call1 dt_wj_X12_fails_128 (fun _ => ?_)
    exact det_leaf ⟨_, rfl⟩
  · refine det_and (fun _ => ?_)
    refine det_call1 dt_wj_X12_fails_128 (fun _ => ?_)
    exact det_leaf ⟨_, rfl⟩
theorem dt_wj_X12_fails_83 {S_83 : MST} {x83_1 : Int32} {x83_2 : Int32} {x83_4 : Int32} : Det Ev1 (fun Post : MST → Prop => wj_X12_fails_83 S_83 x83_1 x83_2 x83_4 Post) := by
  unfold wj_X12_fails_83
  refine det_and (fun _ => ?_)
  refine det_if' (fun _ => ?_) (fun _ => ?_)
  · refine det_call1 dt_wj_X12_fails_109 (fun _ => ?_)
    exact det_leaf ⟨_, rfl⟩
  · refine det_call1 dt_wp_X12_isBehindCall (fun r9 => ?_)
    refine det_if (fun _ => ?_) (fun _ => ?_)
    · refine det_call1 dt_wj_X12_fails_109 (fun _ => ?_)
      exact det_leaf ⟨_, rfl⟩
    · refine det_call1 dt_wj_X12_fails_109 (fun _ => ?_)
      exact det_leaf ⟨_, rfl⟩
theorem dt_wp_X12_fails {S : MST} {a1 : Int32} {a2 : Int32} {a3 : Int32} : Det Ev1 (fun Post : MST → Prop => wp_X12_fails S a1 a2 a3 Post) := by
  unfold wp_X12_fails
  refine det_and (fun _ => ?_)
  refine det_and (fun _ => ?_)
  refine det_and (fun _ => ?_)
  refine det_letn (fun S13 => ?_)
  refine det_letn (fun S14 => ?_)
  refine det_and (fun _ => ?_)
  refine det_letn (fun S15 => ?_)
  refine det_and (fun _ => ?_)
  refine det_if (fun _ => ?_) (fun _ => ?_)
  · refine det_call1 dt_wj_X12_fails_83 (fun _ => ?_)
    exact det_leaf ⟨_, rfl⟩
  · refine det_and (fun _ => ?_)
    refine det_call1 dt_wp_X12_codeNow (fun r19 => ?_)
    refine det_if' (fun _ => ?_) (fun _ => ?_)
    · refine det_call1 dt_wj_X12_fails_83 (fun _ => ?_)
      exact det_leaf ⟨_, rfl⟩
    · refine det_and (fun _ => ?_)
      refine det_letn (fun S21 => ?_)
      refine det_and (fun _ => ?_)
      refine det_letn (fun S22 => ?_)
      refine det_call1 dt_wj_X12_fails_83 (fun _ => ?_)
      exact det_leaf ⟨_, rfl⟩
theorem dt_wp_X12_fault {S : MST} : Det Ev1 (fun Post : Int32 → Prop => wp_X12_fault S Post) := by
  unfold wp_X12_fault
  exact det_leaf ⟨_, rfl⟩
theorem dt_wp_X12_field {S : MST} {a1 : Int32} : Det Ev1 (fun Post : Int32 → Prop => wp_X12_field S a1 Post) := by
  unfold wp_X12_field
  refine det_call1 dt_wp_X12_in (fun r1 => ?_)
  refine det_if (fun _ => ?_) (fun _ => ?_)
  · exact det_leaf ⟨_, rfl⟩
  · refine det_and (fun _ => ?_)
    exact det_leaf ⟨_, rfl⟩
theorem dt_wj_X12_takes_99 {S : MST} {x99_1 : Int32} : Det Ev1 (fun Post : Int32 → Prop => wj_X12_takes_99 S x99_1 Post) := by
  unfold wj_X12_takes_99
  refine det_if (fun _ => ?_) (fun _ => ?_)
  · exact det_leaf ⟨_, rfl⟩
  · refine det_if (fun _ => ?_) (fun _ => ?_)
    · exact det_leaf ⟨_, rfl⟩
    · exact det_leaf ⟨_, rfl⟩
theorem dt_wp_X12_takes {S : MST} {a1 : Int32} {a2 : Int32} : Det Ev1 (fun Post : Int32 → Prop => wp_X12_takes S a1 a2 Post) := by
  unfold wp_X12_takes
  rcases zt_0_17 a1 with hk | hk | hk | hk | hk | hk | hk | hk | hk | hk | hk | hk | hk | hk | hk | hk | hk | hk | hk
  · refine det_take hk ?_ (fun _ => ⟨fun e => absurd e (fun e => absurd hk (by rw [e]; decide)), fun e => absurd e (fun e => absurd hk (by rw [e]; decide)), fun e => absurd e (fun e => absurd hk (by rw [e]; decide)), fun e => absurd e (fun e => absurd hk (by rw [e]; decide)), fun e => absurd e (fun e => absurd hk (by rw [e]; decide)), fun e => absurd e (fun e => absurd hk (by rw [e]; decide)), fun e => absurd e (fun e => absurd hk (by rw [e]; decide)), fun e => absurd e (fun e => absurd hk (by rw [e]; decide)), fun e => absurd e (fun e => absurd hk (by rw [e]; decide)), fun e => absurd e (fun e => absurd hk (by rw [e]; decide)), fun e => absurd e (fun e => absurd hk (by rw [e]; decide)), fun e => absurd e (fun e => absurd hk (by rw [e]; decide)), fun e => absurd e (fun e => absurd hk (by rw [e]; decide)), fun e => absurd e (fun e => absurd hk (by rw [e]; decide)), fun e => absurd e (fun e => absurd hk (by rw [e]; decide)), fun e => absurd e (fun e => absurd hk (by rw [e]; decide)), fun e => absurd e (fun e => absurd hk (by rw [e]; decide)), fun e => absurd e (fun e => absurd hk (by rw [e]; decide))⟩)
    refine det_call1 dt_wj_X12_takes_99 (fun _ => ?_)
    exact det_leaf ⟨_, rfl⟩
  · refine det_skip (fun c => absurd c (by rw [hk]; decide)) (det_take hk ?_ (fun _ => ⟨fun e => absurd e (fun e => absurd (hk.symm.trans e) (by decide)), fun e => absurd e (fun e => absurd (hk.symm.trans e) (by decide)), fun e => absurd e (fun e => absurd (hk.symm.trans e) (by decide)), fun e => absurd e (fun e => absurd (hk.symm.trans e) (by decide)), fun e => absurd e (fun e => absurd (hk.symm.trans e) (by decide)), fun e => absurd e (fun e => absurd (hk.symm.trans e) (by decide)), fun e => absurd e (fun e => absurd (hk.symm.trans e) (by decide)), fun e => absurd e (fun e => absurd (hk.symm.trans e) (by decide)), fun e => absurd e (fun e => absurd (hk.symm.trans e) (by decide)), fun e => absurd e (fun e => absurd (hk.symm.trans e) (by decide)), fun e => absurd e (fun e => absurd (hk.symm.trans e) (by decide)), fun e => absurd e (fun e => absurd (hk.symm.trans e) (by decide)), fun e => absurd e (fun e => absurd (hk.symm.trans e) (by decide)), fun e => absurd e (fun e => absurd (hk.symm.trans e) (by decide)), fun e => absurd e (fun e => absurd (hk.symm.trans e) (by decide)), fun e => absurd e (fun e => absurd (hk.symm.trans e) (by decide)), fun e => absurd e (fun e => absurd (hk.symm.trans e) (by decide))⟩))
    exact det_leaf ⟨_, rfl⟩
  · refine det_skip (fun c => absurd c (by rw [hk]; decide)) (det_skip (fun e => absurd (hk.symm.trans e) (by decide)) (det_take hk ?_ (fun _ => ⟨fun e => absurd e (fun e => absurd (hk.symm.trans e) (by decide)), fun e => absurd e (fun e => absurd (hk.symm.trans e) (by decide)), fun e => absurd e (fun e => absurd (hk.symm.trans e) (by decide)), fun e => absurd e (fun e => absurd (hk.symm.trans e) (by decide)), fun e => absurd e (fun e => absurd (hk.symm.trans e) (by decide)), fun e => absurd e (fun e => absurd (hk.symm.trans e) (by decide)), fun e => absurd e (fun e => absurd (hk.symm.trans e) (by decide)), fun e => absurd e (fun e => absurd (hk.symm.trans e) (by decide)), fun e => absurd e (fun e => absurd (hk.symm.trans e) (by decide)), fun e => absurd e (fun e => absurd (hk.symm.trans e) (by decide)), fun e => absurd e (fun e => absurd (hk.symm.trans e) (by decide)), fun e => absurd e (fun e => absurd (hk.symm.trans e) (by decide)), fun e => absurd e (fun e => absurd (hk.symm.trans e) (by decide)), fun e => absurd e (fun e => absurd (hk.symm.trans e) (by decide)), fun e => absurd e (fun e => absurd (hk.symm.trans e) (by decide)), fun e => absurd e (fun e => absurd (hk.symm.trans e) (by decide))⟩)))
    exact det_leaf ⟨_, rfl⟩
  · refine det_skip (fun c => absurd c (by rw [hk]; decide)) (det_skip (fun e => absurd (hk.symm.trans e) (by decide)) (det_skip (fun e => absurd (hk.symm.trans e) (by decide)) (det_take hk ?_ (fun _ => ⟨fun e => absurd e (fun e => absurd (hk.symm.trans e) (by decide)), fun e => absurd e (fun e => absurd (hk.symm.trans e) (by decide)), fun e => absurd e (fun e => absurd (hk.symm.trans e) (by decide)), fun e => absurd e (fun e => absurd (hk.symm.trans e) (by decide)), fun e => absurd e (fun e => absurd (hk.symm.trans e) (by decide)), fun e => absurd e (fun e => absurd (hk.symm.trans e) (by decide)), fun e => absurd e (fun e => absurd (hk.symm.trans e) (by decide)), fun e => absurd e (fun e => absurd (hk.symm.trans e) (by decide)), fun e => absurd e (fun e => absurd (hk.symm.trans e) (by decide)), fun e => absurd e (fun e => absurd (hk.symm.trans e) (by decide)), fun e => absurd e (fun e => absurd (hk.symm.trans e) (by decide)), fun e => absurd e (fun e => absurd (hk.symm.trans e) (by decide)), fun e => absurd e (fun e => absurd (hk.symm.trans e) (by decide)), fun e => absurd e (fun e => absurd (hk.symm.trans e) (by decide)), fun e => absurd e (fun e => absurd (hk.symm.trans e) (by decide))⟩))))
    refine det_call1 dt_wj_X12_takes_99 (fun _ => ?_)
    exact det_leaf ⟨_, rfl⟩
  · refine det_skip (fun c => absurd c (by rw [hk]; decide)) (det_skip (fun e => absurd (hk.symm.trans e) (by decide)) (det_skip (fun e => absurd (hk.symm.trans e) (by decide)) (det_skip (fun e => absurd (hk.symm.trans e) (by decide)) (det_take hk ?_ (fun _ => ⟨fun e => absurd e (fun e => absurd (hk.symm.trans e) (by decide)), fun e => absurd e (fun e => absurd (hk.symm.trans e) (by decide)), fun e => absurd e (fun e => absurd (hk.symm.trans e) (by decide)), fun e => absurd e (fun e => absurd (hk.symm.trans e) (by decide)), fun e => absurd e (fun e => absurd (hk.symm.trans e) (by decide)), fun e => absurd e (fun e => absurd (hk.symm.trans e) (by decide)), fun e => absurd e (fun e => absurd (hk.symm.trans e) (by decide)), fun e => absurd e (fun e => absurd (hk.symm.trans e) (by decide)), fun e => absurd e (fun e => absurd (hk.symm.trans e) (by decide)), fun e => absurd e (fun e => absurd (hk.symm.trans e) (by decide)), fun e => absurd e (fun e => absurd (hk.symm.trans e) (by decide)), fun e => absurd e (fun e => absurd (hk.symm.trans e) (by decide)), fun e => absurd e (fun e => absurd (hk.symm.trans e) (by decide)), fun e => absurd e (fun e => absurd (hk.symm.trans e) (by decide))⟩)))))
    refine det_call1 dt_wj_X12_takes_99 (fun _ => ?_)
    exact det_leaf ⟨_, rfl⟩
  · refine det_skip (fun c => absurd c (by rw [hk]; decide)) (det_skip (fun e => absurd (hk.symm.trans e) (by decide)) (det_skip (fun e => absurd (hk.symm.trans e) (by decide)) (det_skip (fun e => absurd (hk.symm.trans e) (by decide)) (det_skip (fun e => absurd (hk.symm.trans e) (by decide)) (det_take hk ?_ (fun _ => ⟨fun e => absurd e (fun e => absurd (hk.symm.trans e) (by decide)), fun e => absurd e (fun e => absurd (hk.symm.trans e) (by decide)), fun e => absurd e (fun e => absurd (hk.symm.trans e) (by decide)), fun e => absurd e (fun e => absurd (hk.symm.trans e) (by decide)), fun e => absurd e (fun e => absurd (hk.symm.trans e) (by decide)), fun e => absurd e (fun e => absurd (hk.symm.trans e) (by decide)), fun e => absurd e (fun e => absurd (hk.symm.trans e) (by decide)), fun e => absurd e (fun e => absurd (hk.symm.trans e) (by decide)), fun e => absurd e (fun e => absurd (hk.symm.trans e) (by decide)), fun e => absurd e (fun e => absurd (hk.symm.trans e) (by decide)), fun e => absurd e (fun e => absurd (hk.symm.trans e) (by decide)), fun e => absurd e (fun e => absurd (hk.symm.trans e) (by decide)), fun e => absurd e (fun e => absurd (hk.symm.trans e) (by decide))⟩))))))
    refine det_call1 dt_wj_X12_takes_99 (fun _ => ?_)
    exact det_leaf ⟨_, rfl⟩
  · refine det_skip (fun c => absurd c (by rw [hk]; decide)) (det_skip (fun e => absurd (hk.symm.trans e) (by decide)) (det_skip (fun e => absurd (hk.symm.trans e) (by decide)) (det_skip (fun e => absurd (hk.symm.trans e) (by decide)) (det_skip (fun e => absurd (hk.symm.trans e) (by decide)) (det_skip (fun e => absurd (hk.symm.trans e) (by decide)) (det_take hk ?_ (fun _ => ⟨fun e => absurd e (fun e => absurd (hk.symm.trans e) (by decide)), fun e => absurd e (fun e => absurd (hk.symm.trans e) (by decide)), fun e => absurd e (fun e => absurd (hk.symm.trans e) (by decide)), fun e => absurd e (fun e => absurd (hk.symm.trans e) (by decide)), fun e => absurd e (fun e => absurd (hk.symm.trans e) (by decide)), fun e => absurd e (fun e => absurd (hk.symm.trans e) (by decide)), fun e => absurd e (fun e => absurd (hk.symm.trans e) (by decide)), fun e => absurd e (fun e => absurd (hk.symm.trans e) (by decide)), fun e => absurd e (fun e => absurd (hk.symm.trans e) (by decide)), fun e => absurd e (fun e => absurd (hk.symm.trans e) (by decide)), fun e => absurd e (fun e => absurd (hk.symm.trans e) (by decide)), fun e => absurd e (fun e => absurd (hk.symm.trans e) (by decide))⟩)))))))
    refine det_call1 dt_wj_X12_takes_99 (fun _ => ?_)
    exact det_leaf ⟨_, rfl⟩
  · refine det_skip (fun c => absurd c (by rw [hk]; decide)) (det_skip (fun e => absurd (hk.symm.trans e) (by decide)) (det_skip (fun e => absurd (hk.symm.trans e) (by decide)) (det_skip (fun e => absurd (hk.symm.trans e) (by decide)) (det_skip (fun e => absurd (hk.symm.trans e) (by decide)) (det_skip (fun e => absurd (hk.symm.trans e) (by decide)) (det_skip (fun e => absurd (hk.symm.trans e) (by decide)) (det_take hk ?_ (fun _ => ⟨fun e => absurd e (fun e => absurd (hk.symm.trans e) (by decide)), fun e => absurd e (fun e => absurd (hk.symm.trans e) (by decide)), fun e => absurd e (fun e => absurd (hk.symm.trans e) (by decide)), fun e => absurd e (fun e => absurd (hk.symm.trans e) (by decide)), fun e => absurd e (fun e => absurd (hk.symm.trans e) (by decide)), fun e => absurd e (fun e => absurd (hk.symm.trans e) (by decide)), fun e => absurd e (fun e => absurd (hk.symm.trans e) (by decide)), fun e => absurd e (fun e => absurd (hk.symm.trans e) (by decide)), fun e => absurd e (fun e => absurd (hk.symm.trans e) (by decide)), fun e => absurd e (fun e => absurd (hk.symm.trans e) (by decide)), fun e => absurd e (fun e => absurd (hk.symm.trans e) (by decide))⟩))))))))
    refine det_call1 dt_wj_X12_takes_99 (fun _ => ?_)
    exact det_leaf ⟨_, rfl⟩
  · refine det_skip (fun c => absurd c (by rw [hk]; decide)) (det_skip (fun e => absurd (hk.symm.trans e) (by decide)) (det_skip (fun e => absurd (hk.symm.trans e) (by decide)) (det_skip (fun e => absurd (hk.symm.trans e) (by decide)) (det_skip (fun e => absurd (hk.symm.trans e) (by decide)) (det_skip (fun e => absurd (hk.symm.trans e) (by decide)) (det_skip (fun e => absurd (hk.symm.trans e) (by decide)) (det_skip (fun e => absurd (hk.symm.trans e) (by decide)) (det_take hk ?_ (fun _ => ⟨fun e => absurd e (fun e => absurd (hk.symm.trans e) (by decide)), fun e => absurd e (fun e => absurd (hk.symm.trans e) (by decide)), fun e => absurd e (fun e => absurd (hk.symm.trans e) (by decide)), fun e => absurd e (fun e => absurd (hk.symm.trans e) (by decide)), fun e => absurd e (fun e => absurd (hk.symm.trans e) (by decide)), fun e => absurd e (fun e => absurd (hk.symm.trans e) (by decide)), fun e => absurd e (fun e => absurd (hk.symm.trans e) (by decide)), fun e => absurd e (fun e => absurd (hk.symm.trans e) (by decide)), fun e => absurd e (fun e => absurd (hk.symm.trans e) (by decide)), fun e => absurd e (fun e => absurd (hk.symm.trans e) (by decide))⟩)))))))))
    refine det_call1 dt_wj_X12_takes_99 (fun _ => ?_)
    exact det_leaf ⟨_, rfl⟩
  · refine det_skip (fun c => absurd c (by rw [hk]; decide)) (det_skip (fun e => absurd (hk.symm.trans e) (by decide)) (det_skip (fun e => absurd (hk.symm.trans e) (by decide)) (det_skip (fun e => absurd (hk.symm.trans e) (by decide)) (det_skip (fun e => absurd (hk.symm.trans e) (by decide)) (det_skip (fun e => absurd (hk.symm.trans e) (by decide)) (det_skip (fun e => absurd (hk.symm.trans e) (by decide)) (det_skip (fun e => absurd (hk.symm.trans e) (by decide)) (det_skip (fun e => absurd (hk.symm.trans e) (by decide)) (det_take hk ?_ (fun _ => ⟨fun e => absurd e (fun e => absurd (hk.symm.trans e) (by decide)), fun e => absurd e (fun e => absurd (hk.symm.trans e) (by decide)), fun e => absurd e (fun e => absurd (hk.symm.trans e) (by decide)), fun e => absurd e (fun e => absurd (hk.symm.trans e) (by decide)), fun e => absurd e (fun e => absurd (hk.symm.trans e) (by decide)), fun e => absurd e (fun e => absurd (hk.symm.trans e) (by decide)), fun e => absurd e (fun e => absurd (hk.symm.trans e) (by decide)), fun e => absurd e (fun e => absurd (hk.symm.trans e) (by decide)), fun e => absurd e (fun e => absurd (hk.symm.trans e) (by decide))⟩))))))))))
    refine det_call1 dt_wj_X12_takes_99 (fun _ => ?_)
    exact det_leaf ⟨_, rfl⟩
  · refine det_skip (fun c => absurd c (by rw [hk]; decide)) (det_skip (fun e => absurd (hk.symm.trans e) (by decide)) (det_skip (fun e => absurd (hk.symm.trans e) (by decide)) (det_skip (fun e => absurd (hk.symm.trans e) (by decide)) (det_skip (fun e => absurd (hk.symm.trans e) (by decide)) (det_skip (fun e => absurd (hk.symm.trans e) (by decide)) (det_skip (fun e => absurd (hk.symm.trans e) (by decide)) (det_skip (fun e => absurd (hk.symm.trans e) (by decide)) (det_skip (fun e => absurd (hk.symm.trans e) (by decide)) (det_skip (fun e => absurd (hk.symm.trans e) (by decide)) (det_take hk ?_ (fun _ => ⟨fun e => absurd e (fun e => absurd (hk.symm.trans e) (by decide)), fun e => absurd e (fun e => absurd (hk.symm.trans e) (by decide)), fun e => absurd e (fun e => absurd (hk.symm.trans e) (by decide)), fun e => absurd e (fun e => absurd (hk.symm.trans e) (by decide)), fun e => absurd e (fun e => absurd (hk.symm.trans e) (by decide)), fun e => absurd e (fun e => absurd (hk.symm.trans e) (by decide)), fun e => absurd e (fun e => absurd (hk.symm.trans e) (by decide)), fun e => absurd e (fun e => absurd (hk.symm.trans e) (by decide))⟩)))))))))))
    exact det_leaf ⟨_, rfl⟩
  · refine det_skip (fun c => absurd c (by rw [hk]; decide)) (det_skip (fun e => absurd (hk.symm.trans e) (by decide)) (det_skip (fun e => absurd (hk.symm.trans e) (by decide)) (det_skip (fun e => absurd (hk.symm.trans e) (by decide)) (det_skip (fun e => absurd (hk.symm.trans e) (by decide)) (det_skip (fun e => absurd (hk.symm.trans e) (by decide)) (det_skip (fun e => absurd (hk.symm.trans e) (by decide)) (det_skip (fun e => absurd (hk.symm.trans e) (by decide)) (det_skip (fun e => absurd (hk.symm.trans e) (by decide)) (det_skip (fun e => absurd (hk.symm.trans e) (by decide)) (det_skip (fun e => absurd (hk.symm.trans e) (by decide)) (det_take hk ?_ (fun _ => ⟨fun e => absurd e (fun e => absurd (hk.symm.trans e) (by decide)), fun e => absurd e (fun e => absurd (hk.symm.trans e) (by decide)), fun e => absurd e (fun e => absurd (hk.symm.trans e) (by decide)), fun e => absurd e (fun e => absurd (hk.symm.trans e) (by decide)), fun e => absurd e (fun e => absurd (hk.symm.trans e) (by decide)), fun e => absurd e (fun e => absurd (hk.symm.trans e) (by decide)), fun e => absurd e (fun e => absurd (hk.symm.trans e) (by decide))⟩))))))))))))
    refine det_call1 dt_wj_X12_takes_99 (fun _ => ?_)
    exact det_leaf ⟨_, rfl⟩
  · refine det_skip (fun c => absurd c (by rw [hk]; decide)) (det_skip (fun e => absurd (hk.symm.trans e) (by decide)) (det_skip (fun e => absurd (hk.symm.trans e) (by decide)) (det_skip (fun e => absurd (hk.symm.trans e) (by decide)) (det_skip (fun e => absurd (hk.symm.trans e) (by decide)) (det_skip (fun e => absurd (hk.symm.trans e) (by decide)) (det_skip (fun e => absurd (hk.symm.trans e) (by decide)) (det_skip (fun e => absurd (hk.symm.trans e) (by decide)) (det_skip (fun e => absurd (hk.symm.trans e) (by decide)) (det_skip (fun e => absurd (hk.symm.trans e) (by decide)) (det_skip (fun e => absurd (hk.symm.trans e) (by decide)) (det_skip (fun e => absurd (hk.symm.trans e) (by decide)) (det_take hk ?_ (fun _ => ⟨fun e => absurd e (fun e => absurd (hk.symm.trans e) (by decide)), fun e => absurd e (fun e => absurd (hk.symm.trans e) (by decide)), fun e => absurd e (fun e => absurd (hk.symm.trans e) (by decide)), fun e => absurd e (fun e => absurd (hk.symm.trans e) (by decide)), fun e => absurd e (fun e => absurd (hk.symm.trans e) (by decide)), fun e => absurd e (fun e => absurd (hk.symm.trans e) (by decide))⟩)))))))))))))
    refine det_and (fun _ => ?_)
    exact det_leaf ⟨_, rfl⟩
  · refine det_skip (fun c => absurd c (by rw [hk]; decide)) (det_skip (fun e => absurd (hk.symm.trans e) (by decide)) (det_skip (fun e => absurd (hk.symm.trans e) (by decide)) (det_skip (fun e => absurd (hk.symm.trans e) (by decide)) (det_skip (fun e => absurd (hk.symm.trans e) (by decide)) (det_skip (fun e => absurd (hk.symm.trans e) (by decide)) (det_skip (fun e => absurd (hk.symm.trans e) (by decide)) (det_skip (fun e => absurd (hk.symm.trans e) (by decide)) (det_skip (fun e => absurd (hk.symm.trans e) (by decide)) (det_skip (fun e => absurd (hk.symm.trans e) (by decide)) (det_skip (fun e => absurd (hk.symm.trans e) (by decide)) (det_skip (fun e => absurd (hk.symm.trans e) (by decide)) (det_skip (fun e => absurd (hk.symm.trans e) (by decide)) (det_take hk ?_ (fun _ => ⟨fun e => absurd e (fun e => absurd (hk.symm.trans e) (by decide)), fun e => absurd e (fun e => absurd (hk.symm.trans e) (by decide)), fun e => absurd e (fun e => absurd (hk.symm.trans e) (by decide)), fun e => absurd e (fun e => absurd (hk.symm.trans e) (by decide)), fun e => absurd e (fun e => absurd (hk.symm.trans e) (by decide))⟩))))))))))))))
    refine det_call1 dt_wj_X12_takes_99 (fun _ => ?_)
    exact det_leaf ⟨_, rfl⟩
  · refine det_skip (fun c => absurd c (by rw [hk]; decide)) (det_skip (fun e => absurd (hk.symm.trans e) (by decide)) (det_skip (fun e => absurd (hk.symm.trans e) (by decide)) (det_skip (fun e => absurd (hk.symm.trans e) (by decide)) (det_skip (fun e => absurd (hk.symm.trans e) (by decide)) (det_skip (fun e => absurd (hk.symm.trans e) (by decide)) (det_skip (fun e => absurd (hk.symm.trans e) (by decide)) (det_skip (fun e => absurd (hk.symm.trans e) (by decide)) (det_skip (fun e => absurd (hk.symm.trans e) (by decide)) (det_skip (fun e => absurd (hk.symm.trans e) (by decide)) (det_skip (fun e => absurd (hk.symm.trans e) (by decide)) (det_skip (fun e => absurd (hk.symm.trans e) (by decide)) (det_skip (fun e => absurd (hk.symm.trans e) (by decide)) (det_skip (fun e => absurd (hk.symm.trans e) (by decide)) (det_take hk ?_ (fun _ => ⟨fun e => absurd e (fun e => absurd (hk.symm.trans e) (by decide)), fun e => absurd e (fun e => absurd (hk.symm.trans e) (by decide)), fun e => absurd e (fun e => absurd (hk.symm.trans e) (by decide)), fun e => absurd e (fun e => absurd (hk.symm.trans e) (by decide))⟩)))))))))))))))
    exact det_leaf ⟨_, rfl⟩
  · refine det_skip (fun c => absurd c (by rw [hk]; decide)) (det_skip (fun e => absurd (hk.symm.trans e) (by decide)) (det_skip (fun e => absurd (hk.symm.trans e) (by decide)) (det_skip (fun e => absurd (hk.symm.trans e) (by decide)) (det_skip (fun e => absurd (hk.symm.trans e) (by decide)) (det_skip (fun e => absurd (hk.symm.trans e) (by decide)) (det_skip (fun e => absurd (hk.symm.trans e) (by decide)) (det_skip (fun e => absurd (hk.symm.trans e) (by decide)) (det_skip (fun e => absurd (hk.symm.trans e) (by decide)) (det_skip (fun e => absurd (hk.symm.trans e) (by decide)) (det_skip (fun e => absurd (hk.symm.trans e) (by decide)) (det_skip (fun e => absurd (hk.symm.trans e) (by decide)) (det_skip (fun e => absurd (hk.symm.trans e) (by decide)) (det_skip (fun e => absurd (hk.symm.trans e) (by decide)) (det_skip (fun e => absurd (hk.symm.trans e) (by decide)) (det_take hk ?_ (fun _ => ⟨fun e => absurd e (fun e => absurd (hk.symm.trans e) (by decide)), fun e => absurd e (fun e => absurd (hk.symm.trans e) (by decide)), fun e => absurd e (fun e => absurd (hk.symm.trans e) (by decide))⟩))))))))))))))))
    refine det_call1 dt_wj_X12_takes_99 (fun _ => ?_)
    exact det_leaf ⟨_, rfl⟩
  · refine det_skip (fun c => absurd c (by rw [hk]; decide)) (det_skip (fun e => absurd (hk.symm.trans e) (by decide)) (det_skip (fun e => absurd (hk.symm.trans e) (by decide)) (det_skip (fun e => absurd (hk.symm.trans e) (by decide)) (det_skip (fun e => absurd (hk.symm.trans e) (by decide)) (det_skip (fun e => absurd (hk.symm.trans e) (by decide)) (det_skip (fun e => absurd (hk.symm.trans e) (by decide)) (det_skip (fun e => absurd (hk.symm.trans e) (by decide)) (det_skip (fun e => absurd (hk.symm.trans e) (by decide)) (det_skip (fun e => absurd (hk.symm.trans e) (by decide)) (det_skip (fun e => absurd (hk.symm.trans e) (by decide)) (det_skip (fun e => absurd (hk.symm.trans e) (by decide)) (det_skip (fun e => absurd (hk.symm.trans e) (by decide)) (det_skip (fun e => absurd (hk.symm.trans e) (by decide)) (det_skip (fun e => absurd (hk.symm.trans e) (by decide)) (det_skip (fun e => absurd (hk.symm.trans e) (by decide)) (det_take hk ?_ (fun _ => ⟨fun e => absurd e (fun e => absurd (hk.symm.trans e) (by decide)), fun e => absurd e (fun e => absurd (hk.symm.trans e) (by decide))⟩)))))))))))))))))
    refine det_call1 dt_wj_X12_takes_99 (fun _ => ?_)
    exact det_leaf ⟨_, rfl⟩
  · refine det_skip (fun c => absurd c (by rw [hk]; decide)) (det_skip (fun e => absurd (hk.symm.trans e) (by decide)) (det_skip (fun e => absurd (hk.symm.trans e) (by decide)) (det_skip (fun e => absurd (hk.symm.trans e) (by decide)) (det_skip (fun e => absurd (hk.symm.trans e) (by decide)) (det_skip (fun e => absurd (hk.symm.trans e) (by decide)) (det_skip (fun e => absurd (hk.symm.trans e) (by decide)) (det_skip (fun e => absurd (hk.symm.trans e) (by decide)) (det_skip (fun e => absurd (hk.symm.trans e) (by decide)) (det_skip (fun e => absurd (hk.symm.trans e) (by decide)) (det_skip (fun e => absurd (hk.symm.trans e) (by decide)) (det_skip (fun e => absurd (hk.symm.trans e) (by decide)) (det_skip (fun e => absurd (hk.symm.trans e) (by decide)) (det_skip (fun e => absurd (hk.symm.trans e) (by decide)) (det_skip (fun e => absurd (hk.symm.trans e) (by decide)) (det_skip (fun e => absurd (hk.symm.trans e) (by decide)) (det_skip (fun e => absurd (hk.symm.trans e) (by decide)) (det_take hk ?_ (fun _ => fun e => absurd e (fun e => absurd (hk.symm.trans e) (by decide))))))))))))))))))))
    refine det_call1 dt_wj_X12_takes_99 (fun _ => ?_)
    exact det_leaf ⟨_, rfl⟩
  · refine det_skip (fun c => absurd c (by rw [hk]; decide)) (det_skip (fun e => absurd (hk.symm.trans e) (by decide)) (det_skip (fun e => absurd (hk.symm.trans e) (by decide)) (det_skip (fun e => absurd (hk.symm.trans e) (by decide)) (det_skip (fun e => absurd (hk.symm.trans e) (by decide)) (det_skip (fun e => absurd (hk.symm.trans e) (by decide)) (det_skip (fun e => absurd (hk.symm.trans e) (by decide)) (det_skip (fun e => absurd (hk.symm.trans e) (by decide)) (det_skip (fun e => absurd (hk.symm.trans e) (by decide)) (det_skip (fun e => absurd (hk.symm.trans e) (by decide)) (det_skip (fun e => absurd (hk.symm.trans e) (by decide)) (det_skip (fun e => absurd (hk.symm.trans e) (by decide)) (det_skip (fun e => absurd (hk.symm.trans e) (by decide)) (det_skip (fun e => absurd (hk.symm.trans e) (by decide)) (det_skip (fun e => absurd (hk.symm.trans e) (by decide)) (det_skip (fun e => absurd (hk.symm.trans e) (by decide)) (det_skip (fun e => absurd (hk.symm.trans e) (by decide)) (det_skip (fun e => absurd (hk.symm.trans e) (by decide)) (det_last hk ?_))))))))))))))))))
    exact det_leaf ⟨_, rfl⟩
theorem dt_wp_X12_lays {a0 : Int32} : Det Ev1 (fun Post : Int32 → Prop => wp_X12_lays a0 Post) := by
  unfold wp_X12_lays
  rcases zt_2_19 a0 with hk | hk | hk | hk | hk | hk | hk | hk | hk | hk | hk | hk | hk | hk | hk | hk | hk | hk | hk
  · refine det_take hk ?_ (fun _ => ⟨fun e => absurd e (fun e => absurd hk (by rw [e]; decide)), fun e => absurd e (fun e => absurd hk (by rw [e]; decide)), fun e => absurd e (fun e => absurd hk (by rw [e]; decide)), fun e => absurd e (fun e => absurd hk (by rw [e]; decide)), fun e => absurd e (fun e => absurd hk (by rw [e]; decide)), fun e => absurd e (fun e => absurd hk (by rw [e]; decide)), fun e => absurd e (fun e => absurd hk (by rw [e]; decide)), fun e => absurd e (fun e => absurd hk (by rw [e]; decide)), fun e => absurd e (fun e => absurd hk (by rw [e]; decide)), fun e => absurd e (fun e => absurd hk (by rw [e]; decide)), fun e => absurd e (fun e => absurd hk (by rw [e]; decide)), fun e => absurd e (fun e => absurd hk (by rw [e]; decide)), fun e => absurd e (fun e => absurd hk (by rw [e]; decide)), fun e => absurd e (fun e => absurd hk (by rw [e]; decide)), fun e => absurd e (fun e => absurd hk (by rw [e]; decide)), fun e => absurd e (fun e => absurd hk (by rw [e]; decide)), fun e => absurd e (fun e => absurd hk (by rw [e]; decide)), fun e => absurd e (fun e => absurd hk (by rw [e]; decide))⟩)
    exact det_leaf ⟨_, rfl⟩
  · refine det_skip (fun c => absurd c (by rw [hk]; decide)) (det_take hk ?_ (fun _ => ⟨fun e => absurd e (fun e => absurd (hk.symm.trans e) (by decide)), fun e => absurd e (fun e => absurd (hk.symm.trans e) (by decide)), fun e => absurd e (fun e => absurd (hk.symm.trans e) (by decide)), fun e => absurd e (fun e => absurd (hk.symm.trans e) (by decide)), fun e => absurd e (fun e => absurd (hk.symm.trans e) (by decide)), fun e => absurd e (fun e => absurd (hk.symm.trans e) (by decide)), fun e => absurd e (fun e => absurd (hk.symm.trans e) (by decide)), fun e => absurd e (fun e => absurd (hk.symm.trans e) (by decide)), fun e => absurd e (fun e => absurd (hk.symm.trans e) (by decide)), fun e => absurd e (fun e => absurd (hk.symm.trans e) (by decide)), fun e => absurd e (fun e => absurd (hk.symm.trans e) (by decide)), fun e => absurd e (fun e => absurd (hk.symm.trans e) (by decide)), fun e => absurd e (fun e => absurd (hk.symm.trans e) (by decide)), fun e => absurd e (fun e => absurd (hk.symm.trans e) (by decide)), fun e => absurd e (fun e => absurd (hk.symm.trans e) (by decide)), fun e => absurd e (fun e => absurd (hk.symm.trans e) (by decide)), fun e => absurd e (fun e => absurd (hk.symm.trans e) (by decide))⟩))
    exact det_leaf ⟨_, rfl⟩
  · refine det_skip (fun c => absurd c (by rw [hk]; decide)) (det_skip (fun e => absurd (hk.symm.trans e) (by decide)) (det_take hk ?_ (fun _ => ⟨fun e => absurd e (fun e => absurd (hk.symm.trans e) (by decide)), fun e => absurd e (fun e => absurd (hk.symm.trans e) (by decide)), fun e => absurd e (fun e => absurd (hk.symm.trans e) (by decide)), fun e => absurd e (fun e => absurd (hk.symm.trans e) (by decide)), fun e => absurd e (fun e => absurd (hk.symm.trans e) (by decide)), fun e => absurd e (fun e => absurd (hk.symm.trans e) (by decide)), fun e => absurd e (fun e => absurd (hk.symm.trans e) (by decide)), fun e => absurd e (fun e => absurd (hk.symm.trans e) (by decide)), fun e => absurd e (fun e => absurd (hk.symm.trans e) (by decide)), fun e => absurd e (fun e => absurd (hk.symm.trans e) (by decide)), fun e => absurd e (fun e => absurd (hk.symm.trans e) (by decide)), fun e => absurd e (fun e => absurd (hk.symm.trans e) (by decide)), fun e => absurd e (fun e => absurd (hk.symm.trans e) (by decide)), fun e => absurd e (fun e => absurd (hk.symm.trans e) (by decide)), fun e => absurd e (fun e => absurd (hk.symm.trans e) (by decide)), fun e => absurd e (fun e => absurd (hk.symm.trans e) (by decide))⟩)))
    exact det_leaf ⟨_, rfl⟩
  · refine det_skip (fun c => absurd c (by rw [hk]; decide)) (det_skip (fun e => absurd (hk.symm.trans e) (by decide)) (det_skip (fun e => absurd (hk.symm.trans e) (by decide)) (det_take hk ?_ (fun _ => ⟨fun e => absurd e (fun e => absurd (hk.symm.trans e) (by decide)), fun e => absurd e (fun e => absurd (hk.symm.trans e) (by decide)), fun e => absurd e (fun e => absurd (hk.symm.trans e) (by decide)), fun e => absurd e (fun e => absurd (hk.symm.trans e) (by decide)), fun e => absurd e (fun e => absurd (hk.symm.trans e) (by decide)), fun e => absurd e (fun e => absurd (hk.symm.trans e) (by decide)), fun e => absurd e (fun e => absurd (hk.symm.trans e) (by decide)), fun e => absurd e (fun e => absurd (hk.symm.trans e) (by decide)), fun e => absurd e (fun e => absurd (hk.symm.trans e) (by decide)), fun e => absurd e (fun e => absurd (hk.symm.trans e) (by decide)), fun e => absurd e (fun e => absurd (hk.symm.trans e) (by decide)), fun e => absurd e (fun e => absurd (hk.symm.trans e) (by decide)), fun e => absurd e (fun e => absurd (hk.symm.trans e) (by decide)), fun e => absurd e (fun e => absurd (hk.symm.trans e) (by decide)), fun e => absurd e (fun e => absurd (hk.symm.trans e) (by decide))⟩))))
    exact det_leaf ⟨_, rfl⟩
  · refine det_skip (fun c => absurd c (by rw [hk]; decide)) (det_skip (fun e => absurd (hk.symm.trans e) (by decide)) (det_skip (fun e => absurd (hk.symm.trans e) (by decide)) (det_skip (fun e => absurd (hk.symm.trans e) (by decide)) (det_take hk ?_ (fun _ => ⟨fun e => absurd e (fun e => absurd (hk.symm.trans e) (by decide)), fun e => absurd e (fun e => absurd (hk.symm.trans e) (by decide)), fun e => absurd e (fun e => absurd (hk.symm.trans e) (by decide)), fun e => absurd e (fun e => absurd (hk.symm.trans e) (by decide)), fun e => absurd e (fun e => absurd (hk.symm.trans e) (by decide)), fun e => absurd e (fun e => absurd (hk.symm.trans e) (by decide)), fun e => absurd e (fun e => absurd (hk.symm.trans e) (by decide)), fun e => absurd e (fun e => absurd (hk.symm.trans e) (by decide)), fun e => absurd e (fun e => absurd (hk.symm.trans e) (by decide)), fun e => absurd e (fun e => absurd (hk.symm.trans e) (by decide)), fun e => absurd e (fun e => absurd (hk.symm.trans e) (by decide)), fun e => absurd e (fun e => absurd (hk.symm.trans e) (by decide)), fun e => absurd e (fun e => absurd (hk.symm.trans e) (by decide)), fun e => absurd e (fun e => absurd (hk.symm.trans e) (by decide))⟩)))))
    exact det_leaf ⟨_, rfl⟩
  · refine det_skip (fun c => absurd c (by rw [hk]; decide)) (det_skip (fun e => absurd (hk.symm.trans e) (by decide)) (det_skip (fun e => absurd (hk.symm.trans e) (by decide)) (det_skip (fun e => absurd (hk.symm.trans e) (by decide)) (det_skip (fun e => absurd (hk.symm.trans e) (by decide)) (det_take hk ?_ (fun _ => ⟨fun e => absurd e (fun e => absurd (hk.symm.trans e) (by decide)), fun e => absurd e (fun e => absurd (hk.symm.trans e) (by decide)), fun e => absurd e (fun e => absurd (hk.symm.trans e) (by decide)), fun e => absurd e (fun e => absurd (hk.symm.trans e) (by decide)), fun e => absurd e (fun e => absurd (hk.symm.trans e) (by decide)), fun e => absurd e (fun e => absurd (hk.symm.trans e) (by decide)), fun e => absurd e (fun e => absurd (hk.symm.trans e) (by decide)), fun e => absurd e (fun e => absurd (hk.symm.trans e) (by decide)), fun e => absurd e (fun e => absurd (hk.symm.trans e) (by decide)), fun e => absurd e (fun e => absurd (hk.symm.trans e) (by decide)), fun e => absurd e (fun e => absurd (hk.symm.trans e) (by decide)), fun e => absurd e (fun e => absurd (hk.symm.trans e) (by decide)), fun e => absurd e (fun e => absurd (hk.symm.trans e) (by decide))⟩))))))
    exact det_leaf ⟨_, rfl⟩
  · refine det_skip (fun c => absurd c (by rw [hk]; decide)) (det_skip (fun e => absurd (hk.symm.trans e) (by decide)) (det_skip (fun e => absurd (hk.symm.trans e) (by decide)) (det_skip (fun e => absurd (hk.symm.trans e) (by decide)) (det_skip (fun e => absurd (hk.symm.trans e) (by decide)) (det_skip (fun e => absurd (hk.symm.trans e) (by decide)) (det_take hk ?_ (fun _ => ⟨fun e => absurd e (fun e => absurd (hk.symm.trans e) (by decide)), fun e => absurd e (fun e => absurd (hk.symm.trans e) (by decide)), fun e => absurd e (fun e => absurd (hk.symm.trans e) (by decide)), fun e => absurd e (fun e => absurd (hk.symm.trans e) (by decide)), fun e => absurd e (fun e => absurd (hk.symm.trans e) (by decide)), fun e => absurd e (fun e => absurd (hk.symm.trans e) (by decide)), fun e => absurd e (fun e => absurd (hk.symm.trans e) (by decide)), fun e => absurd e (fun e => absurd (hk.symm.trans e) (by decide)), fun e => absurd e (fun e => absurd (hk.symm.trans e) (by decide)), fun e => absurd e (fun e => absurd (hk.symm.trans e) (by decide)), fun e => absurd e (fun e => absurd (hk.symm.trans e) (by decide)), fun e => absurd e (fun e => absurd (hk.symm.trans e) (by decide))⟩)))))))
    exact det_leaf ⟨_, rfl⟩
  · refine det_skip (fun c => absurd c (by rw [hk]; decide)) (det_skip (fun e => absurd (hk.symm.trans e) (by decide)) (det_skip (fun e => absurd (hk.symm.trans e) (by decide)) (det_skip (fun e => absurd (hk.symm.trans e) (by decide)) (det_skip (fun e => absurd (hk.symm.trans e) (by decide)) (det_skip (fun e => absurd (hk.symm.trans e) (by decide)) (det_skip (fun e => absurd (hk.symm.trans e) (by decide)) (det_take hk ?_ (fun _ => ⟨fun e => absurd e (fun e => absurd (hk.symm.trans e) (by decide)), fun e => absurd e (fun e => absurd (hk.symm.trans e) (by decide)), fun e => absurd e (fun e => absurd (hk.symm.trans e) (by decide)), fun e => absurd e (fun e => absurd (hk.symm.trans e) (by decide)), fun e => absurd e (fun e => absurd (hk.symm.trans e) (by decide)), fun e => absurd e (fun e => absurd (hk.symm.trans e) (by decide)), fun e => absurd e (fun e => absurd (hk.symm.trans e) (by decide)), fun e => absurd e (fun e => absurd (hk.symm.trans e) (by decide)), fun e => absurd e (fun e => absurd (hk.symm.trans e) (by decide)), fun e => absurd e (fun e => absurd (hk.symm.trans e) (by decide)), fun e => absurd e (fun e => absurd (hk.symm.trans e) (by decide))⟩))))))))
    exact det_leaf ⟨_, rfl⟩
  · refine det_skip (fun c => absurd c (by rw [hk]; decide)) (det_skip (fun e => absurd (hk.symm.trans e) (by decide)) (det_skip (fun e => absurd (hk.symm.trans e) (by decide)) (det_skip (fun e => absurd (hk.symm.trans e) (by decide)) (det_skip (fun e => absurd (hk.symm.trans e) (by decide)) (det_skip (fun e => absurd (hk.symm.trans e) (by decide)) (det_skip (fun e => absurd (hk.symm.trans e) (by decide)) (det_skip (fun e => absurd (hk.symm.trans e) (by decide)) (det_take hk ?_ (fun _ => ⟨fun e => absurd e (fun e => absurd (hk.symm.trans e) (by decide)), fun e => absurd e (fun e => absurd (hk.symm.trans e) (by decide)), fun e => absurd e (fun e => absurd (hk.symm.trans e) (by decide)), fun e => absurd e (fun e => absurd (hk.symm.trans e) (by decide)), fun e => absurd e (fun e => absurd (hk.symm.trans e) (by decide)), fun e => absurd e (fun e => absurd (hk.symm.trans e) (by decide)), fun e => absurd e (fun e => absurd (hk.symm.trans e) (by decide)), fun e => absurd e (fun e => absurd (hk.symm.trans e) (by decide)), fun e => absurd e (fun e => absurd (hk.symm.trans e) (by decide)), fun e => absurd e (fun e => absurd (hk.symm.trans e) (by decide))⟩)))))))))
    exact det_leaf ⟨_, rfl⟩
  · refine det_skip (fun c => absurd c (by rw [hk]; decide)) (det_skip (fun e => absurd (hk.symm.trans e) (by decide)) (det_skip (fun e => absurd (hk.symm.trans e) (by decide)) (det_skip (fun e => absurd (hk.symm.trans e) (by decide)) (det_skip (fun e => absurd (hk.symm.trans e) (by decide)) (det_skip (fun e => absurd (hk.symm.trans e) (by decide)) (det_skip (fun e => absurd (hk.symm.trans e) (by decide)) (det_skip (fun e => absurd (hk.symm.trans e) (by decide)) (det_skip (fun e => absurd (hk.symm.trans e) (by decide)) (det_take hk ?_ (fun _ => ⟨fun e => absurd e (fun e => absurd (hk.symm.trans e) (by decide)), fun e => absurd e (fun e => absurd (hk.symm.trans e) (by decide)), fun e => absurd e (fun e => absurd (hk.symm.trans e) (by decide)), fun e => absurd e (fun e => absurd (hk.symm.trans e) (by decide)), fun e => absurd e (fun e => absurd (hk.symm.trans e) (by decide)), fun e => absurd e (fun e => absurd (hk.symm.trans e) (by decide)), fun e => absurd e (fun e => absurd (hk.symm.trans e) (by decide)), fun e => absurd e (fun e => absurd (hk.symm.trans e) (by decide)), fun e => absurd e (fun e => absurd (hk.symm.trans e) (by decide))⟩))))))))))
    exact det_leaf ⟨_, rfl⟩
  · refine det_skip (fun c => absurd c (by rw [hk]; decide)) (det_skip (fun e => absurd (hk.symm.trans e) (by decide)) (det_skip (fun e => absurd (hk.symm.trans e) (by decide)) (det_skip (fun e => absurd (hk.symm.trans e) (by decide)) (det_skip (fun e => absurd (hk.symm.trans e) (by decide)) (det_skip (fun e => absurd (hk.symm.trans e) (by decide)) (det_skip (fun e => absurd (hk.symm.trans e) (by decide)) (det_skip (fun e => absurd (hk.symm.trans e) (by decide)) (det_skip (fun e => absurd (hk.symm.trans e) (by decide)) (det_skip (fun e => absurd (hk.symm.trans e) (by decide)) (det_take hk ?_ (fun _ => ⟨fun e => absurd e (fun e => absurd (hk.symm.trans e) (by decide)), fun e => absurd e (fun e => absurd (hk.symm.trans e) (by decide)), fun e => absurd e (fun e => absurd (hk.symm.trans e) (by decide)), fun e => absurd e (fun e => absurd (hk.symm.trans e) (by decide)), fun e => absurd e (fun e => absurd (hk.symm.trans e) (by decide)), fun e => absurd e (fun e => absurd (hk.symm.trans e) (by decide)), fun e => absurd e (fun e => absurd (hk.symm.trans e) (by decide)), fun e => absurd e (fun e => absurd (hk.symm.trans e) (by decide))⟩)))))))))))
    exact det_leaf ⟨_, rfl⟩
  · refine det_skip (fun c => absurd c (by rw [hk]; decide)) (det_skip (fun e => absurd (hk.symm.trans e) (by decide)) (det_skip (fun e => absurd (hk.symm.trans e) (by decide)) (det_skip (fun e => absurd (hk.symm.trans e) (by decide)) (det_skip (fun e => absurd (hk.symm.trans e) (by decide)) (det_skip (fun e => absurd (hk.symm.trans e) (by decide)) (det_skip (fun e => absurd (hk.symm.trans e) (by decide)) (det_skip (fun e => absurd (hk.symm.trans e) (by decide)) (det_skip (fun e => absurd (hk.symm.trans e) (by decide)) (det_skip (fun e => absurd (hk.symm.trans e) (by decide)) (det_skip (fun e => absurd (hk.symm.trans e) (by decide)) (det_take hk ?_ (fun _ => ⟨fun e => absurd e (fun e => absurd (hk.symm.trans e) (by decide)), fun e => absurd e (fun e => absurd (hk.symm.trans e) (by decide)), fun e => absurd e (fun e => absurd (hk.symm.trans e) (by decide)), fun e => absurd e (fun e => absurd (hk.symm.trans e) (by decide)), fun e => absurd e (fun e => absurd (hk.symm.trans e) (by decide)), fun e => absurd e (fun e => absurd (hk.symm.trans e) (by decide)), fun e => absurd e (fun e => absurd (hk.symm.trans e) (by decide))⟩))))))))))))
    exact det_leaf ⟨_, rfl⟩
  · refine det_skip (fun c => absurd c (by rw [hk]; decide)) (det_skip (fun e => absurd (hk.symm.trans e) (by decide)) (det_skip (fun e => absurd (hk.symm.trans e) (by decide)) (det_skip (fun e => absurd (hk.symm.trans e) (by decide)) (det_skip (fun e => absurd (hk.symm.trans e) (by decide)) (det_skip (fun e => absurd (hk.symm.trans e) (by decide)) (det_skip (fun e => absurd (hk.symm.trans e) (by decide)) (det_skip (fun e => absurd (hk.symm.trans e) (by decide)) (det_skip (fun e => absurd (hk.symm.trans e) (by decide)) (det_skip (fun e => absurd (hk.symm.trans e) (by decide)) (det_skip (fun e => absurd (hk.symm.trans e) (by decide)) (det_skip (fun e => absurd (hk.symm.trans e) (by decide)) (det_take hk ?_ (fun _ => ⟨fun e => absurd e (fun e => absurd (hk.symm.trans e) (by decide)), fun e => absurd e (fun e => absurd (hk.symm.trans e) (by decide)), fun e => absurd e (fun e => absurd (hk.symm.trans e) (by decide)), fun e => absurd e (fun e => absurd (hk.symm.trans e) (by decide)), fun e => absurd e (fun e => absurd (hk.symm.trans e) (by decide)), fun e => absurd e (fun e => absurd (hk.symm.trans e) (by decide))⟩)))))))))))))
    exact det_leaf ⟨_, rfl⟩
  · refine det_skip (fun c => absurd c (by rw [hk]; decide)) (det_skip (fun e => absurd (hk.symm.trans e) (by decide)) (det_skip (fun e => absurd (hk.symm.trans e) (by decide)) (det_skip (fun e => absurd (hk.symm.trans e) (by decide)) (det_skip (fun e => absurd (hk.symm.trans e) (by decide)) (det_skip (fun e => absurd (hk.symm.trans e) (by decide)) (det_skip (fun e => absurd (hk.symm.trans e) (by decide)) (det_skip (fun e => absurd (hk.symm.trans e) (by decide)) (det_skip (fun e => absurd (hk.symm.trans e) (by decide)) (det_skip (fun e => absurd (hk.symm.trans e) (by decide)) (det_skip (fun e => absurd (hk.symm.trans e) (by decide)) (det_skip (fun e => absurd (hk.symm.trans e) (by decide)) (det_skip (fun e => absurd (hk.symm.trans e) (by decide)) (det_take hk ?_ (fun _ => ⟨fun e => absurd e (fun e => absurd (hk.symm.trans e) (by decide)), fun e => absurd e (fun e => absurd (hk.symm.trans e) (by decide)), fun e => absurd e (fun e => absurd (hk.symm.trans e) (by decide)), fun e => absurd e (fun e => absurd (hk.symm.trans e) (by decide)), fun e => absurd e (fun e => absurd (hk.symm.trans e) (by decide))⟩))))))))))))))
    exact det_leaf ⟨_, rfl⟩
  · refine det_skip (fun c => absurd c (by rw [hk]; decide)) (det_skip (fun e => absurd (hk.symm.trans e) (by decide)) (det_skip (fun e => absurd (hk.symm.trans e) (by decide)) (det_skip (fun e => absurd (hk.symm.trans e) (by decide)) (det_skip (fun e => absurd (hk.symm.trans e) (by decide)) (det_skip (fun e => absurd (hk.symm.trans e) (by decide)) (det_skip (fun e => absurd (hk.symm.trans e) (by decide)) (det_skip (fun e => absurd (hk.symm.trans e) (by decide)) (det_skip (fun e => absurd (hk.symm.trans e) (by decide)) (det_skip (fun e => absurd (hk.symm.trans e) (by decide)) (det_skip (fun e => absurd (hk.symm.trans e) (by decide)) (det_skip (fun e => absurd (hk.symm.trans e) (by decide)) (det_skip (fun e => absurd (hk.symm.trans e) (by decide)) (det_skip (fun e => absurd (hk.symm.trans e) (by decide)) (det_take hk ?_ (fun _ => ⟨fun e => absurd e (fun e => absurd (hk.symm.trans e) (by decide)), fun e => absurd e (fun e => absurd (hk.symm.trans e) (by decide)), fun e => absurd e (fun e => absurd (hk.symm.trans e) (by decide)), fun e => absurd e (fun e => absurd (hk.symm.trans e) (by decide))⟩)))))))))))))))
    exact det_leaf ⟨_, rfl⟩
  · refine det_skip (fun c => absurd c (by rw [hk]; decide)) (det_skip (fun e => absurd (hk.symm.trans e) (by decide)) (det_skip (fun e => absurd (hk.symm.trans e) (by decide)) (det_skip (fun e => absurd (hk.symm.trans e) (by decide)) (det_skip (fun e => absurd (hk.symm.trans e) (by decide)) (det_skip (fun e => absurd (hk.symm.trans e) (by decide)) (det_skip (fun e => absurd (hk.symm.trans e) (by decide)) (det_skip (fun e => absurd (hk.symm.trans e) (by decide)) (det_skip (fun e => absurd (hk.symm.trans e) (by decide)) (det_skip (fun e => absurd (hk.symm.trans e) (by decide)) (det_skip (fun e => absurd (hk.symm.trans e) (by decide)) (det_skip (fun e => absurd (hk.symm.trans e) (by decide)) (det_skip (fun e => absurd (hk.symm.trans e) (by decide)) (det_skip (fun e => absurd (hk.symm.trans e) (by decide)) (det_skip (fun e => absurd (hk.symm.trans e) (by decide)) (det_take hk ?_ (fun _ => ⟨fun e => absurd e (fun e => absurd (hk.symm.trans e) (by decide)), fun e => absurd e (fun e => absurd (hk.symm.trans e) (by decide)), fun e => absurd e (fun e => absurd (hk.symm.trans e) (by decide))⟩))))))))))))))))
    exact det_leaf ⟨_, rfl⟩
  · refine det_skip (fun c => absurd c (by rw [hk]; decide)) (det_skip (fun e => absurd (hk.symm.trans e) (by decide)) (det_skip (fun e => absurd (hk.symm.trans e) (by decide)) (det_skip (fun e => absurd (hk.symm.trans e) (by decide)) (det_skip (fun e => absurd (hk.symm.trans e) (by decide)) (det_skip (fun e => absurd (hk.symm.trans e) (by decide)) (det_skip (fun e => absurd (hk.symm.trans e) (by decide)) (det_skip (fun e => absurd (hk.symm.trans e) (by decide)) (det_skip (fun e => absurd (hk.symm.trans e) (by decide)) (det_skip (fun e => absurd (hk.symm.trans e) (by decide)) (det_skip (fun e => absurd (hk.symm.trans e) (by decide)) (det_skip (fun e => absurd (hk.symm.trans e) (by decide)) (det_skip (fun e => absurd (hk.symm.trans e) (by decide)) (det_skip (fun e => absurd (hk.symm.trans e) (by decide)) (det_skip (fun e => absurd (hk.symm.trans e) (by decide)) (det_skip (fun e => absurd (hk.symm.trans e) (by decide)) (det_take hk ?_ (fun _ => ⟨fun e => absurd e (fun e => absurd (hk.symm.trans e) (by decide)), fun e => absurd e (fun e => absurd (hk.symm.trans e) (by decide))⟩)))))))))))))))))
    exact det_leaf ⟨_, rfl⟩
  · refine det_skip (fun c => absurd c (by rw [hk]; decide)) (det_skip (fun e => absurd (hk.symm.trans e) (by decide)) (det_skip (fun e => absurd (hk.symm.trans e) (by decide)) (det_skip (fun e => absurd (hk.symm.trans e) (by decide)) (det_skip (fun e => absurd (hk.symm.trans e) (by decide)) (det_skip (fun e => absurd (hk.symm.trans e) (by decide)) (det_skip (fun e => absurd (hk.symm.trans e) (by decide)) (det_skip (fun e => absurd (hk.symm.trans e) (by decide)) (det_skip (fun e => absurd (hk.symm.trans e) (by decide)) (det_skip (fun e => absurd (hk.symm.trans e) (by decide)) (det_skip (fun e => absurd (hk.symm.trans e) (by decide)) (det_skip (fun e => absurd (hk.symm.trans e) (by decide)) (det_skip (fun e => absurd (hk.symm.trans e) (by decide)) (det_skip (fun e => absurd (hk.symm.trans e) (by decide)) (det_skip (fun e => absurd (hk.symm.trans e) (by decide)) (det_skip (fun e => absurd (hk.symm.trans e) (by decide)) (det_skip (fun e => absurd (hk.symm.trans e) (by decide)) (det_take hk ?_ (fun _ => fun e => absurd e (fun e => absurd (hk.symm.trans e) (by decide))))))))))))))))))))
    exact det_leaf ⟨_, rfl⟩
  · refine det_skip (fun c => absurd c (by rw [hk]; decide)) (det_skip (fun e => absurd (hk.symm.trans e) (by decide)) (det_skip (fun e => absurd (hk.symm.trans e) (by decide)) (det_skip (fun e => absurd (hk.symm.trans e) (by decide)) (det_skip (fun e => absurd (hk.symm.trans e) (by decide)) (det_skip (fun e => absurd (hk.symm.trans e) (by decide)) (det_skip (fun e => absurd (hk.symm.trans e) (by decide)) (det_skip (fun e => absurd (hk.symm.trans e) (by decide)) (det_skip (fun e => absurd (hk.symm.trans e) (by decide)) (det_skip (fun e => absurd (hk.symm.trans e) (by decide)) (det_skip (fun e => absurd (hk.symm.trans e) (by decide)) (det_skip (fun e => absurd (hk.symm.trans e) (by decide)) (det_skip (fun e => absurd (hk.symm.trans e) (by decide)) (det_skip (fun e => absurd (hk.symm.trans e) (by decide)) (det_skip (fun e => absurd (hk.symm.trans e) (by decide)) (det_skip (fun e => absurd (hk.symm.trans e) (by decide)) (det_skip (fun e => absurd (hk.symm.trans e) (by decide)) (det_skip (fun e => absurd (hk.symm.trans e) (by decide)) (det_last hk ?_))))))))))))))))))
    exact det_leaf ⟨_, rfl⟩
theorem dt_wp_X12_returns {S : MST} {a1 : Int32} : Det Ev1 (fun Post : MST → Prop => wp_X12_returns S a1 Post) := by
  unfold wp_X12_returns
  refine det_letn (fun S1 => ?_)
  refine det_if' (fun _ => ?_) (fun _ => ?_)
  · refine det_and (fun _ => ?_)
    refine det_if (fun _ => ?_) (fun _ => ?_)
    · refine det_and (fun _ => ?_)
      refine det_and (fun _ => ?_)
      refine det_and (fun _ => ?_)
      refine det_and (fun _ => ?_)
      refine det_letn (fun S8 => ?_)
      refine det_and (fun _ => ?_)
      refine det_and (fun _ => ?_)
      refine det_letn (fun S10 => ?_)
      exact det_leaf ⟨_, rfl⟩
    · refine det_and (fun _ => ?_)
      refine det_and (fun _ => ?_)
      refine det_and (fun _ => ?_)
      refine det_and (fun _ => ?_)
      refine det_and (fun _ => ?_)
      refine det_and (fun _ => ?_)
      refine det_letn (fun S16 => ?_)
      refine det_and (fun _ => ?_)
      refine det_and (fun _ => ?_)
      refine det_letn (fun S18 => ?_)
      refine det_and (fun _ => ?_)
      refine det_and (fun _ => ?_)
      refine det_letn (fun S20 => ?_)
      refine det_and (fun _ => ?_)
      refine det_letn (fun S21 => ?_)
      exact det_leaf ⟨_, rfl⟩
  · refine det_letn (fun S22 => ?_)
    refine det_letn (fun S23 => ?_)
    exact det_leaf ⟨_, rfl⟩
theorem dl_wl_X12_makesRow_23 {ρ : Type} {E : (ρ → Prop) → Prop}  {K_46 : ρ → MST → Prop} {Pw : ρ → MST → Int32 → Prop} (hK_46 : ∀ (x_0 : MST), Det E (fun P => K_46 P x_0)) (hP : ∀ (x_0 : MST) (x_1 : Int32), Det E (fun P => Pw P x_0 x_1)) : ∀ (n_ : Nat) (S_23 : MST) (x23_1 : Int32) (x23_2 : Int32) (x23_3 : Int32), Det E (fun P => wl_X12_makesRow_23  (K_46 P) (Pw P) n_ S_23 x23_1 x23_2 x23_3) := by
  intro n_
  induction n_ with
  | zero => intro S_23 x23_1 x23_2 x23_3; unfold wl_X12_makesRow_23; exact det_false
  | succ n_ ih_ =>
    intro S_23 x23_1 x23_2 x23_3
    unfold wl_X12_makesRow_23
    refine det_if (fun _ => ?_) (fun _ => ?_)
    · exact hK_46 _
    · refine det_and (fun _ => ?_)
      refine det_letn (fun S5 => ?_)
      exact ih_ _ _ _ _
theorem dt_wp_X12_makesRow {S : MST} {a1 : Int32} {a2 : Int32} : Det Ev2 (fun Post : MST → Int32 → Prop => wp_X12_makesRow S a1 a2 Post) := by
  unfold wp_X12_makesRow
  refine det_if (fun _ => ?_) (fun _ => ?_)
  · refine det_if (fun _ => ?_) (fun _ => ?_)
    · refine det_and (fun _ => ?_)
      refine det_letn (fun S3 => ?_)
      refine det_ex (fun n_23 => ?_)
      refine dl_wl_X12_makesRow_23 (fun S_46 => ?_) (fun _ _ => ?_) _ _ _ _ _
      · exact det_leaf ⟨_, _, rfl⟩
      · exact det_leaf ⟨_, _, rfl⟩
    · exact det_leaf ⟨_, _, rfl⟩
  · exact det_leaf ⟨_, _, rfl⟩
theorem dt_wp_X12_refuses {S : MST} {a1 : Int32} {a2 : Int32} : Det Ev1 (fun Post : Int32 → Prop => wp_X12_refuses S a1 a2 Post) := by
  unfold wp_X12_refuses
  refine det_and (fun _ => ?_)
  refine det_if (fun _ => ?_) (fun _ => ?_)
  · refine det_and (fun _ => ?_)
    refine det_call1 dt_wp_X12_in (fun r4 => ?_)
    refine det_if (fun _ => ?_) (fun _ => ?_)
    · exact det_leaf ⟨_, rfl⟩
    · exact det_leaf ⟨_, rfl⟩
  · exact det_leaf ⟨_, rfl⟩
theorem dt_wj_X12_goes_604 {S_604 : MST} {x604_3 : Int32} {x604_9 : Int32} : Det Ev1 (fun Post : MST → Prop => wj_X12_goes_604 S_604 x604_3 x604_9 Post) := by
  unfold wj_X12_goes_604
  refine det_if (fun _ => ?_) (fun _ => ?_)
  · exact det_leaf ⟨_, rfl⟩
  · refine det_call1 dt_wp_X12_traps (fun S2 => ?_)
    exact det_leaf ⟨_, rfl⟩
theorem dt_wj_X12_goes_549 {S_549 : MST} {x549_3 : Int32} {x549_4 : Int32} {x549_6 : Int32} {x549_7 : Int32} {x549_8 : Int32} : Det Ev1 (fun Post : MST → Prop => wj_X12_goes_549 S_549 x549_3 x549_4 x549_6 x549_7 x549_8 Post) := by
  unfold wj_X12_goes_549
  refine det_if' (fun _ => ?_) (fun _ => ?_)
  · refine det_and (fun _ => ?_)
    refine det_call1 dt_wp_X12_sumOf (fun r5 => ?_)
    refine det_and (fun _ => ?_)
    refine det_letn (fun S6 => ?_)
    refine det_call1 dt_wj_X12_goes_604 (fun _ => ?_)
    exact det_leaf ⟨_, rfl⟩
  · refine det_if' (fun _ => ?_) (fun _ => ?_)
    · refine det_and (fun _ => ?_)
      refine det_call1 dt_wp_X12_sumOf (fun r9 => ?_)
      refine det_and (fun _ => ?_)
      refine det_letn (fun S10 => ?_)
      refine det_call1 dt_wj_X12_goes_604 (fun _ => ?_)
      exact det_leaf ⟨_, rfl⟩
    · refine det_call1 dt_wj_X12_goes_604 (fun _ => ?_)
      exact det_leaf ⟨_, rfl⟩
theorem dt_wj_X12_goes_134 {S_134 : MST} {x134_1 : Int32} {x134_3 : Int32} {x134_4 : Int32} {x134_5 : Int32} {x134_6 : Int32} {x134_7 : Int32} {x134_8 : Int32} {x134_9 : Int32} : Det Ev1 (fun Post : MST → Prop => wj_X12_goes_134 S_134 x134_1 x134_3 x134_4 x134_5 x134_6 x134_7 x134_8 x134_9 Post) := by
  unfold wj_X12_goes_134
  rcases zt_0_19 x134_4 with hk | hk | hk | hk | hk | hk | hk | hk | hk | hk | hk | hk | hk | hk | hk | hk | hk | hk | hk | hk | hk
  · refine det_take hk ?_ (fun _ => ⟨fun e => absurd e (fun e => absurd hk (by rw [e]; decide)), fun e => absurd e (fun e => absurd hk (by rw [e]; decide)), fun e => absurd e (fun e => absurd hk (by rw [e]; decide)), fun e => absurd e (fun e => absurd hk (by rw [e]; decide)), fun e => absurd e (fun e => absurd hk (by rw [e]; decide)), fun e => absurd e (fun e => absurd hk (by rw [e]; decide)), fun e => absurd e (fun e => absurd hk (by rw [e]; decide)), fun e => absurd e (fun e => absurd hk (by rw [e]; decide)), fun e => absurd e (fun e => absurd hk (by rw [e]; decide)), fun e => absurd e (fun e => absurd hk (by rw [e]; decide)), fun e => absurd e (fun e => absurd hk (by rw [e]; decide)), fun e => absurd e (fun e => absurd hk (by rw [e]; decide)), fun e => absurd e (fun e => absurd hk (by rw [e]; decide)), fun e => absurd e (fun e => absurd hk (by rw [e]; decide)), fun e => absurd e (fun e => absurd hk (by rw [e]; decide)), fun e => absurd e (fun e => absurd hk (by rw [e]; decide)), fun e => absurd e (fun e => absurd hk (by rw [e]; decide)), fun e => absurd e (fun e => absurd hk (by rw [e]; decide)), fun e => absurd e (fun e => absurd hk (by rw [e]; decide)), fun e => absurd e (fun e => absurd hk (by rw [e]; decide))⟩)
    refine det_call1 dt_wj_X12_goes_549 (fun _ => ?_)
    exact det_leaf ⟨_, rfl⟩
  · refine det_skip (fun c => absurd c (by rw [hk]; decide)) (det_take hk ?_ (fun _ => ⟨fun e => absurd e (fun e => absurd (hk.symm.trans e) (by decide)), fun e => absurd e (fun e => absurd (hk.symm.trans e) (by decide)), fun e => absurd e (fun e => absurd (hk.symm.trans e) (by decide)), fun e => absurd e (fun e => absurd (hk.symm.trans e) (by decide)), fun e => absurd e (fun e => absurd (hk.symm.trans e) (by decide)), fun e => absurd e (fun e => absurd (hk.symm.trans e) (by decide)), fun e => absurd e (fun e => absurd (hk.symm.trans e) (by decide)), fun e => absurd e (fun e => absurd (hk.symm.trans e) (by decide)), fun e => absurd e (fun e => absurd (hk.symm.trans e) (by decide)), fun e => absurd e (fun e => absurd (hk.symm.trans e) (by decide)), fun e => absurd e (fun e => absurd (hk.symm.trans e) (by decide)), fun e => absurd e (fun e => absurd (hk.symm.trans e) (by decide)), fun e => absurd e (fun e => absurd (hk.symm.trans e) (by decide)), fun e => absurd e (fun e => absurd (hk.symm.trans e) (by decide)), fun e => absurd e (fun e => absurd (hk.symm.trans e) (by decide)), fun e => absurd e (fun e => absurd (hk.symm.trans e) (by decide)), fun e => absurd e (fun e => absurd (hk.symm.trans e) (by decide)), fun e => absurd e (fun e => absurd (hk.symm.trans e) (by decide)), fun e => absurd e (fun e => absurd (hk.symm.trans e) (by decide))⟩))
    refine det_and (fun _ => ?_)
    refine det_letn (fun S11 => ?_)
    refine det_call1 dt_wj_X12_goes_604 (fun _ => ?_)
    exact det_leaf ⟨_, rfl⟩
  · refine det_skip (fun c => absurd c (by rw [hk]; decide)) (det_skip (fun e => absurd (hk.symm.trans e) (by decide)) (det_take hk ?_ (fun _ => ⟨fun e => absurd e (fun e => absurd (hk.symm.trans e) (by decide)), fun e => absurd e (fun e => absurd (hk.symm.trans e) (by decide)), fun e => absurd e (fun e => absurd (hk.symm.trans e) (by decide)), fun e => absurd e (fun e => absurd (hk.symm.trans e) (by decide)), fun e => absurd e (fun e => absurd (hk.symm.trans e) (by decide)), fun e => absurd e (fun e => absurd (hk.symm.trans e) (by decide)), fun e => absurd e (fun e => absurd (hk.symm.trans e) (by decide)), fun e => absurd e (fun e => absurd (hk.symm.trans e) (by decide)), fun e => absurd e (fun e => absurd (hk.symm.trans e) (by decide)), fun e => absurd e (fun e => absurd (hk.symm.trans e) (by decide)), fun e => absurd e (fun e => absurd (hk.symm.trans e) (by decide)), fun e => absurd e (fun e => absurd (hk.symm.trans e) (by decide)), fun e => absurd e (fun e => absurd (hk.symm.trans e) (by decide)), fun e => absurd e (fun e => absurd (hk.symm.trans e) (by decide)), fun e => absurd e (fun e => absurd (hk.symm.trans e) (by decide)), fun e => absurd e (fun e => absurd (hk.symm.trans e) (by decide)), fun e => absurd e (fun e => absurd (hk.symm.trans e) (by decide)), fun e => absurd e (fun e => absurd (hk.symm.trans e) (by decide))⟩)))
    refine det_and (fun _ => ?_)
    refine det_and (fun _ => ?_)
    refine det_letn (fun S13 => ?_)
    refine det_call1 dt_wj_X12_goes_604 (fun _ => ?_)
    exact det_leaf ⟨_, rfl⟩
  · refine det_skip (fun c => absurd c (by rw [hk]; decide)) (det_skip (fun e => absurd (hk.symm.trans e) (by decide)) (det_skip (fun e => absurd (hk.symm.trans e) (by decide)) (det_take hk ?_ (fun _ => ⟨fun e => absurd e (fun e => absurd (hk.symm.trans e) (by decide)), fun e => absurd e (fun e => absurd (hk.symm.trans e) (by decide)), fun e => absurd e (fun e => absurd (hk.symm.trans e) (by decide)), fun e => absurd e (fun e => absurd (hk.symm.trans e) (by decide)), fun e => absurd e (fun e => absurd (hk.symm.trans e) (by decide)), fun e => absurd e (fun e => absurd (hk.symm.trans e) (by decide)), fun e => absurd e (fun e => absurd (hk.symm.trans e) (by decide)), fun e => absurd e (fun e => absurd (hk.symm.trans e) (by decide)), fun e => absurd e (fun e => absurd (hk.symm.trans e) (by decide)), fun e => absurd e (fun e => absurd (hk.symm.trans e) (by decide)), fun e => absurd e (fun e => absurd (hk.symm.trans e) (by decide)), fun e => absurd e (fun e => absurd (hk.symm.trans e) (by decide)), fun e => absurd e (fun e => absurd (hk.symm.trans e) (by decide)), fun e => absurd e (fun e => absurd (hk.symm.trans e) (by decide)), fun e => absurd e (fun e => absurd (hk.symm.trans e) (by decide)), fun e => absurd e (fun e => absurd (hk.symm.trans e) (by decide)), fun e => absurd e (fun e => absurd (hk.symm.trans e) (by decide))⟩))))
    refine det_and (fun _ => ?_)
    refine det_letn (fun S14 => ?_)
    refine det_call1 dt_wj_X12_goes_604 (fun _ => ?_)
    exact det_leaf ⟨_, rfl⟩
  · refine det_skip (fun c => absurd c (by rw [hk]; decide)) (det_skip (fun e => absurd (hk.symm.trans e) (by decide)) (det_skip (fun e => absurd (hk.symm.trans e) (by decide)) (det_skip (fun e => absurd (hk.symm.trans e) (by decide)) (det_take hk ?_ (fun _ => ⟨fun e => absurd e (fun e => absurd (hk.symm.trans e) (by decide)), fun e => absurd e (fun e => absurd (hk.symm.trans e) (by decide)), fun e => absurd e (fun e => absurd (hk.symm.trans e) (by decide)), fun e => absurd e (fun e => absurd (hk.symm.trans e) (by decide)), fun e => absurd e (fun e => absurd (hk.symm.trans e) (by decide)), fun e => absurd e (fun e => absurd (hk.symm.trans e) (by decide)), fun e => absurd e (fun e => absurd (hk.symm.trans e) (by decide)), fun e => absurd e (fun e => absurd (hk.symm.trans e) (by decide)), fun e => absurd e (fun e => absurd (hk.symm.trans e) (by decide)), fun e => absurd e (fun e => absurd (hk.symm.trans e) (by decide)), fun e => absurd e (fun e => absurd (hk.symm.trans e) (by decide)), fun e => absurd e (fun e => absurd (hk.symm.trans e) (by decide)), fun e => absurd e (fun e => absurd (hk.symm.trans e) (by decide)), fun e => absurd e (fun e => absurd (hk.symm.trans e) (by decide)), fun e => absurd e (fun e => absurd (hk.symm.trans e) (by decide)), fun e => absurd e (fun e => absurd (hk.symm.trans e) (by decide))⟩)))))
    refine det_call1 dt_wj_X12_goes_549 (fun _ => ?_)
    exact det_leaf ⟨_, rfl⟩
  · refine det_skip (fun c => absurd c (by rw [hk]; decide)) (det_skip (fun e => absurd (hk.symm.trans e) (by decide)) (det_skip (fun e => absurd (hk.symm.trans e) (by decide)) (det_skip (fun e => absurd (hk.symm.trans e) (by decide)) (det_skip (fun e => absurd (hk.symm.trans e) (by decide)) (det_take hk ?_ (fun _ => ⟨fun e => absurd e (fun e => absurd (hk.symm.trans e) (by decide)), fun e => absurd e (fun e => absurd (hk.symm.trans e) (by decide)), fun e => absurd e (fun e => absurd (hk.symm.trans e) (by decide)), fun e => absurd e (fun e => absurd (hk.symm.trans e) (by decide)), fun e => absurd e (fun e => absurd (hk.symm.trans e) (by decide)), fun e => absurd e (fun e => absurd (hk.symm.trans e) (by decide)), fun e => absurd e (fun e => absurd (hk.symm.trans e) (by decide)), fun e => absurd e (fun e => absurd (hk.symm.trans e) (by decide)), fun e => absurd e (fun e => absurd (hk.symm.trans e) (by decide)), fun e => absurd e (fun e => absurd (hk.symm.trans e) (by decide)), fun e => absurd e (fun e => absurd (hk.symm.trans e) (by decide)), fun e => absurd e (fun e => absurd (hk.symm.trans e) (by decide)), fun e => absurd e (fun e => absurd (hk.symm.trans e) (by decide)), fun e => absurd e (fun e => absurd (hk.symm.trans e) (by decide)), fun e => absurd e (fun e => absurd (hk.symm.trans e) (by decide))⟩))))))
    refine det_call1 dt_wj_X12_goes_549 (fun _ => ?_)
    exact det_leaf ⟨_, rfl⟩
  · refine det_skip (fun c => absurd c (by rw [hk]; decide)) (det_skip (fun e => absurd (hk.symm.trans e) (by decide)) (det_skip (fun e => absurd (hk.symm.trans e) (by decide)) (det_skip (fun e => absurd (hk.symm.trans e) (by decide)) (det_skip (fun e => absurd (hk.symm.trans e) (by decide)) (det_skip (fun e => absurd (hk.symm.trans e) (by decide)) (det_take hk ?_ (fun _ => ⟨fun e => absurd e (fun e => absurd (hk.symm.trans e) (by decide)), fun e => absurd e (fun e => absurd (hk.symm.trans e) (by decide)), fun e => absurd e (fun e => absurd (hk.symm.trans e) (by decide)), fun e => absurd e (fun e => absurd (hk.symm.trans e) (by decide)), fun e => absurd e (fun e => absurd (hk.symm.trans e) (by decide)), fun e => absurd e (fun e => absurd (hk.symm.trans e) (by decide)), fun e => absurd e (fun e => absurd (hk.symm.trans e) (by decide)), fun e => absurd e (fun e => absurd (hk.symm.trans e) (by decide)), fun e => absurd e (fun e => absurd (hk.symm.trans e) (by decide)), fun e => absurd e (fun e => absurd (hk.symm.trans e) (by decide)), fun e => absurd e (fun e => absurd (hk.symm.trans e) (by decide)), fun e => absurd e (fun e => absurd (hk.symm.trans e) (by decide)), fun e => absurd e (fun e => absurd (hk.symm.trans e) (by decide)), fun e => absurd e (fun e => absurd (hk.symm.trans e) (by decide))⟩)))))))
    refine det_call1 dt_wj_X12_goes_549 (fun _ => ?_)
    exact det_leaf ⟨_, rfl⟩
  · refine det_skip (fun c => absurd c (by rw [hk]; decide)) (det_skip (fun e => absurd (hk.symm.trans e) (by decide)) (det_skip (fun e => absurd (hk.symm.trans e) (by decide)) (det_skip (fun e => absurd (hk.symm.trans e) (by decide)) (det_skip (fun e => absurd (hk.symm.trans e) (by decide)) (det_skip (fun e => absurd (hk.symm.trans e) (by decide)) (det_skip (fun e => absurd (hk.symm.trans e) (by decide)) (det_take hk ?_ (fun _ => ⟨fun e => absurd e (fun e => absurd (hk.symm.trans e) (by decide)), fun e => absurd e (fun e => absurd (hk.symm.trans e) (by decide)), fun e => absurd e (fun e => absurd (hk.symm.trans e) (by decide)), fun e => absurd e (fun e => absurd (hk.symm.trans e) (by decide)), fun e => absurd e (fun e => absurd (hk.symm.trans e) (by decide)), fun e => absurd e (fun e => absurd (hk.symm.trans e) (by decide)), fun e => absurd e (fun e => absurd (hk.symm.trans e) (by decide)), fun e => absurd e (fun e => absurd (hk.symm.trans e) (by decide)), fun e => absurd e (fun e => absurd (hk.symm.trans e) (by decide)), fun e => absurd e (fun e => absurd (hk.symm.trans e) (by decide)), fun e => absurd e (fun e => absurd (hk.symm.trans e) (by decide)), fun e => absurd e (fun e => absurd (hk.symm.trans e) (by decide)), fun e => absurd e (fun e => absurd (hk.symm.trans e) (by decide))⟩))))))))
    refine det_call1 dt_wj_X12_goes_549 (fun _ => ?_)
    exact det_leaf ⟨_, rfl⟩
  · refine det_skip (fun c => absurd c (by rw [hk]; decide)) (det_skip (fun e => absurd (hk.symm.trans e) (by decide)) (det_skip (fun e => absurd (hk.symm.trans e) (by decide)) (det_skip (fun e => absurd (hk.symm.trans e) (by decide)) (det_skip (fun e => absurd (hk.symm.trans e) (by decide)) (det_skip (fun e => absurd (hk.symm.trans e) (by decide)) (det_skip (fun e => absurd (hk.symm.trans e) (by decide)) (det_skip (fun e => absurd (hk.symm.trans e) (by decide)) (det_take hk ?_ (fun _ => ⟨fun e => absurd e (fun e => absurd (hk.symm.trans e) (by decide)), fun e => absurd e (fun e => absurd (hk.symm.trans e) (by decide)), fun e => absurd e (fun e => absurd (hk.symm.trans e) (by decide)), fun e => absurd e (fun e => absurd (hk.symm.trans e) (by decide)), fun e => absurd e (fun e => absurd (hk.symm.trans e) (by decide)), fun e => absurd e (fun e => absurd (hk.symm.trans e) (by decide)), fun e => absurd e (fun e => absurd (hk.symm.trans e) (by decide)), fun e => absurd e (fun e => absurd (hk.symm.trans e) (by decide)), fun e => absurd e (fun e => absurd (hk.symm.trans e) (by decide)), fun e => absurd e (fun e => absurd (hk.symm.trans e) (by decide)), fun e => absurd e (fun e => absurd (hk.symm.trans e) (by decide)), fun e => absurd e (fun e => absurd (hk.symm.trans e) (by decide))⟩)))))))))
    refine det_call1 dt_wj_X12_goes_549 (fun _ => ?_)
    exact det_leaf ⟨_, rfl⟩
  · refine det_skip (fun c => absurd c (by rw [hk]; decide)) (det_skip (fun e => absurd (hk.symm.trans e) (by decide)) (det_skip (fun e => absurd (hk.symm.trans e) (by decide)) (det_skip (fun e => absurd (hk.symm.trans e) (by decide)) (det_skip (fun e => absurd (hk.symm.trans e) (by decide)) (det_skip (fun e => absurd (hk.symm.trans e) (by decide)) (det_skip (fun e => absurd (hk.symm.trans e) (by decide)) (det_skip (fun e => absurd (hk.symm.trans e) (by decide)) (det_skip (fun e => absurd (hk.symm.trans e) (by decide)) (det_take hk ?_ (fun _ => ⟨fun e => absurd e (fun e => absurd (hk.symm.trans e) (by decide)), fun e => absurd e (fun e => absurd (hk.symm.trans e) (by decide)), fun e => absurd e (fun e => absurd (hk.symm.trans e) (by decide)), fun e => absurd e (fun e => absurd (hk.symm.trans e) (by decide)), fun e => absurd e (fun e => absurd (hk.symm.trans e) (by decide)), fun e => absurd e (fun e => absurd (hk.symm.trans e) (by decide)), fun e => absurd e (fun e => absurd (hk.symm.trans e) (by decide)), fun e => absurd e (fun e => absurd (hk.symm.trans e) (by decide)), fun e => absurd e (fun e => absurd (hk.symm.trans e) (by decide)), fun e => absurd e (fun e => absurd (hk.symm.trans e) (by decide)), fun e => absurd e (fun e => absurd (hk.symm.trans e) (by decide))⟩))))))))))
    refine det_call1 dt_wj_X12_goes_549 (fun _ => ?_)
    exact det_leaf ⟨_, rfl⟩
  · refine det_skip (fun c => absurd c (by rw [hk]; decide)) (det_skip (fun e => absurd (hk.symm.trans e) (by decide)) (det_skip (fun e => absurd (hk.symm.trans e) (by decide)) (det_skip (fun e => absurd (hk.symm.trans e) (by decide)) (det_skip (fun e => absurd (hk.symm.trans e) (by decide)) (det_skip (fun e => absurd (hk.symm.trans e) (by decide)) (det_skip (fun e => absurd (hk.symm.trans e) (by decide)) (det_skip (fun e => absurd (hk.symm.trans e) (by decide)) (det_skip (fun e => absurd (hk.symm.trans e) (by decide)) (det_skip (fun e => absurd (hk.symm.trans e) (by decide)) (det_take hk ?_ (fun _ => ⟨fun e => absurd e (fun e => absurd (hk.symm.trans e) (by decide)), fun e => absurd e (fun e => absurd (hk.symm.trans e) (by decide)), fun e => absurd e (fun e => absurd (hk.symm.trans e) (by decide)), fun e => absurd e (fun e => absurd (hk.symm.trans e) (by decide)), fun e => absurd e (fun e => absurd (hk.symm.trans e) (by decide)), fun e => absurd e (fun e => absurd (hk.symm.trans e) (by decide)), fun e => absurd e (fun e => absurd (hk.symm.trans e) (by decide)), fun e => absurd e (fun e => absurd (hk.symm.trans e) (by decide)), fun e => absurd e (fun e => absurd (hk.symm.trans e) (by decide)), fun e => absurd e (fun e => absurd (hk.symm.trans e) (by decide))⟩)))))))))))
    refine det_if (fun _ => ?_) (fun _ => ?_)
    · refine det_and (fun _ => ?_)
      refine det_letn (fun S16 => ?_)
      refine det_call1 dt_wj_X12_goes_604 (fun _ => ?_)
      exact det_leaf ⟨_, rfl⟩
    · refine det_call2 dt_wp_X12_stepOn (fun S17 r17 => ?_)
      refine det_if (fun _ => ?_) (fun _ => ?_)
      · refine det_call1 dt_wj_X12_goes_604 (fun _ => ?_)
        exact det_leaf ⟨_, rfl⟩
      · refine det_and (fun _ => ?_)
        refine det_letn (fun S19 => ?_)
        refine det_call1 dt_wj_X12_goes_604 (fun _ => ?_)
        exact det_leaf ⟨_, rfl⟩
  · refine det_skip (fun c => absurd c (by rw [hk]; decide)) (det_skip (fun e => absurd (hk.symm.trans e) (by decide)) (det_skip (fun e => absurd (hk.symm.trans e) (by decide)) (det_skip (fun e => absurd (hk.symm.trans e) (by decide)) (det_skip (fun e => absurd (hk.symm.trans e) (by decide)) (det_skip (fun e => absurd (hk.symm.trans e) (by decide)) (det_skip (fun e => absurd (hk.symm.trans e) (by decide)) (det_skip (fun e => absurd (hk.symm.trans e) (by decide)) (det_skip (fun e => absurd (hk.symm.trans e) (by decide)) (det_skip (fun e => absurd (hk.symm.trans e) (by decide)) (det_skip (fun e => absurd (hk.symm.trans e) (by decide)) (det_take hk ?_ (fun _ => ⟨fun e => absurd e (fun e => absurd (hk.symm.trans e) (by decide)), fun e => absurd e (fun e => absurd (hk.symm.trans e) (by decide)), fun e => absurd e (fun e => absurd (hk.symm.trans e) (by decide)), fun e => absurd e (fun e => absurd (hk.symm.trans e) (by decide)), fun e => absurd e (fun e => absurd (hk.symm.trans e) (by decide)), fun e => absurd e (fun e => absurd (hk.symm.trans e) (by decide)), fun e => absurd e (fun e => absurd (hk.symm.trans e) (by decide)), fun e => absurd e (fun e => absurd (hk.symm.trans e) (by decide)), fun e => absurd e (fun e => absurd (hk.symm.trans e) (by decide))⟩))))))))))))
    refine det_if' (fun _ => ?_) (fun _ => ?_)
    · refine det_call1 dt_wj_X12_goes_604 (fun _ => ?_)
      exact det_leaf ⟨_, rfl⟩
    · refine det_if (fun _ => ?_) (fun _ => ?_)
      · refine det_and (fun _ => ?_)
        refine det_letn (fun S22 => ?_)
        refine det_call1 dt_wj_X12_goes_604 (fun _ => ?_)
        exact det_leaf ⟨_, rfl⟩
      · refine det_call2 dt_wp_X12_stepOn (fun S23 r23 => ?_)
        refine det_if (fun _ => ?_) (fun _ => ?_)
        · refine det_call1 dt_wj_X12_goes_604 (fun _ => ?_)
          exact det_leaf ⟨_, rfl⟩
        · refine det_and (fun _ => ?_)
          refine det_letn (fun S25 => ?_)
          refine det_call1 dt_wj_X12_goes_604 (fun _ => ?_)
          exact det_leaf ⟨_, rfl⟩
  · refine det_skip (fun c => absurd c (by rw [hk]; decide)) (det_skip (fun e => absurd (hk.symm.trans e) (by decide)) (det_skip (fun e => absurd (hk.symm.trans e) (by decide)) (det_skip (fun e => absurd (hk.symm.trans e) (by decide)) (det_skip (fun e => absurd (hk.symm.trans e) (by decide)) (det_skip (fun e => absurd (hk.symm.trans e) (by decide)) (det_skip (fun e => absurd (hk.symm.trans e) (by decide)) (det_skip (fun e => absurd (hk.symm.trans e) (by decide)) (det_skip (fun e => absurd (hk.symm.trans e) (by decide)) (det_skip (fun e => absurd (hk.symm.trans e) (by decide)) (det_skip (fun e => absurd (hk.symm.trans e) (by decide)) (det_skip (fun e => absurd (hk.symm.trans e) (by decide)) (det_take hk ?_ (fun _ => ⟨fun e => absurd e (fun e => absurd (hk.symm.trans e) (by decide)), fun e => absurd e (fun e => absurd (hk.symm.trans e) (by decide)), fun e => absurd e (fun e => absurd (hk.symm.trans e) (by decide)), fun e => absurd e (fun e => absurd (hk.symm.trans e) (by decide)), fun e => absurd e (fun e => absurd (hk.symm.trans e) (by decide)), fun e => absurd e (fun e => absurd (hk.symm.trans e) (by decide)), fun e => absurd e (fun e => absurd (hk.symm.trans e) (by decide)), fun e => absurd e (fun e => absurd (hk.symm.trans e) (by decide))⟩)))))))))))))
    refine det_and (fun _ => ?_)
    refine det_letn (fun S26 => ?_)
    refine det_and (fun _ => ?_)
    refine det_call1 dt_wp_X12_call_r (fun S28 => ?_)
    refine det_call1 dt_wj_X12_goes_604 (fun _ => ?_)
    exact det_leaf ⟨_, rfl⟩
  · refine det_skip (fun c => absurd c (by rw [hk]; decide)) (det_skip (fun e => absurd (hk.symm.trans e) (by decide)) (det_skip (fun e => absurd (hk.symm.trans e) (by decide)) (det_skip (fun e => absurd (hk.symm.trans e) (by decide)) (det_skip (fun e => absurd (hk.symm.trans e) (by decide)) (det_skip (fun e => absurd (hk.symm.trans e) (by decide)) (det_skip (fun e => absurd (hk.symm.trans e) (by decide)) (det_skip (fun e => absurd (hk.symm.trans e) (by decide)) (det_skip (fun e => absurd (hk.symm.trans e) (by decide)) (det_skip (fun e => absurd (hk.symm.trans e) (by decide)) (det_skip (fun e => absurd (hk.symm.trans e) (by decide)) (det_skip (fun e => absurd (hk.symm.trans e) (by decide)) (det_skip (fun e => absurd (hk.symm.trans e) (by decide)) (det_take hk ?_ (fun _ => ⟨fun e => absurd e (fun e => absurd (hk.symm.trans e) (by decide)), fun e => absurd e (fun e => absurd (hk.symm.trans e) (by decide)), fun e => absurd e (fun e => absurd (hk.symm.trans e) (by decide)), fun e => absurd e (fun e => absurd (hk.symm.trans e) (by decide)), fun e => absurd e (fun e => absurd (hk.symm.trans e) (by decide)), fun e => absurd e (fun e => absurd (hk.symm.trans e) (by decide)), fun e => absurd e (fun e => absurd (hk.symm.trans e) (by decide))⟩))))))))))))))
    refine det_call1 dt_wp_X12_returns (fun S29 => ?_)
    refine det_call1 dt_wj_X12_goes_604 (fun _ => ?_)
    exact det_leaf ⟨_, rfl⟩
  · refine det_skip (fun c => absurd c (by rw [hk]; decide)) (det_skip (fun e => absurd (hk.symm.trans e) (by decide)) (det_skip (fun e => absurd (hk.symm.trans e) (by decide)) (det_skip (fun e => absurd (hk.symm.trans e) (by decide)) (det_skip (fun e => absurd (hk.symm.trans e) (by decide)) (det_skip (fun e => absurd (hk.symm.trans e) (by decide)) (det_skip (fun e => absurd (hk.symm.trans e) (by decide)) (det_skip (fun e => absurd (hk.symm.trans e) (by decide)) (det_skip (fun e => absurd (hk.symm.trans e) (by decide)) (det_skip (fun e => absurd (hk.symm.trans e) (by decide)) (det_skip (fun e => absurd (hk.symm.trans e) (by decide)) (det_skip (fun e => absurd (hk.symm.trans e) (by decide)) (det_skip (fun e => absurd (hk.symm.trans e) (by decide)) (det_skip (fun e => absurd (hk.symm.trans e) (by decide)) (det_take hk ?_ (fun _ => ⟨fun e => absurd e (fun e => absurd (hk.symm.trans e) (by decide)), fun e => absurd e (fun e => absurd (hk.symm.trans e) (by decide)), fun e => absurd e (fun e => absurd (hk.symm.trans e) (by decide)), fun e => absurd e (fun e => absurd (hk.symm.trans e) (by decide)), fun e => absurd e (fun e => absurd (hk.symm.trans e) (by decide)), fun e => absurd e (fun e => absurd (hk.symm.trans e) (by decide))⟩)))))))))))))))
    refine det_and (fun _ => ?_)
    refine det_and (fun _ => ?_)
    refine det_letn (fun S31 => ?_)
    refine det_call1 dt_wj_X12_goes_604 (fun _ => ?_)
    exact det_leaf ⟨_, rfl⟩
  · refine det_skip (fun c => absurd c (by rw [hk]; decide)) (det_skip (fun e => absurd (hk.symm.trans e) (by decide)) (det_skip (fun e => absurd (hk.symm.trans e) (by decide)) (det_skip (fun e => absurd (hk.symm.trans e) (by decide)) (det_skip (fun e => absurd (hk.symm.trans e) (by decide)) (det_skip (fun e => absurd (hk.symm.trans e) (by decide)) (det_skip (fun e => absurd (hk.symm.trans e) (by decide)) (det_skip (fun e => absurd (hk.symm.trans e) (by decide)) (det_skip (fun e => absurd (hk.symm.trans e) (by decide)) (det_skip (fun e => absurd (hk.symm.trans e) (by decide)) (det_skip (fun e => absurd (hk.symm.trans e) (by decide)) (det_skip (fun e => absurd (hk.symm.trans e) (by decide)) (det_skip (fun e => absurd (hk.symm.trans e) (by decide)) (det_skip (fun e => absurd (hk.symm.trans e) (by decide)) (det_skip (fun e => absurd (hk.symm.trans e) (by decide)) (det_take hk ?_ (fun _ => ⟨fun e => absurd e (fun e => absurd (hk.symm.trans e) (by decide)), fun e => absurd e (fun e => absurd (hk.symm.trans e) (by decide)), fun e => absurd e (fun e => absurd (hk.symm.trans e) (by decide)), fun e => absurd e (fun e => absurd (hk.symm.trans e) (by decide)), fun e => absurd e (fun e => absurd (hk.symm.trans e) (by decide))⟩))))))))))))))))
    refine det_and (fun _ => ?_)
    refine det_letn (fun S32 => ?_)
    refine det_call1 dt_wj_X12_goes_604 (fun _ => ?_)
    exact det_leaf ⟨_, rfl⟩
  · refine det_skip (fun c => absurd c (by rw [hk]; decide)) (det_skip (fun e => absurd (hk.symm.trans e) (by decide)) (det_skip (fun e => absurd (hk.symm.trans e) (by decide)) (det_skip (fun e => absurd (hk.symm.trans e) (by decide)) (det_skip (fun e => absurd (hk.symm.trans e) (by decide)) (det_skip (fun e => absurd (hk.symm.trans e) (by decide)) (det_skip (fun e => absurd (hk.symm.trans e) (by decide)) (det_skip (fun e => absurd (hk.symm.trans e) (by decide)) (det_skip (fun e => absurd (hk.symm.trans e) (by decide)) (det_skip (fun e => absurd (hk.symm.trans e) (by decide)) (det_skip (fun e => absurd (hk.symm.trans e) (by decide)) (det_skip (fun e => absurd (hk.symm.trans e) (by decide)) (det_skip (fun e => absurd (hk.symm.trans e) (by decide)) (det_skip (fun e => absurd (hk.symm.trans e) (by decide)) (det_skip (fun e => absurd (hk.symm.trans e) (by decide)) (det_skip (fun e => absurd (hk.symm.trans e) (by decide)) (det_take hk ?_ (fun _ => ⟨fun e => absurd e (fun e => absurd (hk.symm.trans e) (by decide)), fun e => absurd e (fun e => absurd (hk.symm.trans e) (by decide)), fun e => absurd e (fun e => absurd (hk.symm.trans e) (by decide)), fun e => absurd e (fun e => absurd (hk.symm.trans e) (by decide))⟩)))))))))))))))))
    refine det_call2 dt_wp_X12_makesRow (fun S33 r33 => ?_)
    refine det_call1 dt_wj_X12_goes_604 (fun _ => ?_)
    exact det_leaf ⟨_, rfl⟩
  · refine det_skip (fun c => absurd c (by rw [hk]; decide)) (det_skip (fun e => absurd (hk.symm.trans e) (by decide)) (det_skip (fun e => absurd (hk.symm.trans e) (by decide)) (det_skip (fun e => absurd (hk.symm.trans e) (by decide)) (det_skip (fun e => absurd (hk.symm.trans e) (by decide)) (det_skip (fun e => absurd (hk.symm.trans e) (by decide)) (det_skip (fun e => absurd (hk.symm.trans e) (by decide)) (det_skip (fun e => absurd (hk.symm.trans e) (by decide)) (det_skip (fun e => absurd (hk.symm.trans e) (by decide)) (det_skip (fun e => absurd (hk.symm.trans e) (by decide)) (det_skip (fun e => absurd (hk.symm.trans e) (by decide)) (det_skip (fun e => absurd (hk.symm.trans e) (by decide)) (det_skip (fun e => absurd (hk.symm.trans e) (by decide)) (det_skip (fun e => absurd (hk.symm.trans e) (by decide)) (det_skip (fun e => absurd (hk.symm.trans e) (by decide)) (det_skip (fun e => absurd (hk.symm.trans e) (by decide)) (det_skip (fun e => absurd (hk.symm.trans e) (by decide)) (det_take hk ?_ (fun _ => ⟨fun e => absurd e (fun e => absurd (hk.symm.trans e) (by decide)), fun e => absurd e (fun e => absurd (hk.symm.trans e) (by decide)), fun e => absurd e (fun e => absurd (hk.symm.trans e) (by decide))⟩))))))))))))))))))
    refine det_call1 dt_wp_X12_refuses (fun r34 => ?_)
    refine det_if' (fun _ => ?_) (fun _ => ?_)
    · refine det_and (fun _ => ?_)
      refine det_letn (fun S36 => ?_)
      refine det_call1 dt_wj_X12_goes_604 (fun _ => ?_)
      exact det_leaf ⟨_, rfl⟩
    · refine det_and (fun _ => ?_)
      refine det_and (fun _ => ?_)
      refine det_letn (fun S38 => ?_)
      refine det_call1 dt_wj_X12_goes_604 (fun _ => ?_)
      exact det_leaf ⟨_, rfl⟩
  · refine det_skip (fun c => absurd c (by rw [hk]; decide)) (det_skip (fun e => absurd (hk.symm.trans e) (by decide)) (det_skip (fun e => absurd (hk.symm.trans e) (by decide)) (det_skip (fun e => absurd (hk.symm.trans e) (by decide)) (det_skip (fun e => absurd (hk.symm.trans e) (by decide)) (det_skip (fun e => absurd (hk.symm.trans e) (by decide)) (det_skip (fun e => absurd (hk.symm.trans e) (by decide)) (det_skip (fun e => absurd (hk.symm.trans e) (by decide)) (det_skip (fun e => absurd (hk.symm.trans e) (by decide)) (det_skip (fun e => absurd (hk.symm.trans e) (by decide)) (det_skip (fun e => absurd (hk.symm.trans e) (by decide)) (det_skip (fun e => absurd (hk.symm.trans e) (by decide)) (det_skip (fun e => absurd (hk.symm.trans e) (by decide)) (det_skip (fun e => absurd (hk.symm.trans e) (by decide)) (det_skip (fun e => absurd (hk.symm.trans e) (by decide)) (det_skip (fun e => absurd (hk.symm.trans e) (by decide)) (det_skip (fun e => absurd (hk.symm.trans e) (by decide)) (det_skip (fun e => absurd (hk.symm.trans e) (by decide)) (det_take hk ?_ (fun _ => ⟨fun e => absurd e (fun e => absurd (hk.symm.trans e) (by decide)), fun e => absurd e (fun e => absurd (hk.symm.trans e) (by decide))⟩)))))))))))))))))))
    refine det_and (fun _ => ?_)
    refine det_call1 dt_wp_X12_refuses (fun r40 => ?_)
    refine det_if' (fun _ => ?_) (fun _ => ?_)
    · refine det_call1 dt_wj_X12_goes_604 (fun _ => ?_)
      exact det_leaf ⟨_, rfl⟩
    · refine det_and (fun _ => ?_)
      refine det_and (fun _ => ?_)
      refine det_letn (fun S43 => ?_)
      refine det_call1 dt_wj_X12_goes_604 (fun _ => ?_)
      exact det_leaf ⟨_, rfl⟩
  · refine det_skip (fun c => absurd c (by rw [hk]; decide)) (det_skip (fun e => absurd (hk.symm.trans e) (by decide)) (det_skip (fun e => absurd (hk.symm.trans e) (by decide)) (det_skip (fun e => absurd (hk.symm.trans e) (by decide)) (det_skip (fun e => absurd (hk.symm.trans e) (by decide)) (det_skip (fun e => absurd (hk.symm.trans e) (by decide)) (det_skip (fun e => absurd (hk.symm.trans e) (by decide)) (det_skip (fun e => absurd (hk.symm.trans e) (by decide)) (det_skip (fun e => absurd (hk.symm.trans e) (by decide)) (det_skip (fun e => absurd (hk.symm.trans e) (by decide)) (det_skip (fun e => absurd (hk.symm.trans e) (by decide)) (det_skip (fun e => absurd (hk.symm.trans e) (by decide)) (det_skip (fun e => absurd (hk.symm.trans e) (by decide)) (det_skip (fun e => absurd (hk.symm.trans e) (by decide)) (det_skip (fun e => absurd (hk.symm.trans e) (by decide)) (det_skip (fun e => absurd (hk.symm.trans e) (by decide)) (det_skip (fun e => absurd (hk.symm.trans e) (by decide)) (det_skip (fun e => absurd (hk.symm.trans e) (by decide)) (det_skip (fun e => absurd (hk.symm.trans e) (by decide)) (det_take hk ?_ (fun _ => fun e => absurd e (fun e => absurd (hk.symm.trans e) (by decide))))))))))))))))))))))
    refine det_and (fun _ => ?_)
    refine det_letn (fun S44 => ?_)
    refine det_call1 dt_wj_X12_goes_604 (fun _ => ?_)
    exact det_leaf ⟨_, rfl⟩
  · refine det_skip (fun c => absurd c (by rw [hk]; decide)) (det_skip (fun e => absurd (hk.symm.trans e) (by decide)) (det_skip (fun e => absurd (hk.symm.trans e) (by decide)) (det_skip (fun e => absurd (hk.symm.trans e) (by decide)) (det_skip (fun e => absurd (hk.symm.trans e) (by decide)) (det_skip (fun e => absurd (hk.symm.trans e) (by decide)) (det_skip (fun e => absurd (hk.symm.trans e) (by decide)) (det_skip (fun e => absurd (hk.symm.trans e) (by decide)) (det_skip (fun e => absurd (hk.symm.trans e) (by decide)) (det_skip (fun e => absurd (hk.symm.trans e) (by decide)) (det_skip (fun e => absurd (hk.symm.trans e) (by decide)) (det_skip (fun e => absurd (hk.symm.trans e) (by decide)) (det_skip (fun e => absurd (hk.symm.trans e) (by decide)) (det_skip (fun e => absurd (hk.symm.trans e) (by decide)) (det_skip (fun e => absurd (hk.symm.trans e) (by decide)) (det_skip (fun e => absurd (hk.symm.trans e) (by decide)) (det_skip (fun e => absurd (hk.symm.trans e) (by decide)) (det_skip (fun e => absurd (hk.symm.trans e) (by decide)) (det_skip (fun e => absurd (hk.symm.trans e) (by decide)) (det_skip (fun e => absurd (hk.symm.trans e) (by decide)) (det_last hk ?_))))))))))))))))))))
    refine det_call1 dt_wj_X12_goes_604 (fun _ => ?_)
    exact det_leaf ⟨_, rfl⟩
theorem dt_wj_X12_goes_87 {S_87 : MST} {x87_1 : Int32} {x87_3 : Int32} {x87_4 : Int32} {x87_5 : Int32} {x87_6 : Int32} {x87_7 : Int32} {x87_8 : Int32} : Det Ev1 (fun Post : MST → Prop => wj_X12_goes_87 S_87 x87_1 x87_3 x87_4 x87_5 x87_6 x87_7 x87_8 Post) := by
  unfold wj_X12_goes_87
  refine det_and (fun _ => ?_)
  refine det_letn (fun S45 => ?_)
  refine det_if' (fun _ => ?_) (fun _ => ?_)
  · refine det_call1 dt_wp_X12_takes (fun r47 => ?_)
    refine det_call1 dt_wp_X12_lays (fun r48 => ?_)
    refine det_and (fun _ => ?_)
    refine det_letn (fun S49 => ?_)
    refine det_call1 dt_wj_X12_goes_134 (fun _ => ?_)
    exact det_leaf ⟨_, rfl⟩
  · refine det_and (fun _ => ?_)
    refine det_letn (fun S50 => ?_)
    refine det_call1 dt_wj_X12_goes_134 (fun _ => ?_)
    exact det_leaf ⟨_, rfl⟩
theorem dt_wp_X12_goes {S : MST} : Det Ev1 (fun Post : MST → Prop => wp_X12_goes S Post) := by
  unfold wp_X12_goes
  refine det_and (fun _ => ?_)
  refine det_and (fun _ => ?_)
  refine det_and (fun _ => ?_)
  refine det_and (fun _ => ?_)
  refine det_and (fun _ => ?_)
  refine det_if (fun _ => ?_) (fun _ => ?_)
  · refine det_call1 dt_wj_X12_goes_87 (fun _ => ?_)
    exact det_leaf ⟨_, rfl⟩
  · refine det_and (fun _ => ?_)
    refine det_call1 dt_wj_X12_goes_87 (fun _ => ?_)
    exact det_leaf ⟨_, rfl⟩
theorem dt_wj_X12_goesByPart_649 {S_649 : MST} {x649_8 : Int32} {x649_9 : Int32} : Det Ev1 (fun Post : MST → Prop => wj_X12_goesByPart_649 S_649 x649_8 x649_9 Post) := by
  unfold wj_X12_goesByPart_649
  refine det_if (fun _ => ?_) (fun _ => ?_)
  · exact det_leaf ⟨_, rfl⟩
  · refine det_call1 dt_wp_X12_traps (fun S2 => ?_)
    exact det_leaf ⟨_, rfl⟩
theorem dt_wj_X12_goesByPart_573 {S_573 : MST} {x573_3 : Int32} {x573_4 : Int32} {x573_5 : Int32} {x573_6 : Int32} {x573_7 : Int32} {x573_8 : Int32} : Det Ev1 (fun Post : MST → Prop => wj_X12_goesByPart_573 S_573 x573_3 x573_4 x573_5 x573_6 x573_7 x573_8 Post) := by
  unfold wj_X12_goesByPart_573
  refine det_and (fun _ => ?_)
  refine det_if' (fun _ => ?_) (fun _ => ?_)
  · refine det_and (fun _ => ?_)
    refine det_and (fun _ => ?_)
    refine det_and (fun _ => ?_)
    refine det_call1 dt_wp_X12_sumOf (fun r8 => ?_)
    refine det_and (fun _ => ?_)
    refine det_letn (fun S9 => ?_)
    refine det_call1 dt_wj_X12_goesByPart_649 (fun _ => ?_)
    exact det_leaf ⟨_, rfl⟩
  · refine det_and (fun _ => ?_)
    refine det_if' (fun _ => ?_) (fun _ => ?_)
    · refine det_and (fun _ => ?_)
      refine det_and (fun _ => ?_)
      refine det_and (fun _ => ?_)
      refine det_call1 dt_wp_X12_sumOf (fun r15 => ?_)
      refine det_and (fun _ => ?_)
      refine det_letn (fun S16 => ?_)
      refine det_call1 dt_wj_X12_goesByPart_649 (fun _ => ?_)
      exact det_leaf ⟨_, rfl⟩
    · refine det_call1 dt_wj_X12_goesByPart_649 (fun _ => ?_)
      exact det_leaf ⟨_, rfl⟩
theorem dt_wp_X12_goesByPart {S : MST} : Det Ev1 (fun Post : MST → Prop => wp_X12_goesByPart S Post) := by
  unfold wp_X12_goesByPart
  refine det_and (fun _ => ?_)
  refine det_and (fun _ => ?_)
  refine det_and (fun _ => ?_)
  refine det_and (fun _ => ?_)
  refine det_and (fun _ => ?_)
  refine det_and (fun _ => ?_)
  refine det_and (fun _ => ?_)
  refine det_letn (fun S23 => ?_)
  refine det_and (fun _ => ?_)
  rcases zt_0_18 (S23 25 ((640 * (S 40 ((S 37 0) - 1 : Int32).toNatClampNeg)) + (S 39 ((S 37 0) - 1 : Int32).toNatClampNeg) : Int32).toNatClampNeg) with hk | hk | hk | hk | hk | hk | hk | hk | hk | hk | hk | hk | hk | hk | hk | hk | hk | hk | hk | hk
  · refine det_take hk ?_ (fun _ => ⟨fun e => absurd e (fun e => absurd hk (by rw [e]; decide)), fun e => absurd e (fun e => absurd hk (by rw [e]; decide)), fun e => absurd e (fun e => absurd hk (by rw [e]; decide)), fun e => absurd e (fun e => absurd hk (by rw [e]; decide)), fun e => absurd e (fun e => absurd hk (by rw [e]; decide)), fun e => absurd e (fun e => absurd hk (by rw [e]; decide)), fun e => absurd e (fun e => absurd hk (by rw [e]; decide)), fun e => absurd e (fun e => absurd hk (by rw [e]; decide)), fun e => absurd e (fun e => absurd hk (by rw [e]; decide)), fun e => absurd e (fun e => absurd hk (by rw [e]; decide)), fun e => absurd e (fun e => absurd hk (by rw [e]; decide)), fun e => absurd e (fun e => absurd hk (by rw [e]; decide)), fun e => absurd e (fun e => absurd hk (by rw [e]; decide)), fun e => absurd e (fun e => absurd hk (by rw [e]; decide)), fun e => absurd e (fun e => absurd hk (by rw [e]; decide)), fun e => absurd e (fun e => absurd hk (by rw [e]; decide)), fun e => absurd e (fun e => absurd hk (by rw [e]; decide)), fun e => absurd e (fun e => absurd hk (by rw [e]; decide)), fun e => absurd e (fun e => absurd hk (by rw [e]; decide))⟩)
    refine det_call1 dt_wj_X12_goesByPart_573 (fun _ => ?_)
    exact det_leaf ⟨_, rfl⟩
  · refine det_skip (fun c => absurd c (by rw [hk]; decide)) (det_take hk ?_ (fun _ => ⟨fun e => absurd e (fun e => absurd (hk.symm.trans e) (by decide)), fun e => absurd e (fun e => absurd (hk.symm.trans e) (by decide)), fun e => absurd e (fun e => absurd (hk.symm.trans e) (by decide)), fun e => absurd e (fun e => absurd (hk.symm.trans e) (by decide)), fun e => absurd e (fun e => absurd (hk.symm.trans e) (by decide)), fun e => absurd e (fun e => absurd (hk.symm.trans e) (by decide)), fun e => absurd e (fun e => absurd (hk.symm.trans e) (by decide)), fun e => absurd e (fun e => absurd (hk.symm.trans e) (by decide)), fun e => absurd e (fun e => absurd (hk.symm.trans e) (by decide)), fun e => absurd e (fun e => absurd (hk.symm.trans e) (by decide)), fun e => absurd e (fun e => absurd (hk.symm.trans e) (by decide)), fun e => absurd e (fun e => absurd (hk.symm.trans e) (by decide)), fun e => absurd e (fun e => absurd (hk.symm.trans e) (by decide)), fun e => absurd e (fun e => absurd (hk.symm.trans e) (by decide)), fun e => absurd e (fun e => absurd (hk.symm.trans e) (by decide)), fun e => absurd e (fun e => absurd (hk.symm.trans e) (by decide)), fun e => absurd e (fun e => absurd (hk.symm.trans e) (by decide)), fun e => absurd e (fun e => absurd (hk.symm.trans e) (by decide))⟩))
    refine det_and (fun _ => ?_)
    refine det_letn (fun S25 => ?_)
    refine det_call1 dt_wj_X12_goesByPart_649 (fun _ => ?_)
    exact det_leaf ⟨_, rfl⟩
  · refine det_skip (fun c => absurd c (by rw [hk]; decide)) (det_skip (fun e => absurd (hk.symm.trans e) (by decide)) (det_take hk ?_ (fun _ => ⟨fun e => absurd e (fun e => absurd (hk.symm.trans e) (by decide)), fun e => absurd e (fun e => absurd (hk.symm.trans e) (by decide)), fun e => absurd e (fun e => absurd (hk.symm.trans e) (by decide)), fun e => absurd e (fun e => absurd (hk.symm.trans e) (by decide)), fun e => absurd e (fun e => absurd (hk.symm.trans e) (by decide)), fun e => absurd e (fun e => absurd (hk.symm.trans e) (by decide)), fun e => absurd e (fun e => absurd (hk.symm.trans e) (by decide)), fun e => absurd e (fun e => absurd (hk.symm.trans e) (by decide)), fun e => absurd e (fun e => absurd (hk.symm.trans e) (by decide)), fun e => absurd e (fun e => absurd (hk.symm.trans e) (by decide)), fun e => absurd e (fun e => absurd (hk.symm.trans e) (by decide)), fun e => absurd e (fun e => absurd (hk.symm.trans e) (by decide)), fun e => absurd e (fun e => absurd (hk.symm.trans e) (by decide)), fun e => absurd e (fun e => absurd (hk.symm.trans e) (by decide)), fun e => absurd e (fun e => absurd (hk.symm.trans e) (by decide)), fun e => absurd e (fun e => absurd (hk.symm.trans e) (by decide)), fun e => absurd e (fun e => absurd (hk.symm.trans e) (by decide))⟩)))
    refine det_and (fun _ => ?_)
    refine det_and (fun _ => ?_)
    refine det_letn (fun S27 => ?_)
    refine det_call1 dt_wj_X12_goesByPart_649 (fun _ => ?_)
    exact det_leaf ⟨_, rfl⟩
  · refine det_skip (fun c => absurd c (by rw [hk]; decide)) (det_skip (fun e => absurd (hk.symm.trans e) (by decide)) (det_skip (fun e => absurd (hk.symm.trans e) (by decide)) (det_take hk ?_ (fun _ => ⟨fun e => absurd e (fun e => absurd (hk.symm.trans e) (by decide)), fun e => absurd e (fun e => absurd (hk.symm.trans e) (by decide)), fun e => absurd e (fun e => absurd (hk.symm.trans e) (by decide)), fun e => absurd e (fun e => absurd (hk.symm.trans e) (by decide)), fun e => absurd e (fun e => absurd (hk.symm.trans e) (by decide)), fun e => absurd e (fun e => absurd (hk.symm.trans e) (by decide)), fun e => absurd e (fun e => absurd (hk.symm.trans e) (by decide)), fun e => absurd e (fun e => absurd (hk.symm.trans e) (by decide)), fun e => absurd e (fun e => absurd (hk.symm.trans e) (by decide)), fun e => absurd e (fun e => absurd (hk.symm.trans e) (by decide)), fun e => absurd e (fun e => absurd (hk.symm.trans e) (by decide)), fun e => absurd e (fun e => absurd (hk.symm.trans e) (by decide)), fun e => absurd e (fun e => absurd (hk.symm.trans e) (by decide)), fun e => absurd e (fun e => absurd (hk.symm.trans e) (by decide)), fun e => absurd e (fun e => absurd (hk.symm.trans e) (by decide)), fun e => absurd e (fun e => absurd (hk.symm.trans e) (by decide))⟩))))
    refine det_call1 dt_wj_X12_goesByPart_573 (fun _ => ?_)
    exact det_leaf ⟨_, rfl⟩
  · refine det_skip (fun c => absurd c (by rw [hk]; decide)) (det_skip (fun e => absurd (hk.symm.trans e) (by decide)) (det_skip (fun e => absurd (hk.symm.trans e) (by decide)) (det_skip (fun e => absurd (hk.symm.trans e) (by decide)) (det_take hk ?_ (fun _ => ⟨fun e => absurd e (fun e => absurd (hk.symm.trans e) (by decide)), fun e => absurd e (fun e => absurd (hk.symm.trans e) (by decide)), fun e => absurd e (fun e => absurd (hk.symm.trans e) (by decide)), fun e => absurd e (fun e => absurd (hk.symm.trans e) (by decide)), fun e => absurd e (fun e => absurd (hk.symm.trans e) (by decide)), fun e => absurd e (fun e => absurd (hk.symm.trans e) (by decide)), fun e => absurd e (fun e => absurd (hk.symm.trans e) (by decide)), fun e => absurd e (fun e => absurd (hk.symm.trans e) (by decide)), fun e => absurd e (fun e => absurd (hk.symm.trans e) (by decide)), fun e => absurd e (fun e => absurd (hk.symm.trans e) (by decide)), fun e => absurd e (fun e => absurd (hk.symm.trans e) (by decide)), fun e => absurd e (fun e => absurd (hk.symm.trans e) (by decide)), fun e => absurd e (fun e => absurd (hk.symm.trans e) (by decide)), fun e => absurd e (fun e => absurd (hk.symm.trans e) (by decide)), fun e => absurd e (fun e => absurd (hk.symm.trans e) (by decide))⟩)))))
    refine det_call1 dt_wj_X12_goesByPart_573 (fun _ => ?_)
    exact det_leaf ⟨_, rfl⟩
  · refine det_skip (fun c => absurd c (by rw [hk]; decide)) (det_skip (fun e => absurd (hk.symm.trans e) (by decide)) (det_skip (fun e => absurd (hk.symm.trans e) (by decide)) (det_skip (fun e => absurd (hk.symm.trans e) (by decide)) (det_skip (fun e => absurd (hk.symm.trans e) (by decide)) (det_take hk ?_ (fun _ => ⟨fun e => absurd e (fun e => absurd (hk.symm.trans e) (by decide)), fun e => absurd e (fun e => absurd (hk.symm.trans e) (by decide)), fun e => absurd e (fun e => absurd (hk.symm.trans e) (by decide)), fun e => absurd e (fun e => absurd (hk.symm.trans e) (by decide)), fun e => absurd e (fun e => absurd (hk.symm.trans e) (by decide)), fun e => absurd e (fun e => absurd (hk.symm.trans e) (by decide)), fun e => absurd e (fun e => absurd (hk.symm.trans e) (by decide)), fun e => absurd e (fun e => absurd (hk.symm.trans e) (by decide)), fun e => absurd e (fun e => absurd (hk.symm.trans e) (by decide)), fun e => absurd e (fun e => absurd (hk.symm.trans e) (by decide)), fun e => absurd e (fun e => absurd (hk.symm.trans e) (by decide)), fun e => absurd e (fun e => absurd (hk.symm.trans e) (by decide)), fun e => absurd e (fun e => absurd (hk.symm.trans e) (by decide)), fun e => absurd e (fun e => absurd (hk.symm.trans e) (by decide))⟩))))))
    refine det_call1 dt_wj_X12_goesByPart_573 (fun _ => ?_)
    exact det_leaf ⟨_, rfl⟩
  · refine det_skip (fun c => absurd c (by rw [hk]; decide)) (det_skip (fun e => absurd (hk.symm.trans e) (by decide)) (det_skip (fun e => absurd (hk.symm.trans e) (by decide)) (det_skip (fun e => absurd (hk.symm.trans e) (by decide)) (det_skip (fun e => absurd (hk.symm.trans e) (by decide)) (det_skip (fun e => absurd (hk.symm.trans e) (by decide)) (det_take hk ?_ (fun _ => ⟨fun e => absurd e (fun e => absurd (hk.symm.trans e) (by decide)), fun e => absurd e (fun e => absurd (hk.symm.trans e) (by decide)), fun e => absurd e (fun e => absurd (hk.symm.trans e) (by decide)), fun e => absurd e (fun e => absurd (hk.symm.trans e) (by decide)), fun e => absurd e (fun e => absurd (hk.symm.trans e) (by decide)), fun e => absurd e (fun e => absurd (hk.symm.trans e) (by decide)), fun e => absurd e (fun e => absurd (hk.symm.trans e) (by decide)), fun e => absurd e (fun e => absurd (hk.symm.trans e) (by decide)), fun e => absurd e (fun e => absurd (hk.symm.trans e) (by decide)), fun e => absurd e (fun e => absurd (hk.symm.trans e) (by decide)), fun e => absurd e (fun e => absurd (hk.symm.trans e) (by decide)), fun e => absurd e (fun e => absurd (hk.symm.trans e) (by decide)), fun e => absurd e (fun e => absurd (hk.symm.trans e) (by decide))⟩)))))))
    refine det_call1 dt_wj_X12_goesByPart_573 (fun _ => ?_)
    exact det_leaf ⟨_, rfl⟩
  · refine det_skip (fun c => absurd c (by rw [hk]; decide)) (det_skip (fun e => absurd (hk.symm.trans e) (by decide)) (det_skip (fun e => absurd (hk.symm.trans e) (by decide)) (det_skip (fun e => absurd (hk.symm.trans e) (by decide)) (det_skip (fun e => absurd (hk.symm.trans e) (by decide)) (det_skip (fun e => absurd (hk.symm.trans e) (by decide)) (det_skip (fun e => absurd (hk.symm.trans e) (by decide)) (det_take hk ?_ (fun _ => ⟨fun e => absurd e (fun e => absurd (hk.symm.trans e) (by decide)), fun e => absurd e (fun e => absurd (hk.symm.trans e) (by decide)), fun e => absurd e (fun e => absurd (hk.symm.trans e) (by decide)), fun e => absurd e (fun e => absurd (hk.symm.trans e) (by decide)), fun e => absurd e (fun e => absurd (hk.symm.trans e) (by decide)), fun e => absurd e (fun e => absurd (hk.symm.trans e) (by decide)), fun e => absurd e (fun e => absurd (hk.symm.trans e) (by decide)), fun e => absurd e (fun e => absurd (hk.symm.trans e) (by decide)), fun e => absurd e (fun e => absurd (hk.symm.trans e) (by decide)), fun e => absurd e (fun e => absurd (hk.symm.trans e) (by decide)), fun e => absurd e (fun e => absurd (hk.symm.trans e) (by decide)), fun e => absurd e (fun e => absurd (hk.symm.trans e) (by decide))⟩))))))))
    refine det_call1 dt_wj_X12_goesByPart_573 (fun _ => ?_)
    exact det_leaf ⟨_, rfl⟩
  · refine det_skip (fun c => absurd c (by rw [hk]; decide)) (det_skip (fun e => absurd (hk.symm.trans e) (by decide)) (det_skip (fun e => absurd (hk.symm.trans e) (by decide)) (det_skip (fun e => absurd (hk.symm.trans e) (by decide)) (det_skip (fun e => absurd (hk.symm.trans e) (by decide)) (det_skip (fun e => absurd (hk.symm.trans e) (by decide)) (det_skip (fun e => absurd (hk.symm.trans e) (by decide)) (det_skip (fun e => absurd (hk.symm.trans e) (by decide)) (det_take hk ?_ (fun _ => ⟨fun e => absurd e (fun e => absurd (hk.symm.trans e) (by decide)), fun e => absurd e (fun e => absurd (hk.symm.trans e) (by decide)), fun e => absurd e (fun e => absurd (hk.symm.trans e) (by decide)), fun e => absurd e (fun e => absurd (hk.symm.trans e) (by decide)), fun e => absurd e (fun e => absurd (hk.symm.trans e) (by decide)), fun e => absurd e (fun e => absurd (hk.symm.trans e) (by decide)), fun e => absurd e (fun e => absurd (hk.symm.trans e) (by decide)), fun e => absurd e (fun e => absurd (hk.symm.trans e) (by decide)), fun e => absurd e (fun e => absurd (hk.symm.trans e) (by decide)), fun e => absurd e (fun e => absurd (hk.symm.trans e) (by decide)), fun e => absurd e (fun e => absurd (hk.symm.trans e) (by decide))⟩)))))))))
    refine det_call1 dt_wj_X12_goesByPart_573 (fun _ => ?_)
    exact det_leaf ⟨_, rfl⟩
  · refine det_skip (fun c => absurd c (by rw [hk]; decide)) (det_skip (fun e => absurd (hk.symm.trans e) (by decide)) (det_skip (fun e => absurd (hk.symm.trans e) (by decide)) (det_skip (fun e => absurd (hk.symm.trans e) (by decide)) (det_skip (fun e => absurd (hk.symm.trans e) (by decide)) (det_skip (fun e => absurd (hk.symm.trans e) (by decide)) (det_skip (fun e => absurd (hk.symm.trans e) (by decide)) (det_skip (fun e => absurd (hk.symm.trans e) (by decide)) (det_skip (fun e => absurd (hk.symm.trans e) (by decide)) (det_take hk ?_ (fun _ => ⟨fun e => absurd e (fun e => absurd (hk.symm.trans e) (by decide)), fun e => absurd e (fun e => absurd (hk.symm.trans e) (by decide)), fun e => absurd e (fun e => absurd (hk.symm.trans e) (by decide)), fun e => absurd e (fun e => absurd (hk.symm.trans e) (by decide)), fun e => absurd e (fun e => absurd (hk.symm.trans e) (by decide)), fun e => absurd e (fun e => absurd (hk.symm.trans e) (by decide)), fun e => absurd e (fun e => absurd (hk.symm.trans e) (by decide)), fun e => absurd e (fun e => absurd (hk.symm.trans e) (by decide)), fun e => absurd e (fun e => absurd (hk.symm.trans e) (by decide)), fun e => absurd e (fun e => absurd (hk.symm.trans e) (by decide))⟩))))))))))
    refine det_if (fun _ => ?_) (fun _ => ?_)
    · refine det_and (fun _ => ?_)
      refine det_and (fun _ => ?_)
      refine det_and (fun _ => ?_)
      refine det_letn (fun S31 => ?_)
      refine det_call1 dt_wj_X12_goesByPart_649 (fun _ => ?_)
      exact det_leaf ⟨_, rfl⟩
    · refine det_call2 dt_wp_X12_stepOn (fun S32 r32 => ?_)
      refine det_if (fun _ => ?_) (fun _ => ?_)
      · refine det_call1 dt_wj_X12_goesByPart_649 (fun _ => ?_)
        exact det_leaf ⟨_, rfl⟩
      · refine det_and (fun _ => ?_)
        refine det_and (fun _ => ?_)
        refine det_and (fun _ => ?_)
        refine det_letn (fun S36 => ?_)
        refine det_call1 dt_wj_X12_goesByPart_649 (fun _ => ?_)
        exact det_leaf ⟨_, rfl⟩
  · refine det_skip (fun c => absurd c (by rw [hk]; decide)) (det_skip (fun e => absurd (hk.symm.trans e) (by decide)) (det_skip (fun e => absurd (hk.symm.trans e) (by decide)) (det_skip (fun e => absurd (hk.symm.trans e) (by decide)) (det_skip (fun e => absurd (hk.symm.trans e) (by decide)) (det_skip (fun e => absurd (hk.symm.trans e) (by decide)) (det_skip (fun e => absurd (hk.symm.trans e) (by decide)) (det_skip (fun e => absurd (hk.symm.trans e) (by decide)) (det_skip (fun e => absurd (hk.symm.trans e) (by decide)) (det_skip (fun e => absurd (hk.symm.trans e) (by decide)) (det_take hk ?_ (fun _ => ⟨fun e => absurd e (fun e => absurd (hk.symm.trans e) (by decide)), fun e => absurd e (fun e => absurd (hk.symm.trans e) (by decide)), fun e => absurd e (fun e => absurd (hk.symm.trans e) (by decide)), fun e => absurd e (fun e => absurd (hk.symm.trans e) (by decide)), fun e => absurd e (fun e => absurd (hk.symm.trans e) (by decide)), fun e => absurd e (fun e => absurd (hk.symm.trans e) (by decide)), fun e => absurd e (fun e => absurd (hk.symm.trans e) (by decide)), fun e => absurd e (fun e => absurd (hk.symm.trans e) (by decide)), fun e => absurd e (fun e => absurd (hk.symm.trans e) (by decide))⟩)))))))))))
    refine det_and (fun _ => ?_)
    refine det_if' (fun _ => ?_) (fun _ => ?_)
    · refine det_call1 dt_wj_X12_goesByPart_649 (fun _ => ?_)
      exact det_leaf ⟨_, rfl⟩
    · refine det_if (fun _ => ?_) (fun _ => ?_)
      · refine det_and (fun _ => ?_)
        refine det_and (fun _ => ?_)
        refine det_and (fun _ => ?_)
        refine det_letn (fun S42 => ?_)
        refine det_call1 dt_wj_X12_goesByPart_649 (fun _ => ?_)
        exact det_leaf ⟨_, rfl⟩
      · refine det_call2 dt_wp_X12_stepOn (fun S43 r43 => ?_)
        refine det_if (fun _ => ?_) (fun _ => ?_)
        · refine det_call1 dt_wj_X12_goesByPart_649 (fun _ => ?_)
          exact det_leaf ⟨_, rfl⟩
        · refine det_and (fun _ => ?_)
          refine det_and (fun _ => ?_)
          refine det_and (fun _ => ?_)
          refine det_letn (fun S47 => ?_)
          refine det_call1 dt_wj_X12_goesByPart_649 (fun _ => ?_)
          exact det_leaf ⟨_, rfl⟩
  · refine det_skip (fun c => absurd c (by rw [hk]; decide)) (det_skip (fun e => absurd (hk.symm.trans e) (by decide)) (det_skip (fun e => absurd (hk.symm.trans e) (by decide)) (det_skip (fun e => absurd (hk.symm.trans e) (by decide)) (det_skip (fun e => absurd (hk.symm.trans e) (by decide)) (det_skip (fun e => absurd (hk.symm.trans e) (by decide)) (det_skip (fun e => absurd (hk.symm.trans e) (by decide)) (det_skip (fun e => absurd (hk.symm.trans e) (by decide)) (det_skip (fun e => absurd (hk.symm.trans e) (by decide)) (det_skip (fun e => absurd (hk.symm.trans e) (by decide)) (det_skip (fun e => absurd (hk.symm.trans e) (by decide)) (det_take hk ?_ (fun _ => ⟨fun e => absurd e (fun e => absurd (hk.symm.trans e) (by decide)), fun e => absurd e (fun e => absurd (hk.symm.trans e) (by decide)), fun e => absurd e (fun e => absurd (hk.symm.trans e) (by decide)), fun e => absurd e (fun e => absurd (hk.symm.trans e) (by decide)), fun e => absurd e (fun e => absurd (hk.symm.trans e) (by decide)), fun e => absurd e (fun e => absurd (hk.symm.trans e) (by decide)), fun e => absurd e (fun e => absurd (hk.symm.trans e) (by decide)), fun e => absurd e (fun e => absurd (hk.symm.trans e) (by decide))⟩))))))))))))
    refine det_and (fun _ => ?_)
    refine det_letn (fun S48 => ?_)
    refine det_call1 dt_wp_X12_call_r (fun S49 => ?_)
    refine det_call1 dt_wj_X12_goesByPart_649 (fun _ => ?_)
    exact det_leaf ⟨_, rfl⟩
  · refine det_skip (fun c => absurd c (by rw [hk]; decide)) (det_skip (fun e => absurd (hk.symm.trans e) (by decide)) (det_skip (fun e => absurd (hk.symm.trans e) (by decide)) (det_skip (fun e => absurd (hk.symm.trans e) (by decide)) (det_skip (fun e => absurd (hk.symm.trans e) (by decide)) (det_skip (fun e => absurd (hk.symm.trans e) (by decide)) (det_skip (fun e => absurd (hk.symm.trans e) (by decide)) (det_skip (fun e => absurd (hk.symm.trans e) (by decide)) (det_skip (fun e => absurd (hk.symm.trans e) (by decide)) (det_skip (fun e => absurd (hk.symm.trans e) (by decide)) (det_skip (fun e => absurd (hk.symm.trans e) (by decide)) (det_skip (fun e => absurd (hk.symm.trans e) (by decide)) (det_take hk ?_ (fun _ => ⟨fun e => absurd e (fun e => absurd (hk.symm.trans e) (by decide)), fun e => absurd e (fun e => absurd (hk.symm.trans e) (by decide)), fun e => absurd e (fun e => absurd (hk.symm.trans e) (by decide)), fun e => absurd e (fun e => absurd (hk.symm.trans e) (by decide)), fun e => absurd e (fun e => absurd (hk.symm.trans e) (by decide)), fun e => absurd e (fun e => absurd (hk.symm.trans e) (by decide)), fun e => absurd e (fun e => absurd (hk.symm.trans e) (by decide))⟩)))))))))))))
    refine det_and (fun _ => ?_)
    refine det_call1 dt_wp_X12_returns (fun S51 => ?_)
    refine det_call1 dt_wj_X12_goesByPart_649 (fun _ => ?_)
    exact det_leaf ⟨_, rfl⟩
  · refine det_skip (fun c => absurd c (by rw [hk]; decide)) (det_skip (fun e => absurd (hk.symm.trans e) (by decide)) (det_skip (fun e => absurd (hk.symm.trans e) (by decide)) (det_skip (fun e => absurd (hk.symm.trans e) (by decide)) (det_skip (fun e => absurd (hk.symm.trans e) (by decide)) (det_skip (fun e => absurd (hk.symm.trans e) (by decide)) (det_skip (fun e => absurd (hk.symm.trans e) (by decide)) (det_skip (fun e => absurd (hk.symm.trans e) (by decide)) (det_skip (fun e => absurd (hk.symm.trans e) (by decide)) (det_skip (fun e => absurd (hk.symm.trans e) (by decide)) (det_skip (fun e => absurd (hk.symm.trans e) (by decide)) (det_skip (fun e => absurd (hk.symm.trans e) (by decide)) (det_skip (fun e => absurd (hk.symm.trans e) (by decide)) (det_take hk ?_ (fun _ => ⟨fun e => absurd e (fun e => absurd (hk.symm.trans e) (by decide)), fun e => absurd e (fun e => absurd (hk.symm.trans e) (by decide)), fun e => absurd e (fun e => absurd (hk.symm.trans e) (by decide)), fun e => absurd e (fun e => absurd (hk.symm.trans e) (by decide)), fun e => absurd e (fun e => absurd (hk.symm.trans e) (by decide)), fun e => absurd e (fun e => absurd (hk.symm.trans e) (by decide))⟩))))))))))))))
    refine det_and (fun _ => ?_)
    refine det_and (fun _ => ?_)
    refine det_letn (fun S53 => ?_)
    refine det_call1 dt_wj_X12_goesByPart_649 (fun _ => ?_)
    exact det_leaf ⟨_, rfl⟩
  · refine det_skip (fun c => absurd c (by rw [hk]; decide)) (det_skip (fun e => absurd (hk.symm.trans e) (by decide)) (det_skip (fun e => absurd (hk.symm.trans e) (by decide)) (det_skip (fun e => absurd (hk.symm.trans e) (by decide)) (det_skip (fun e => absurd (hk.symm.trans e) (by decide)) (det_skip (fun e => absurd (hk.symm.trans e) (by decide)) (det_skip (fun e => absurd (hk.symm.trans e) (by decide)) (det_skip (fun e => absurd (hk.symm.trans e) (by decide)) (det_skip (fun e => absurd (hk.symm.trans e) (by decide)) (det_skip (fun e => absurd (hk.symm.trans e) (by decide)) (det_skip (fun e => absurd (hk.symm.trans e) (by decide)) (det_skip (fun e => absurd (hk.symm.trans e) (by decide)) (det_skip (fun e => absurd (hk.symm.trans e) (by decide)) (det_skip (fun e => absurd (hk.symm.trans e) (by decide)) (det_take hk ?_ (fun _ => ⟨fun e => absurd e (fun e => absurd (hk.symm.trans e) (by decide)), fun e => absurd e (fun e => absurd (hk.symm.trans e) (by decide)), fun e => absurd e (fun e => absurd (hk.symm.trans e) (by decide)), fun e => absurd e (fun e => absurd (hk.symm.trans e) (by decide)), fun e => absurd e (fun e => absurd (hk.symm.trans e) (by decide))⟩)))))))))))))))
    refine det_and (fun _ => ?_)
    refine det_and (fun _ => ?_)
    refine det_letn (fun S55 => ?_)
    refine det_call1 dt_wj_X12_goesByPart_649 (fun _ => ?_)
    exact det_leaf ⟨_, rfl⟩
  · refine det_skip (fun c => absurd c (by rw [hk]; decide)) (det_skip (fun e => absurd (hk.symm.trans e) (by decide)) (det_skip (fun e => absurd (hk.symm.trans e) (by decide)) (det_skip (fun e => absurd (hk.symm.trans e) (by decide)) (det_skip (fun e => absurd (hk.symm.trans e) (by decide)) (det_skip (fun e => absurd (hk.symm.trans e) (by decide)) (det_skip (fun e => absurd (hk.symm.trans e) (by decide)) (det_skip (fun e => absurd (hk.symm.trans e) (by decide)) (det_skip (fun e => absurd (hk.symm.trans e) (by decide)) (det_skip (fun e => absurd (hk.symm.trans e) (by decide)) (det_skip (fun e => absurd (hk.symm.trans e) (by decide)) (det_skip (fun e => absurd (hk.symm.trans e) (by decide)) (det_skip (fun e => absurd (hk.symm.trans e) (by decide)) (det_skip (fun e => absurd (hk.symm.trans e) (by decide)) (det_skip (fun e => absurd (hk.symm.trans e) (by decide)) (det_take hk ?_ (fun _ => ⟨fun e => absurd e (fun e => absurd (hk.symm.trans e) (by decide)), fun e => absurd e (fun e => absurd (hk.symm.trans e) (by decide)), fun e => absurd e (fun e => absurd (hk.symm.trans e) (by decide)), fun e => absurd e (fun e => absurd (hk.symm.trans e) (by decide))⟩))))))))))))))))
    refine det_and (fun _ => ?_)
    refine det_call2 dt_wp_X12_makesRow (fun S57 r57 => ?_)
    refine det_call1 dt_wj_X12_goesByPart_649 (fun _ => ?_)
    exact det_leaf ⟨_, rfl⟩
  · refine det_skip (fun c => absurd c (by rw [hk]; decide)) (det_skip (fun e => absurd (hk.symm.trans e) (by decide)) (det_skip (fun e => absurd (hk.symm.trans e) (by decide)) (det_skip (fun e => absurd (hk.symm.trans e) (by decide)) (det_skip (fun e => absurd (hk.symm.trans e) (by decide)) (det_skip (fun e => absurd (hk.symm.trans e) (by decide)) (det_skip (fun e => absurd (hk.symm.trans e) (by decide)) (det_skip (fun e => absurd (hk.symm.trans e) (by decide)) (det_skip (fun e => absurd (hk.symm.trans e) (by decide)) (det_skip (fun e => absurd (hk.symm.trans e) (by decide)) (det_skip (fun e => absurd (hk.symm.trans e) (by decide)) (det_skip (fun e => absurd (hk.symm.trans e) (by decide)) (det_skip (fun e => absurd (hk.symm.trans e) (by decide)) (det_skip (fun e => absurd (hk.symm.trans e) (by decide)) (det_skip (fun e => absurd (hk.symm.trans e) (by decide)) (det_skip (fun e => absurd (hk.symm.trans e) (by decide)) (det_take hk ?_ (fun _ => ⟨fun e => absurd e (fun e => absurd (hk.symm.trans e) (by decide)), fun e => absurd e (fun e => absurd (hk.symm.trans e) (by decide)), fun e => absurd e (fun e => absurd (hk.symm.trans e) (by decide))⟩)))))))))))))))))
    refine det_and (fun _ => ?_)
    refine det_call1 dt_wp_X12_refuses (fun r59 => ?_)
    refine det_if' (fun _ => ?_) (fun _ => ?_)
    · refine det_call1 dt_wj_X12_goesByPart_649 (fun _ => ?_)
      exact det_leaf ⟨_, rfl⟩
    · refine det_and (fun _ => ?_)
      refine det_and (fun _ => ?_)
      refine det_and (fun _ => ?_)
      refine det_letn (fun S63 => ?_)
      refine det_call1 dt_wj_X12_goesByPart_649 (fun _ => ?_)
      exact det_leaf ⟨_, rfl⟩
  · refine det_skip (fun c => absurd c (by rw [hk]; decide)) (det_skip (fun e => absurd (hk.symm.trans e) (by decide)) (det_skip (fun e => absurd (hk.symm.trans e) (by decide)) (det_skip (fun e => absurd (hk.symm.trans e) (by decide)) (det_skip (fun e => absurd (hk.symm.trans e) (by decide)) (det_skip (fun e => absurd (hk.symm.trans e) (by decide)) (det_skip (fun e => absurd (hk.symm.trans e) (by decide)) (det_skip (fun e => absurd (hk.symm.trans e) (by decide)) (det_skip (fun e => absurd (hk.symm.trans e) (by decide)) (det_skip (fun e => absurd (hk.symm.trans e) (by decide)) (det_skip (fun e => absurd (hk.symm.trans e) (by decide)) (det_skip (fun e => absurd (hk.symm.trans e) (by decide)) (det_skip (fun e => absurd (hk.symm.trans e) (by decide)) (det_skip (fun e => absurd (hk.symm.trans e) (by decide)) (det_skip (fun e => absurd (hk.symm.trans e) (by decide)) (det_skip (fun e => absurd (hk.symm.trans e) (by decide)) (det_skip (fun e => absurd (hk.symm.trans e) (by decide)) (det_take hk ?_ (fun _ => ⟨fun e => absurd e (fun e => absurd (hk.symm.trans e) (by decide)), fun e => absurd e (fun e => absurd (hk.symm.trans e) (by decide))⟩))))))))))))))))))
    refine det_and (fun _ => ?_)
    refine det_call1 dt_wp_X12_refuses (fun r65 => ?_)
    refine det_if' (fun _ => ?_) (fun _ => ?_)
    · refine det_call1 dt_wj_X12_goesByPart_649 (fun _ => ?_)
      exact det_leaf ⟨_, rfl⟩
    · refine det_and (fun _ => ?_)
      refine det_and (fun _ => ?_)
      refine det_and (fun _ => ?_)
      refine det_letn (fun S69 => ?_)
      refine det_call1 dt_wj_X12_goesByPart_649 (fun _ => ?_)
      exact det_leaf ⟨_, rfl⟩
  · refine det_skip (fun c => absurd c (by rw [hk]; decide)) (det_skip (fun e => absurd (hk.symm.trans e) (by decide)) (det_skip (fun e => absurd (hk.symm.trans e) (by decide)) (det_skip (fun e => absurd (hk.symm.trans e) (by decide)) (det_skip (fun e => absurd (hk.symm.trans e) (by decide)) (det_skip (fun e => absurd (hk.symm.trans e) (by decide)) (det_skip (fun e => absurd (hk.symm.trans e) (by decide)) (det_skip (fun e => absurd (hk.symm.trans e) (by decide)) (det_skip (fun e => absurd (hk.symm.trans e) (by decide)) (det_skip (fun e => absurd (hk.symm.trans e) (by decide)) (det_skip (fun e => absurd (hk.symm.trans e) (by decide)) (det_skip (fun e => absurd (hk.symm.trans e) (by decide)) (det_skip (fun e => absurd (hk.symm.trans e) (by decide)) (det_skip (fun e => absurd (hk.symm.trans e) (by decide)) (det_skip (fun e => absurd (hk.symm.trans e) (by decide)) (det_skip (fun e => absurd (hk.symm.trans e) (by decide)) (det_skip (fun e => absurd (hk.symm.trans e) (by decide)) (det_skip (fun e => absurd (hk.symm.trans e) (by decide)) (det_take hk ?_ (fun _ => fun e => absurd e (fun e => absurd (hk.symm.trans e) (by decide)))))))))))))))))))))
    refine det_and (fun _ => ?_)
    refine det_if (fun _ => ?_) (fun _ => ?_)
    · refine det_call1 dt_wj_X12_goesByPart_649 (fun _ => ?_)
      exact det_leaf ⟨_, rfl⟩
    · refine det_call1 dt_wp_X12_fails (fun S72 => ?_)
      refine det_call1 dt_wj_X12_goesByPart_649 (fun _ => ?_)
      exact det_leaf ⟨_, rfl⟩
  · refine det_skip (fun c => absurd c (by rw [hk]; decide)) (det_skip (fun e => absurd (hk.symm.trans e) (by decide)) (det_skip (fun e => absurd (hk.symm.trans e) (by decide)) (det_skip (fun e => absurd (hk.symm.trans e) (by decide)) (det_skip (fun e => absurd (hk.symm.trans e) (by decide)) (det_skip (fun e => absurd (hk.symm.trans e) (by decide)) (det_skip (fun e => absurd (hk.symm.trans e) (by decide)) (det_skip (fun e => absurd (hk.symm.trans e) (by decide)) (det_skip (fun e => absurd (hk.symm.trans e) (by decide)) (det_skip (fun e => absurd (hk.symm.trans e) (by decide)) (det_skip (fun e => absurd (hk.symm.trans e) (by decide)) (det_skip (fun e => absurd (hk.symm.trans e) (by decide)) (det_skip (fun e => absurd (hk.symm.trans e) (by decide)) (det_skip (fun e => absurd (hk.symm.trans e) (by decide)) (det_skip (fun e => absurd (hk.symm.trans e) (by decide)) (det_skip (fun e => absurd (hk.symm.trans e) (by decide)) (det_skip (fun e => absurd (hk.symm.trans e) (by decide)) (det_skip (fun e => absurd (hk.symm.trans e) (by decide)) (det_skip (fun e => absurd (hk.symm.trans e) (by decide)) (det_last hk ?_)))))))))))))))))))
    refine det_and (fun _ => ?_)
    refine det_if (fun _ => ?_) (fun _ => ?_)
    · refine det_call1 dt_wj_X12_goesByPart_649 (fun _ => ?_)
      exact det_leaf ⟨_, rfl⟩
    · refine det_call1 dt_wp_X12_fails (fun S75 => ?_)
      refine det_call1 dt_wj_X12_goesByPart_649 (fun _ => ?_)
      exact det_leaf ⟨_, rfl⟩
theorem dt_wp_X12_isOperand {S : MST} {a1 : Int32} {a2 : Int32} {a3 : Int32} : Det Ev1 (fun Post : Int32 → Prop => wp_X12_isOperand S a1 a2 a3 Post) := by
  unfold wp_X12_isOperand
  rcases zt_1_17 a2 with hk | hk | hk | hk | hk | hk | hk | hk | hk | hk | hk | hk | hk | hk | hk | hk | hk | hk
  · refine det_take hk ?_ (fun _ => ⟨fun e => absurd e (fun e => absurd hk (by rw [e]; decide)), fun e => absurd e (fun e => absurd hk (by rw [e]; decide)), fun e => absurd e (fun e => absurd hk (by rw [e]; decide)), fun e => absurd e (fun e => absurd hk (by rw [e]; decide)), fun e => absurd e (fun e => absurd hk (by rw [e]; decide)), fun e => absurd e (fun e => absurd hk (by rw [e]; decide)), fun e => absurd e (fun e => absurd hk (by rw [e]; decide)), fun e => absurd e (fun e => absurd hk (by rw [e]; decide)), fun e => absurd e (fun e => absurd hk (by rw [e]; decide)), fun e => absurd e (fun e => absurd hk (by rw [e]; decide)), fun e => absurd e (fun e => absurd hk (by rw [e]; decide)), fun e => absurd e (fun e => absurd hk (by rw [e]; decide)), fun e => absurd e (fun e => absurd hk (by rw [e]; decide)), fun e => absurd e (fun e => absurd hk (by rw [e]; decide)), fun e => absurd e (fun e => absurd hk (by rw [e]; decide)), fun e => absurd e (fun e => absurd hk (by rw [e]; decide)), fun e => absurd e (fun e => absurd hk (by rw [e]; decide))⟩)
    exact det_leaf ⟨_, rfl⟩
  · refine det_skip (fun c => absurd c (by rw [hk]; decide)) (det_take hk ?_ (fun _ => ⟨fun e => absurd e (fun e => absurd (hk.symm.trans e) (by decide)), fun e => absurd e (fun e => absurd (hk.symm.trans e) (by decide)), fun e => absurd e (fun e => absurd (hk.symm.trans e) (by decide)), fun e => absurd e (fun e => absurd (hk.symm.trans e) (by decide)), fun e => absurd e (fun e => absurd (hk.symm.trans e) (by decide)), fun e => absurd e (fun e => absurd (hk.symm.trans e) (by decide)), fun e => absurd e (fun e => absurd (hk.symm.trans e) (by decide)), fun e => absurd e (fun e => absurd (hk.symm.trans e) (by decide)), fun e => absurd e (fun e => absurd (hk.symm.trans e) (by decide)), fun e => absurd e (fun e => absurd (hk.symm.trans e) (by decide)), fun e => absurd e (fun e => absurd (hk.symm.trans e) (by decide)), fun e => absurd e (fun e => absurd (hk.symm.trans e) (by decide)), fun e => absurd e (fun e => absurd (hk.symm.trans e) (by decide)), fun e => absurd e (fun e => absurd (hk.symm.trans e) (by decide)), fun e => absurd e (fun e => absurd (hk.symm.trans e) (by decide)), fun e => absurd e (fun e => absurd (hk.symm.trans e) (by decide))⟩))
    refine det_and (fun _ => ?_)
    refine det_call1 dt_wp_X12_in (fun r2 => ?_)
    refine det_and (fun _ => ?_)
    exact det_leaf ⟨_, rfl⟩
  · refine det_skip (fun c => absurd c (by rw [hk]; decide)) (det_skip (fun e => absurd (hk.symm.trans e) (by decide)) (det_take hk ?_ (fun _ => ⟨fun e => absurd e (fun e => absurd (hk.symm.trans e) (by decide)), fun e => absurd e (fun e => absurd (hk.symm.trans e) (by decide)), fun e => absurd e (fun e => absurd (hk.symm.trans e) (by decide)), fun e => absurd e (fun e => absurd (hk.symm.trans e) (by decide)), fun e => absurd e (fun e => absurd (hk.symm.trans e) (by decide)), fun e => absurd e (fun e => absurd (hk.symm.trans e) (by decide)), fun e => absurd e (fun e => absurd (hk.symm.trans e) (by decide)), fun e => absurd e (fun e => absurd (hk.symm.trans e) (by decide)), fun e => absurd e (fun e => absurd (hk.symm.trans e) (by decide)), fun e => absurd e (fun e => absurd (hk.symm.trans e) (by decide)), fun e => absurd e (fun e => absurd (hk.symm.trans e) (by decide)), fun e => absurd e (fun e => absurd (hk.symm.trans e) (by decide)), fun e => absurd e (fun e => absurd (hk.symm.trans e) (by decide)), fun e => absurd e (fun e => absurd (hk.symm.trans e) (by decide)), fun e => absurd e (fun e => absurd (hk.symm.trans e) (by decide))⟩)))
    refine det_and (fun _ => ?_)
    refine det_call1 dt_wp_X12_in (fun r4 => ?_)
    refine det_and (fun _ => ?_)
    exact det_leaf ⟨_, rfl⟩
  · refine det_skip (fun c => absurd c (by rw [hk]; decide)) (det_skip (fun e => absurd (hk.symm.trans e) (by decide)) (det_skip (fun e => absurd (hk.symm.trans e) (by decide)) (det_take hk ?_ (fun _ => ⟨fun e => absurd e (fun e => absurd (hk.symm.trans e) (by decide)), fun e => absurd e (fun e => absurd (hk.symm.trans e) (by decide)), fun e => absurd e (fun e => absurd (hk.symm.trans e) (by decide)), fun e => absurd e (fun e => absurd (hk.symm.trans e) (by decide)), fun e => absurd e (fun e => absurd (hk.symm.trans e) (by decide)), fun e => absurd e (fun e => absurd (hk.symm.trans e) (by decide)), fun e => absurd e (fun e => absurd (hk.symm.trans e) (by decide)), fun e => absurd e (fun e => absurd (hk.symm.trans e) (by decide)), fun e => absurd e (fun e => absurd (hk.symm.trans e) (by decide)), fun e => absurd e (fun e => absurd (hk.symm.trans e) (by decide)), fun e => absurd e (fun e => absurd (hk.symm.trans e) (by decide)), fun e => absurd e (fun e => absurd (hk.symm.trans e) (by decide)), fun e => absurd e (fun e => absurd (hk.symm.trans e) (by decide)), fun e => absurd e (fun e => absurd (hk.symm.trans e) (by decide))⟩))))
    exact det_leaf ⟨_, rfl⟩
  · refine det_skip (fun c => absurd c (by rw [hk]; decide)) (det_skip (fun e => absurd (hk.symm.trans e) (by decide)) (det_skip (fun e => absurd (hk.symm.trans e) (by decide)) (det_skip (fun e => absurd (hk.symm.trans e) (by decide)) (det_take hk ?_ (fun _ => ⟨fun e => absurd e (fun e => absurd (hk.symm.trans e) (by decide)), fun e => absurd e (fun e => absurd (hk.symm.trans e) (by decide)), fun e => absurd e (fun e => absurd (hk.symm.trans e) (by decide)), fun e => absurd e (fun e => absurd (hk.symm.trans e) (by decide)), fun e => absurd e (fun e => absurd (hk.symm.trans e) (by decide)), fun e => absurd e (fun e => absurd (hk.symm.trans e) (by decide)), fun e => absurd e (fun e => absurd (hk.symm.trans e) (by decide)), fun e => absurd e (fun e => absurd (hk.symm.trans e) (by decide)), fun e => absurd e (fun e => absurd (hk.symm.trans e) (by decide)), fun e => absurd e (fun e => absurd (hk.symm.trans e) (by decide)), fun e => absurd e (fun e => absurd (hk.symm.trans e) (by decide)), fun e => absurd e (fun e => absurd (hk.symm.trans e) (by decide)), fun e => absurd e (fun e => absurd (hk.symm.trans e) (by decide))⟩)))))
    exact det_leaf ⟨_, rfl⟩
  · refine det_skip (fun c => absurd c (by rw [hk]; decide)) (det_skip (fun e => absurd (hk.symm.trans e) (by decide)) (det_skip (fun e => absurd (hk.symm.trans e) (by decide)) (det_skip (fun e => absurd (hk.symm.trans e) (by decide)) (det_skip (fun e => absurd (hk.symm.trans e) (by decide)) (det_take hk ?_ (fun _ => ⟨fun e => absurd e (fun e => absurd (hk.symm.trans e) (by decide)), fun e => absurd e (fun e => absurd (hk.symm.trans e) (by decide)), fun e => absurd e (fun e => absurd (hk.symm.trans e) (by decide)), fun e => absurd e (fun e => absurd (hk.symm.trans e) (by decide)), fun e => absurd e (fun e => absurd (hk.symm.trans e) (by decide)), fun e => absurd e (fun e => absurd (hk.symm.trans e) (by decide)), fun e => absurd e (fun e => absurd (hk.symm.trans e) (by decide)), fun e => absurd e (fun e => absurd (hk.symm.trans e) (by decide)), fun e => absurd e (fun e => absurd (hk.symm.trans e) (by decide)), fun e => absurd e (fun e => absurd (hk.symm.trans e) (by decide)), fun e => absurd e (fun e => absurd (hk.symm.trans e) (by decide)), fun e => absurd e (fun e => absurd (hk.symm.trans e) (by decide))⟩))))))
    exact det_leaf ⟨_, rfl⟩
  · refine det_skip (fun c => absurd c (by rw [hk]; decide)) (det_skip (fun e => absurd (hk.symm.trans e) (by decide)) (det_skip (fun e => absurd (hk.symm.trans e) (by decide)) (det_skip (fun e => absurd (hk.symm.trans e) (by decide)) (det_skip (fun e => absurd (hk.symm.trans e) (by decide)) (det_skip (fun e => absurd (hk.symm.trans e) (by decide)) (det_take hk ?_ (fun _ => ⟨fun e => absurd e (fun e => absurd (hk.symm.trans e) (by decide)), fun e => absurd e (fun e => absurd (hk.symm.trans e) (by decide)), fun e => absurd e (fun e => absurd (hk.symm.trans e) (by decide)), fun e => absurd e (fun e => absurd (hk.symm.trans e) (by decide)), fun e => absurd e (fun e => absurd (hk.symm.trans e) (by decide)), fun e => absurd e (fun e => absurd (hk.symm.trans e) (by decide)), fun e => absurd e (fun e => absurd (hk.symm.trans e) (by decide)), fun e => absurd e (fun e => absurd (hk.symm.trans e) (by decide)), fun e => absurd e (fun e => absurd (hk.symm.trans e) (by decide)), fun e => absurd e (fun e => absurd (hk.symm.trans e) (by decide)), fun e => absurd e (fun e => absurd (hk.symm.trans e) (by decide))⟩)))))))
    exact det_leaf ⟨_, rfl⟩
  · refine det_skip (fun c => absurd c (by rw [hk]; decide)) (det_skip (fun e => absurd (hk.symm.trans e) (by decide)) (det_skip (fun e => absurd (hk.symm.trans e) (by decide)) (det_skip (fun e => absurd (hk.symm.trans e) (by decide)) (det_skip (fun e => absurd (hk.symm.trans e) (by decide)) (det_skip (fun e => absurd (hk.symm.trans e) (by decide)) (det_skip (fun e => absurd (hk.symm.trans e) (by decide)) (det_take hk ?_ (fun _ => ⟨fun e => absurd e (fun e => absurd (hk.symm.trans e) (by decide)), fun e => absurd e (fun e => absurd (hk.symm.trans e) (by decide)), fun e => absurd e (fun e => absurd (hk.symm.trans e) (by decide)), fun e => absurd e (fun e => absurd (hk.symm.trans e) (by decide)), fun e => absurd e (fun e => absurd (hk.symm.trans e) (by decide)), fun e => absurd e (fun e => absurd (hk.symm.trans e) (by decide)), fun e => absurd e (fun e => absurd (hk.symm.trans e) (by decide)), fun e => absurd e (fun e => absurd (hk.symm.trans e) (by decide)), fun e => absurd e (fun e => absurd (hk.symm.trans e) (by decide)), fun e => absurd e (fun e => absurd (hk.symm.trans e) (by decide))⟩))))))))
    exact det_leaf ⟨_, rfl⟩
  · refine det_skip (fun c => absurd c (by rw [hk]; decide)) (det_skip (fun e => absurd (hk.symm.trans e) (by decide)) (det_skip (fun e => absurd (hk.symm.trans e) (by decide)) (det_skip (fun e => absurd (hk.symm.trans e) (by decide)) (det_skip (fun e => absurd (hk.symm.trans e) (by decide)) (det_skip (fun e => absurd (hk.symm.trans e) (by decide)) (det_skip (fun e => absurd (hk.symm.trans e) (by decide)) (det_skip (fun e => absurd (hk.symm.trans e) (by decide)) (det_take hk ?_ (fun _ => ⟨fun e => absurd e (fun e => absurd (hk.symm.trans e) (by decide)), fun e => absurd e (fun e => absurd (hk.symm.trans e) (by decide)), fun e => absurd e (fun e => absurd (hk.symm.trans e) (by decide)), fun e => absurd e (fun e => absurd (hk.symm.trans e) (by decide)), fun e => absurd e (fun e => absurd (hk.symm.trans e) (by decide)), fun e => absurd e (fun e => absurd (hk.symm.trans e) (by decide)), fun e => absurd e (fun e => absurd (hk.symm.trans e) (by decide)), fun e => absurd e (fun e => absurd (hk.symm.trans e) (by decide)), fun e => absurd e (fun e => absurd (hk.symm.trans e) (by decide))⟩)))))))))
    exact det_leaf ⟨_, rfl⟩
  · refine det_skip (fun c => absurd c (by rw [hk]; decide)) (det_skip (fun e => absurd (hk.symm.trans e) (by decide)) (det_skip (fun e => absurd (hk.symm.trans e) (by decide)) (det_skip (fun e => absurd (hk.symm.trans e) (by decide)) (det_skip (fun e => absurd (hk.symm.trans e) (by decide)) (det_skip (fun e => absurd (hk.symm.trans e) (by decide)) (det_skip (fun e => absurd (hk.symm.trans e) (by decide)) (det_skip (fun e => absurd (hk.symm.trans e) (by decide)) (det_skip (fun e => absurd (hk.symm.trans e) (by decide)) (det_take hk ?_ (fun _ => ⟨fun e => absurd e (fun e => absurd (hk.symm.trans e) (by decide)), fun e => absurd e (fun e => absurd (hk.symm.trans e) (by decide)), fun e => absurd e (fun e => absurd (hk.symm.trans e) (by decide)), fun e => absurd e (fun e => absurd (hk.symm.trans e) (by decide)), fun e => absurd e (fun e => absurd (hk.symm.trans e) (by decide)), fun e => absurd e (fun e => absurd (hk.symm.trans e) (by decide)), fun e => absurd e (fun e => absurd (hk.symm.trans e) (by decide)), fun e => absurd e (fun e => absurd (hk.symm.trans e) (by decide))⟩))))))))))
    exact det_leaf ⟨_, rfl⟩
  · refine det_skip (fun c => absurd c (by rw [hk]; decide)) (det_skip (fun e => absurd (hk.symm.trans e) (by decide)) (det_skip (fun e => absurd (hk.symm.trans e) (by decide)) (det_skip (fun e => absurd (hk.symm.trans e) (by decide)) (det_skip (fun e => absurd (hk.symm.trans e) (by decide)) (det_skip (fun e => absurd (hk.symm.trans e) (by decide)) (det_skip (fun e => absurd (hk.symm.trans e) (by decide)) (det_skip (fun e => absurd (hk.symm.trans e) (by decide)) (det_skip (fun e => absurd (hk.symm.trans e) (by decide)) (det_skip (fun e => absurd (hk.symm.trans e) (by decide)) (det_take hk ?_ (fun _ => ⟨fun e => absurd e (fun e => absurd (hk.symm.trans e) (by decide)), fun e => absurd e (fun e => absurd (hk.symm.trans e) (by decide)), fun e => absurd e (fun e => absurd (hk.symm.trans e) (by decide)), fun e => absurd e (fun e => absurd (hk.symm.trans e) (by decide)), fun e => absurd e (fun e => absurd (hk.symm.trans e) (by decide)), fun e => absurd e (fun e => absurd (hk.symm.trans e) (by decide)), fun e => absurd e (fun e => absurd (hk.symm.trans e) (by decide))⟩)))))))))))
    exact det_leaf ⟨_, rfl⟩
  · refine det_skip (fun c => absurd c (by rw [hk]; decide)) (det_skip (fun e => absurd (hk.symm.trans e) (by decide)) (det_skip (fun e => absurd (hk.symm.trans e) (by decide)) (det_skip (fun e => absurd (hk.symm.trans e) (by decide)) (det_skip (fun e => absurd (hk.symm.trans e) (by decide)) (det_skip (fun e => absurd (hk.symm.trans e) (by decide)) (det_skip (fun e => absurd (hk.symm.trans e) (by decide)) (det_skip (fun e => absurd (hk.symm.trans e) (by decide)) (det_skip (fun e => absurd (hk.symm.trans e) (by decide)) (det_skip (fun e => absurd (hk.symm.trans e) (by decide)) (det_skip (fun e => absurd (hk.symm.trans e) (by decide)) (det_take hk ?_ (fun _ => ⟨fun e => absurd e (fun e => absurd (hk.symm.trans e) (by decide)), fun e => absurd e (fun e => absurd (hk.symm.trans e) (by decide)), fun e => absurd e (fun e => absurd (hk.symm.trans e) (by decide)), fun e => absurd e (fun e => absurd (hk.symm.trans e) (by decide)), fun e => absurd e (fun e => absurd (hk.symm.trans e) (by decide)), fun e => absurd e (fun e => absurd (hk.symm.trans e) (by decide))⟩))))))))))))
    refine det_call1 dt_wp_X12_isMethod (fun r5 => ?_)
    refine det_and (fun _ => ?_)
    exact det_leaf ⟨_, rfl⟩
  · refine det_skip (fun c => absurd c (by rw [hk]; decide)) (det_skip (fun e => absurd (hk.symm.trans e) (by decide)) (det_skip (fun e => absurd (hk.symm.trans e) (by decide)) (det_skip (fun e => absurd (hk.symm.trans e) (by decide)) (det_skip (fun e => absurd (hk.symm.trans e) (by decide)) (det_skip (fun e => absurd (hk.symm.trans e) (by decide)) (det_skip (fun e => absurd (hk.symm.trans e) (by decide)) (det_skip (fun e => absurd (hk.symm.trans e) (by decide)) (det_skip (fun e => absurd (hk.symm.trans e) (by decide)) (det_skip (fun e => absurd (hk.symm.trans e) (by decide)) (det_skip (fun e => absurd (hk.symm.trans e) (by decide)) (det_skip (fun e => absurd (hk.symm.trans e) (by decide)) (det_take hk ?_ (fun _ => ⟨fun e => absurd e (fun e => absurd (hk.symm.trans e) (by decide)), fun e => absurd e (fun e => absurd (hk.symm.trans e) (by decide)), fun e => absurd e (fun e => absurd (hk.symm.trans e) (by decide)), fun e => absurd e (fun e => absurd (hk.symm.trans e) (by decide)), fun e => absurd e (fun e => absurd (hk.symm.trans e) (by decide))⟩)))))))))))))
    exact det_leaf ⟨_, rfl⟩
  · refine det_skip (fun c => absurd c (by rw [hk]; decide)) (det_skip (fun e => absurd (hk.symm.trans e) (by decide)) (det_skip (fun e => absurd (hk.symm.trans e) (by decide)) (det_skip (fun e => absurd (hk.symm.trans e) (by decide)) (det_skip (fun e => absurd (hk.symm.trans e) (by decide)) (det_skip (fun e => absurd (hk.symm.trans e) (by decide)) (det_skip (fun e => absurd (hk.symm.trans e) (by decide)) (det_skip (fun e => absurd (hk.symm.trans e) (by decide)) (det_skip (fun e => absurd (hk.symm.trans e) (by decide)) (det_skip (fun e => absurd (hk.symm.trans e) (by decide)) (det_skip (fun e => absurd (hk.symm.trans e) (by decide)) (det_skip (fun e => absurd (hk.symm.trans e) (by decide)) (det_skip (fun e => absurd (hk.symm.trans e) (by decide)) (det_take hk ?_ (fun _ => ⟨fun e => absurd e (fun e => absurd (hk.symm.trans e) (by decide)), fun e => absurd e (fun e => absurd (hk.symm.trans e) (by decide)), fun e => absurd e (fun e => absurd (hk.symm.trans e) (by decide)), fun e => absurd e (fun e => absurd (hk.symm.trans e) (by decide))⟩))))))))))))))
    refine det_call1 dt_wp_X12_in (fun r6 => ?_)
    refine det_and (fun _ => ?_)
    exact det_leaf ⟨_, rfl⟩
  · refine det_skip (fun c => absurd c (by rw [hk]; decide)) (det_skip (fun e => absurd (hk.symm.trans e) (by decide)) (det_skip (fun e => absurd (hk.symm.trans e) (by decide)) (det_skip (fun e => absurd (hk.symm.trans e) (by decide)) (det_skip (fun e => absurd (hk.symm.trans e) (by decide)) (det_skip (fun e => absurd (hk.symm.trans e) (by decide)) (det_skip (fun e => absurd (hk.symm.trans e) (by decide)) (det_skip (fun e => absurd (hk.symm.trans e) (by decide)) (det_skip (fun e => absurd (hk.symm.trans e) (by decide)) (det_skip (fun e => absurd (hk.symm.trans e) (by decide)) (det_skip (fun e => absurd (hk.symm.trans e) (by decide)) (det_skip (fun e => absurd (hk.symm.trans e) (by decide)) (det_skip (fun e => absurd (hk.symm.trans e) (by decide)) (det_skip (fun e => absurd (hk.symm.trans e) (by decide)) (det_take hk ?_ (fun _ => ⟨fun e => absurd e (fun e => absurd (hk.symm.trans e) (by decide)), fun e => absurd e (fun e => absurd (hk.symm.trans e) (by decide)), fun e => absurd e (fun e => absurd (hk.symm.trans e) (by decide))⟩)))))))))))))))
    refine det_call1 dt_wp_X12_in (fun r7 => ?_)
    refine det_and (fun _ => ?_)
    exact det_leaf ⟨_, rfl⟩
  · refine det_skip (fun c => absurd c (by rw [hk]; decide)) (det_skip (fun e => absurd (hk.symm.trans e) (by decide)) (det_skip (fun e => absurd (hk.symm.trans e) (by decide)) (det_skip (fun e => absurd (hk.symm.trans e) (by decide)) (det_skip (fun e => absurd (hk.symm.trans e) (by decide)) (det_skip (fun e => absurd (hk.symm.trans e) (by decide)) (det_skip (fun e => absurd (hk.symm.trans e) (by decide)) (det_skip (fun e => absurd (hk.symm.trans e) (by decide)) (det_skip (fun e => absurd (hk.symm.trans e) (by decide)) (det_skip (fun e => absurd (hk.symm.trans e) (by decide)) (det_skip (fun e => absurd (hk.symm.trans e) (by decide)) (det_skip (fun e => absurd (hk.symm.trans e) (by decide)) (det_skip (fun e => absurd (hk.symm.trans e) (by decide)) (det_skip (fun e => absurd (hk.symm.trans e) (by decide)) (det_skip (fun e => absurd (hk.symm.trans e) (by decide)) (det_take hk ?_ (fun _ => ⟨fun e => absurd e (fun e => absurd (hk.symm.trans e) (by decide)), fun e => absurd e (fun e => absurd (hk.symm.trans e) (by decide))⟩))))))))))))))))
    refine det_call1 dt_wp_X12_in (fun r8 => ?_)
    refine det_and (fun _ => ?_)
    exact det_leaf ⟨_, rfl⟩
  · refine det_skip (fun c => absurd c (by rw [hk]; decide)) (det_skip (fun e => absurd (hk.symm.trans e) (by decide)) (det_skip (fun e => absurd (hk.symm.trans e) (by decide)) (det_skip (fun e => absurd (hk.symm.trans e) (by decide)) (det_skip (fun e => absurd (hk.symm.trans e) (by decide)) (det_skip (fun e => absurd (hk.symm.trans e) (by decide)) (det_skip (fun e => absurd (hk.symm.trans e) (by decide)) (det_skip (fun e => absurd (hk.symm.trans e) (by decide)) (det_skip (fun e => absurd (hk.symm.trans e) (by decide)) (det_skip (fun e => absurd (hk.symm.trans e) (by decide)) (det_skip (fun e => absurd (hk.symm.trans e) (by decide)) (det_skip (fun e => absurd (hk.symm.trans e) (by decide)) (det_skip (fun e => absurd (hk.symm.trans e) (by decide)) (det_skip (fun e => absurd (hk.symm.trans e) (by decide)) (det_skip (fun e => absurd (hk.symm.trans e) (by decide)) (det_skip (fun e => absurd (hk.symm.trans e) (by decide)) (det_take hk ?_ (fun _ => fun e => absurd e (fun e => absurd (hk.symm.trans e) (by decide)))))))))))))))))))
    refine det_call1 dt_wp_X12_in (fun r9 => ?_)
    refine det_and (fun _ => ?_)
    exact det_leaf ⟨_, rfl⟩
  · refine det_skip (fun c => absurd c (by rw [hk]; decide)) (det_skip (fun e => absurd (hk.symm.trans e) (by decide)) (det_skip (fun e => absurd (hk.symm.trans e) (by decide)) (det_skip (fun e => absurd (hk.symm.trans e) (by decide)) (det_skip (fun e => absurd (hk.symm.trans e) (by decide)) (det_skip (fun e => absurd (hk.symm.trans e) (by decide)) (det_skip (fun e => absurd (hk.symm.trans e) (by decide)) (det_skip (fun e => absurd (hk.symm.trans e) (by decide)) (det_skip (fun e => absurd (hk.symm.trans e) (by decide)) (det_skip (fun e => absurd (hk.symm.trans e) (by decide)) (det_skip (fun e => absurd (hk.symm.trans e) (by decide)) (det_skip (fun e => absurd (hk.symm.trans e) (by decide)) (det_skip (fun e => absurd (hk.symm.trans e) (by decide)) (det_skip (fun e => absurd (hk.symm.trans e) (by decide)) (det_skip (fun e => absurd (hk.symm.trans e) (by decide)) (det_skip (fun e => absurd (hk.symm.trans e) (by decide)) (det_skip (fun e => absurd (hk.symm.trans e) (by decide)) (det_last hk ?_)))))))))))))))))
    refine det_call1 dt_wp_X12_in (fun r10 => ?_)
    refine det_and (fun _ => ?_)
    exact det_leaf ⟨_, rfl⟩
theorem dt_wp_X12_item {S : MST} {a1 : Int32} {a2 : Int32} : Det Ev1 (fun Post : Int32 → Prop => wp_X12_item S a1 a2 Post) := by
  unfold wp_X12_item
  refine det_call1 dt_wp_X12_in (fun r1 => ?_)
  refine det_if (fun _ => ?_) (fun _ => ?_)
  · exact det_leaf ⟨_, rfl⟩
  · refine det_and (fun _ => ?_)
    refine det_call1 dt_wp_X12_in (fun r4 => ?_)
    refine det_if (fun _ => ?_) (fun _ => ?_)
    · exact det_leaf ⟨_, rfl⟩
    · refine det_and (fun _ => ?_)
      exact det_leaf ⟨_, rfl⟩
theorem dt_wp_X12_keep {S : MST} {a1 : Int32} {a2 : Int32} : Det Ev2 (fun Post : MST → Int32 → Prop => wp_X12_keep S a1 a2 Post) := by
  unfold wp_X12_keep
  refine det_call1 dt_wp_X12_in (fun r1 => ?_)
  refine det_if' (fun _ => ?_) (fun _ => ?_)
  · refine det_and (fun _ => ?_)
    refine det_and (fun _ => ?_)
    refine det_letn (fun S4 => ?_)
    exact det_leaf ⟨_, _, rfl⟩
  · exact det_leaf ⟨_, _, rfl⟩
theorem dt_wp_X12_looksAt {S : MST} {a1 : Int32} {a2 : Int32} : Det Ev2 (fun Post : MST → Int32 → Prop => wp_X12_looksAt S a1 a2 Post) := by
  unfold wp_X12_looksAt
  refine det_and (fun _ => ?_)
  refine det_and (fun _ => ?_)
  refine det_and (fun _ => ?_)
  refine det_call1 dt_wp_X12_isOperand (fun r4 => ?_)
  refine det_if' (fun _ => ?_) (fun _ => ?_)
  · refine det_call1 dt_wp_X12_takes (fun r6 => ?_)
    refine det_if (fun _ => ?_) (fun _ => ?_)
    · refine det_call1 dt_wp_X12_takes (fun r8 => ?_)
      refine det_call1 dt_wp_X12_lays (fun r9 => ?_)
      refine det_if (fun _ => ?_) (fun _ => ?_)
      · refine det_if (fun _ => ?_) (fun _ => ?_)
        · refine det_and (fun _ => ?_)
          refine det_call1 dt_wp_X12_in (fun r13 => ?_)
          refine det_if' (fun _ => ?_) (fun _ => ?_)
          · refine det_call2 dt_wp_X12_comesTo (fun S15 r15 => ?_)
            refine det_if (fun _ => ?_) (fun _ => ?_)
            · refine det_if (fun _ => ?_) (fun _ => ?_)
              · exact det_leaf ⟨_, _, rfl⟩
              · refine det_if' (fun _ => ?_) (fun _ => ?_)
                · refine det_and (fun _ => ?_)
                  refine det_if' (fun _ => ?_) (fun _ => ?_)
                  · refine det_call2 dt_wp_X12_comesTo (fun S21 r21 => ?_)
                    exact det_leaf ⟨_, _, rfl⟩
                  · exact det_leaf ⟨_, _, rfl⟩
                · exact det_leaf ⟨_, _, rfl⟩
            · exact det_leaf ⟨_, _, rfl⟩
          · exact det_leaf ⟨_, _, rfl⟩
        · refine det_if' (fun _ => ?_) (fun _ => ?_)
          · refine det_if (fun _ => ?_) (fun _ => ?_)
            · exact det_leaf ⟨_, _, rfl⟩
            · refine det_if' (fun _ => ?_) (fun _ => ?_)
              · refine det_and (fun _ => ?_)
                refine det_if' (fun _ => ?_) (fun _ => ?_)
                · refine det_call2 dt_wp_X12_comesTo (fun S27 r27 => ?_)
                  exact det_leaf ⟨_, _, rfl⟩
                · exact det_leaf ⟨_, _, rfl⟩
              · exact det_leaf ⟨_, _, rfl⟩
          · refine det_and (fun _ => ?_)
            refine det_call1 dt_wp_X12_in (fun r29 => ?_)
            refine det_if' (fun _ => ?_) (fun _ => ?_)
            · refine det_call2 dt_wp_X12_comesTo (fun S31 r31 => ?_)
              refine det_if (fun _ => ?_) (fun _ => ?_)
              · refine det_if (fun _ => ?_) (fun _ => ?_)
                · exact det_leaf ⟨_, _, rfl⟩
                · refine det_if' (fun _ => ?_) (fun _ => ?_)
                  · refine det_and (fun _ => ?_)
                    refine det_if' (fun _ => ?_) (fun _ => ?_)
                    · refine det_call2 dt_wp_X12_comesTo (fun S37 r37 => ?_)
                      exact det_leaf ⟨_, _, rfl⟩
                    · exact det_leaf ⟨_, _, rfl⟩
                  · exact det_leaf ⟨_, _, rfl⟩
              · exact det_leaf ⟨_, _, rfl⟩
            · exact det_leaf ⟨_, _, rfl⟩
      · exact det_leaf ⟨_, _, rfl⟩
    · exact det_leaf ⟨_, _, rfl⟩
  · exact det_leaf ⟨_, _, rfl⟩
theorem dl_wl_X12_nextWaiting_2 {ρ : Type} {E : (ρ → Prop) → Prop} {S : MST} {K_29 : ρ → Prop} {K_21 : ρ → Int32 → Prop} {Pw : ρ → Int32 → Prop} (hK_29 : Det E (fun P => K_29 P )) (hK_21 : ∀ (x_0 : Int32), Det E (fun P => K_21 P x_0)) (hP : ∀ (x_0 : Int32), Det E (fun P => Pw P x_0)) : ∀ (n_ : Nat) (x2_1 : Int32) (x2_2 : Int32), Det E (fun P => wl_X12_nextWaiting_2 S (K_29 P) (K_21 P) (Pw P) n_ x2_1 x2_2) := by
  intro n_
  induction n_ with
  | zero => intro x2_1 x2_2; unfold wl_X12_nextWaiting_2; exact det_false
  | succ n_ ih_ =>
    intro x2_1 x2_2
    unfold wl_X12_nextWaiting_2
    refine det_and (fun _ => ?_)
    refine det_if (fun _ => ?_) (fun _ => ?_)
    · exact hK_29 
    · refine det_and (fun _ => ?_)
      refine det_if (fun _ => ?_) (fun _ => ?_)
      · exact ih_ _ _
      · exact hK_21 _
theorem dt_wp_X12_nextWaiting {S : MST} {a1 : Int32} : Det Ev1 (fun Post : Int32 → Prop => wp_X12_nextWaiting S a1 Post) := by
  unfold wp_X12_nextWaiting
  refine det_ex (fun n_2 => ?_)
  refine dl_wl_X12_nextWaiting_2 ?_ (fun x21_2 => ?_) (fun _ => ?_) _ _ _
  · exact det_leaf ⟨_, rfl⟩
  · exact det_leaf ⟨_, rfl⟩
  · exact det_leaf ⟨_, rfl⟩
theorem dl_wl_X12_look_91 {ρ : Type} {E : (ρ → Prop) → Prop}  {K_171 : ρ → MST → Int32 → Int32 → Prop} {K_155 : ρ → MST → Int32 → Prop} {Pw : ρ → MST → Int32 → Prop} (hK_171 : ∀ (x_0 : MST) (x_1 : Int32) (x_2 : Int32), Det E (fun P => K_171 P x_0 x_1 x_2)) (hK_155 : ∀ (x_0 : MST) (x_1 : Int32), Det E (fun P => K_155 P x_0 x_1)) (hP : ∀ (x_0 : MST) (x_1 : Int32), Det E (fun P => Pw P x_0 x_1)) : ∀ (n_ : Nat) (S_91 : MST) (x91_1 : Int32) (x91_3 : Int32) (x91_4 : Int32), Det E (fun P => wl_X12_look_91  (K_171 P) (K_155 P) (Pw P) n_ S_91 x91_1 x91_3 x91_4) := by
  intro n_
  induction n_ with
  | zero => intro S_91 x91_1 x91_3 x91_4; unfold wl_X12_look_91; exact det_false
  | succ n_ ih_ =>
    intro S_91 x91_1 x91_3 x91_4
    unfold wl_X12_look_91
    refine det_if (fun _ => ?_) (fun _ => ?_)
    · exact hK_171 _ _ _
    · refine det_and (fun _ => ?_)
      refine det_letn (fun S12 => ?_)
      refine det_and (fun _ => ?_)
      refine det_if (fun _ => ?_) (fun _ => ?_)
      · refine det_call2 dt_wp_X12_looksAt (fun S15 r15 => ?_)
        refine det_letn (fun S16 => ?_)
        refine det_if (fun _ => ?_) (fun _ => ?_)
        · refine det_call1 dt_wp_X12_nextWaiting (fun r18 => ?_)
          exact ih_ _ _ _ _
        · exact hK_155 _ _
      · refine det_and (fun _ => ?_)
        refine det_call2 dt_wp_X12_looksAt (fun S20 r20 => ?_)
        refine det_letn (fun S21 => ?_)
        refine det_if (fun _ => ?_) (fun _ => ?_)
        · refine det_call1 dt_wp_X12_nextWaiting (fun r23 => ?_)
          exact ih_ _ _ _ _
        · exact hK_155 _ _
theorem dl_wl_X12_look_30 {ρ : Type} {E : (ρ → Prop) → Prop}  {K_61 : ρ → MST → Int32 → Prop} {Pw : ρ → MST → Int32 → Prop} (hK_61 : ∀ (x_0 : MST) (x_1 : Int32), Det E (fun P => K_61 P x_0 x_1)) (hP : ∀ (x_0 : MST) (x_1 : Int32), Det E (fun P => Pw P x_0 x_1)) : ∀ (n_ : Nat) (S_30 : MST) (x30_1 : Int32) (x30_2 : Int32), Det E (fun P => wl_X12_look_30  (K_61 P) (Pw P) n_ S_30 x30_1 x30_2) := by
  intro n_
  induction n_ with
  | zero => intro S_30 x30_1 x30_2; unfold wl_X12_look_30; exact det_false
  | succ n_ ih_ =>
    intro S_30 x30_1 x30_2
    unfold wl_X12_look_30
    refine det_if (fun _ => ?_) (fun _ => ?_)
    · exact hK_61 _ _
    · refine det_and (fun _ => ?_)
      refine det_letn (fun S26 => ?_)
      refine det_and (fun _ => ?_)
      refine det_letn (fun S27 => ?_)
      exact ih_ _ _ _
theorem dt_wp_X12_look {S : MST} {a1 : Int32} : Det Ev2 (fun Post : MST → Int32 → Prop => wp_X12_look S a1 Post) := by
  unfold wp_X12_look
  refine det_call1 dt_wp_X12_isMethod (fun r1 => ?_)
  refine det_if' (fun _ => ?_) (fun _ => ?_)
  · refine det_and (fun _ => ?_)
    refine det_if (fun _ => ?_) (fun _ => ?_)
    · refine det_letn (fun S5 => ?_)
      refine det_ex (fun n_30 => ?_)
      refine dl_wl_X12_look_30 (fun S_61 x61_1 => ?_) (fun _ _ => ?_) _ _ _ _
      · refine det_and (fun _ => ?_)
        refine det_if' (fun _ => ?_) (fun _ => ?_)
        · refine det_call2 dt_wp_X12_comesTo (fun S8 r8 => ?_)
          refine det_ex (fun n_91 => ?_)
          refine dl_wl_X12_look_91 (fun S_171 x171_1 x171_3 => ?_) (fun S_155 x155_4 => ?_) (fun _ _ => ?_) _ _ _ _ _
          · refine det_and (fun _ => ?_)
            refine det_letn (fun S9 => ?_)
            refine det_and (fun _ => ?_)
            refine det_letn (fun S10 => ?_)
            exact det_leaf ⟨_, _, rfl⟩
          · exact det_leaf ⟨_, _, rfl⟩
          · exact det_leaf ⟨_, _, rfl⟩
        · refine det_letn (fun S24 => ?_)
          exact det_leaf ⟨_, _, rfl⟩
      · exact det_leaf ⟨_, _, rfl⟩
    · exact det_leaf ⟨_, _, rfl⟩
  · exact det_leaf ⟨_, _, rfl⟩
theorem dt_wp_X12_lose {S : MST} {a1 : Int32} : Det Ev2 (fun Post : MST → Int32 → Prop => wp_X12_lose S a1 Post) := by
  unfold wp_X12_lose
  refine det_call1 dt_wp_X12_in (fun r1 => ?_)
  refine det_if' (fun _ => ?_) (fun _ => ?_)
  · refine det_and (fun _ => ?_)
    refine det_and (fun _ => ?_)
    refine det_letn (fun S4 => ?_)
    exact det_leaf ⟨_, _, rfl⟩
  · exact det_leaf ⟨_, _, rfl⟩
theorem dt_wp_X12_method {S : MST} {a1 : Int32} {a2 : Int32} : Det Ev2 (fun Post : MST → Int32 → Prop => wp_X12_method S a1 a2 Post) := by
  unfold wp_X12_method
  refine det_call1 dt_wp_X12_in (fun r1 => ?_)
  refine det_if (fun _ => ?_) (fun _ => ?_)
  · exact det_leaf ⟨_, _, rfl⟩
  · refine det_call1 dt_wp_X12_in (fun r3 => ?_)
    refine det_if' (fun _ => ?_) (fun _ => ?_)
    · refine det_if' (fun _ => ?_) (fun _ => ?_)
      · refine det_and (fun _ => ?_)
        refine det_letn (fun S6 => ?_)
        refine det_and (fun _ => ?_)
        refine det_letn (fun S7 => ?_)
        refine det_letn (fun S8 => ?_)
        exact det_leaf ⟨_, _, rfl⟩
      · exact det_leaf ⟨_, _, rfl⟩
    · exact det_leaf ⟨_, _, rfl⟩
theorem dl_wl_X12_run_155 {ρ : Type} {E : (ρ → Prop) → Prop}  {K_190 : ρ → MST → Prop} {Pw : ρ → MST → Int32 → Prop} (hK_190 : ∀ (x_0 : MST), Det E (fun P => K_190 P x_0)) (hP : ∀ (x_0 : MST) (x_1 : Int32), Det E (fun P => Pw P x_0 x_1)) : ∀ (n_ : Nat) (S_155 : MST), Det E (fun P => wl_X12_run_155  (K_190 P) (Pw P) n_ S_155) := by
  intro n_
  induction n_ with
  | zero => intro S_155; unfold wl_X12_run_155; exact det_false
  | succ n_ ih_ =>
    intro S_155
    unfold wl_X12_run_155
    refine det_if' (fun _ => ?_) (fun _ => ?_)
    · exact hK_190 _
    · refine det_and (fun _ => ?_)
      refine det_if (fun _ => ?_) (fun _ => ?_)
      · refine det_call1 dt_wp_X12_goesByPart (fun S20 => ?_)
        exact ih_ _
      · refine det_call1 dt_wp_X12_goes (fun S21 => ?_)
        exact ih_ _
theorem dl_wl_X12_run_102 {ρ : Type} {E : (ρ → Prop) → Prop}  {K_122 : ρ → MST → Int32 → Int32 → Int32 → Int32 → Prop} {Pw : ρ → MST → Int32 → Prop} (hK_122 : ∀ (x_0 : MST) (x_1 : Int32) (x_2 : Int32) (x_3 : Int32) (x_4 : Int32), Det E (fun P => K_122 P x_0 x_1 x_2 x_3 x_4)) (hP : ∀ (x_0 : MST) (x_1 : Int32), Det E (fun P => Pw P x_0 x_1)) : ∀ (n_ : Nat) (S_102 : MST) (x102_1 : Int32) (x102_2 : Int32) (x102_3 : Int32) (x102_4 : Int32) (x102_5 : Int32), Det E (fun P => wl_X12_run_102  (K_122 P) (Pw P) n_ S_102 x102_1 x102_2 x102_3 x102_4 x102_5) := by
  intro n_
  induction n_ with
  | zero => intro S_102 x102_1 x102_2 x102_3 x102_4 x102_5; unfold wl_X12_run_102; exact det_false
  | succ n_ ih_ =>
    intro S_102 x102_1 x102_2 x102_3 x102_4 x102_5
    unfold wl_X12_run_102
    refine det_if (fun _ => ?_) (fun _ => ?_)
    · exact hK_122 _ _ _ _ _
    · refine det_and (fun _ => ?_)
      refine det_letn (fun S23 => ?_)
      exact ih_ _ _ _ _ _ _
theorem dl_wl_X12_run_14 {ρ : Type} {E : (ρ → Prop) → Prop}  {K_42 : ρ → MST → Int32 → Int32 → Int32 → Int32 → Prop} {K_33 : ρ → MST → Prop} {Pw : ρ → MST → Int32 → Prop} (hK_42 : ∀ (x_0 : MST) (x_1 : Int32) (x_2 : Int32) (x_3 : Int32) (x_4 : Int32), Det E (fun P => K_42 P x_0 x_1 x_2 x_3 x_4)) (hK_33 : ∀ (x_0 : MST), Det E (fun P => K_33 P x_0)) (hP : ∀ (x_0 : MST) (x_1 : Int32), Det E (fun P => Pw P x_0 x_1)) : ∀ (n_ : Nat) (S_14 : MST) (x14_1 : Int32) (x14_2 : Int32) (x14_3 : Int32) (x14_4 : Int32) (x14_5 : Int32), Det E (fun P => wl_X12_run_14  (K_42 P) (K_33 P) (Pw P) n_ S_14 x14_1 x14_2 x14_3 x14_4 x14_5) := by
  intro n_
  induction n_ with
  | zero => intro S_14 x14_1 x14_2 x14_3 x14_4 x14_5; unfold wl_X12_run_14; exact det_false
  | succ n_ ih_ =>
    intro S_14 x14_1 x14_2 x14_3 x14_4 x14_5
    unfold wl_X12_run_14
    refine det_if (fun _ => ?_) (fun _ => ?_)
    · exact hK_42 _ _ _ _ _
    · refine det_and (fun _ => ?_)
      refine det_if' (fun _ => ?_) (fun _ => ?_)
      · exact ih_ _ _ _ _ _ _
      · exact hK_33 _
theorem dt_wp_X12_run {S : MST} {a1 : Int32} {a2 : Int32} {a3 : Int32} {a4 : Int32} : Det Ev2 (fun Post : MST → Int32 → Prop => wp_X12_run S a1 a2 a3 a4 Post) := by
  unfold wp_X12_run
  refine det_call1 dt_wp_X12_isMethod (fun r1 => ?_)
  refine det_if' (fun _ => ?_) (fun _ => ?_)
  · refine det_ex (fun n_14 => ?_)
    refine dl_wl_X12_run_14 (fun S_42 x42_1 x42_2 x42_3 x42_4 => ?_) (fun S_33 => ?_) (fun _ _ => ?_) _ _ _ _ _ _ _
    · refine det_if' (fun _ => ?_) (fun _ => ?_)
      · refine det_letn (fun S4 => ?_)
        refine det_letn (fun S5 => ?_)
        refine det_letn (fun S6 => ?_)
        refine det_letn (fun S7 => ?_)
        refine det_letn (fun S8 => ?_)
        refine det_letn (fun S9 => ?_)
        refine det_letn (fun S10 => ?_)
        refine det_letn (fun S11 => ?_)
        refine det_ex (fun n_102 => ?_)
        refine dl_wl_X12_run_102 (fun S_122 x122_1 x122_2 x122_3 x122_4 => ?_) (fun _ _ => ?_) _ _ _ _ _ _ _
        · refine det_and (fun _ => ?_)
          refine det_letn (fun S12 => ?_)
          refine det_and (fun _ => ?_)
          refine det_letn (fun S13 => ?_)
          refine det_and (fun _ => ?_)
          refine det_letn (fun S14 => ?_)
          refine det_call1 dt_wp_X12_call_f (fun S15 => ?_)
          refine det_ex (fun n_155 => ?_)
          refine dl_wl_X12_run_155 (fun S_190 => ?_) (fun _ _ => ?_) _ _
          · refine det_if' (fun _ => ?_) (fun _ => ?_)
            · exact det_leaf ⟨_, _, rfl⟩
            · exact det_leaf ⟨_, _, rfl⟩
          · exact det_leaf ⟨_, _, rfl⟩
        · exact det_leaf ⟨_, _, rfl⟩
      · exact det_leaf ⟨_, _, rfl⟩
    · exact det_leaf ⟨_, _, rfl⟩
    · exact det_leaf ⟨_, _, rfl⟩
  · exact det_leaf ⟨_, _, rfl⟩
theorem dt_wp_X12_size {S : MST} {a1 : Int32} : Det Ev1 (fun Post : Int32 → Prop => wp_X12_size S a1 Post) := by
  unfold wp_X12_size
  refine det_call1 dt_wp_X12_in (fun r1 => ?_)
  refine det_if (fun _ => ?_) (fun _ => ?_)
  · exact det_leaf ⟨_, rfl⟩
  · refine det_and (fun _ => ?_)
    exact det_leaf ⟨_, rfl⟩
theorem dt_wp_X12_trap {S : MST} {a1 : Int32} : Det Ev1 (fun Post : Int32 → Prop => wp_X12_trap S a1 Post) := by
  unfold wp_X12_trap
  refine det_call1 dt_wp_X12_in (fun r1 => ?_)
  refine det_if (fun _ => ?_) (fun _ => ?_)
  · exact det_leaf ⟨_, rfl⟩
  · refine det_and (fun _ => ?_)
    exact det_leaf ⟨_, rfl⟩
theorem dt_wp_X12_varies {S : MST} {a1 : Int32} {a2 : Int32} : Det Ev1 (fun Post : Int32 → Prop => wp_X12_varies S a1 a2 Post) := by
  unfold wp_X12_varies
  refine det_call1 dt_wp_X12_isMethod (fun r1 => ?_)
  refine det_if (fun _ => ?_) (fun _ => ?_)
  · exact det_leaf ⟨_, rfl⟩
  · refine det_call1 dt_wp_X12_in (fun r3 => ?_)
    refine det_if' (fun _ => ?_) (fun _ => ?_)
    · refine det_if (fun _ => ?_) (fun _ => ?_)
      · refine det_and (fun _ => ?_)
        refine det_if (fun _ => ?_) (fun _ => ?_)
        · exact det_leaf ⟨_, rfl⟩
        · exact det_leaf ⟨_, rfl⟩
      · refine det_and (fun _ => ?_)
        refine det_if (fun _ => ?_) (fun _ => ?_)
        · exact det_leaf ⟨_, rfl⟩
        · exact det_leaf ⟨_, rfl⟩
    · refine det_call1 dt_wp_X12_in (fun r10 => ?_)
      refine det_if' (fun _ => ?_) (fun _ => ?_)
      · refine det_if (fun _ => ?_) (fun _ => ?_)
        · refine det_and (fun _ => ?_)
          refine det_if (fun _ => ?_) (fun _ => ?_)
          · exact det_leaf ⟨_, rfl⟩
          · exact det_leaf ⟨_, rfl⟩
        · refine det_and (fun _ => ?_)
          refine det_if (fun _ => ?_) (fun _ => ?_)
          · exact det_leaf ⟨_, rfl⟩
          · exact det_leaf ⟨_, rfl⟩
      · exact det_leaf ⟨_, rfl⟩
theorem dt_wp_X12_write {S : MST} {a1 : Int32} {a2 : Int32} {a3 : Int32} : Det Ev2 (fun Post : MST → Int32 → Prop => wp_X12_write S a1 a2 a3 Post) := by
  unfold wp_X12_write
  refine det_call1 dt_wp_X12_isMethod (fun r1 => ?_)
  refine det_if (fun _ => ?_) (fun _ => ?_)
  · exact det_leaf ⟨_, _, rfl⟩
  · refine det_call1 dt_wp_X12_in (fun r3 => ?_)
    refine det_if' (fun _ => ?_) (fun _ => ?_)
    · refine det_and (fun _ => ?_)
      refine det_if (fun _ => ?_) (fun _ => ?_)
      · refine det_and (fun _ => ?_)
        refine det_if' (fun _ => ?_) (fun _ => ?_)
        · refine det_and (fun _ => ?_)
          refine det_and (fun _ => ?_)
          refine det_letn (fun S10 => ?_)
          refine det_and (fun _ => ?_)
          refine det_and (fun _ => ?_)
          refine det_letn (fun S12 => ?_)
          refine det_and (fun _ => ?_)
          refine det_and (fun _ => ?_)
          refine det_letn (fun S14 => ?_)
          refine det_and (fun _ => ?_)
          exact det_leaf ⟨_, _, rfl⟩
        · exact det_leaf ⟨_, _, rfl⟩
      · exact det_leaf ⟨_, _, rfl⟩
    · exact det_leaf ⟨_, _, rfl⟩
