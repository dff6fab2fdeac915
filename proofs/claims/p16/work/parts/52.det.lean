/-! DETERMINED conditions: whatever a condition allows, it has one outcome (for the room: how many codes a call makes is fixed by what it starts from) -/
/-- E: the ways in which an outcome may be asked for (P a, P a b ..) -/
def Det {ρ : Type} (E : (ρ → Prop) → Prop) (w : ρ → Prop) : Prop := ∀ P : ρ, w P → ∃ ev : ρ → Prop, E ev ∧ ev P ∧ ∀ Q : ρ, ev Q → w Q
section DET
variable {ρ : Type} {E : (ρ → Prop) → Prop}
theorem det_leaf {ev : ρ → Prop} (h : E ev) : Det E ev := fun _ hP => ⟨ev, h, hP, fun _ q => q⟩
theorem det_and {c : Prop} {w : ρ → Prop} (h : c → Det E w) : Det E (fun P => c ∧ w P) := fun P hw => by
  obtain ⟨ev, a, b, d⟩ := h hw.1 P hw.2
  exact ⟨ev, a, b, fun Q q => ⟨hw.1, d Q q⟩⟩
theorem det_if {c : Prop} {w1 w2 : ρ → Prop} (h1 : c → Det E w1) (h2 : ¬ c → Det E w2) : Det E (fun P => (c → w1 P) ∧ (¬ c → w2 P)) := fun P hw => by
  by_cases hc : c
  · obtain ⟨ev, a, b, d⟩ := h1 hc P (hw.1 hc)
    exact ⟨ev, a, b, fun Q q => ⟨fun _ => d Q q, fun n => absurd hc n⟩⟩
  · obtain ⟨ev, a, b, d⟩ := h2 hc P (hw.2 hc)
    exact ⟨ev, a, b, fun Q q => ⟨fun n => absurd n hc, fun _ => d Q q⟩⟩
theorem det_if' {c : Prop} {w1 w2 : ρ → Prop} (h1 : ¬ c → Det E w1) (h2 : c → Det E w2) : Det E (fun P => (¬ c → w1 P) ∧ (c → w2 P)) := fun P hw => by
  by_cases hc : c
  · obtain ⟨ev, a, b, d⟩ := h2 hc P (hw.2 hc)
    exact ⟨ev, a, b, fun Q q => ⟨fun n => absurd hc n, fun _ => d Q q⟩⟩
  · obtain ⟨ev, a, b, d⟩ := h1 hc P (hw.1 hc)
    exact ⟨ev, a, b, fun Q q => ⟨fun _ => d Q q, fun n => absurd n hc⟩⟩
theorem det_let {α : Type} {x : α} {w : α → ρ → Prop} (h : Det E (w x)) : Det E (fun P => ∀ y : α, y = x → w y P) := fun P hw => by
  obtain ⟨ev, a, b, d⟩ := h P (hw x rfl)
  exact ⟨ev, a, b, fun Q q y hy => by rw [hy]; exact d Q q⟩
theorem det_ex {α : Type} {w : α → ρ → Prop} (h : ∀ n : α, Det E (w n)) : Det E (fun P => ∃ n : α, w n P) := fun P hw => by
  obtain ⟨n, hn⟩ := hw
  obtain ⟨ev, a, b, d⟩ := h n P hn
  exact ⟨ev, a, b, fun Q q => ⟨n, d Q q⟩⟩
theorem det_false : Det E (fun _ : ρ => False) := fun _ h => h.elim
theorem det_call {ρ' : Type} {E' : (ρ' → Prop) → Prop} {w' : ρ' → Prop} (h' : Det E' w') {K : ρ → ρ'} (h : ∀ ev' : ρ' → Prop, E' ev' → Det E (fun P => ev' (K P))) : Det E (fun P => w' (K P)) := fun P hw => by
  obtain ⟨ev', e1, e2, e3⟩ := h' (K P) hw
  obtain ⟨ev, a, b, d⟩ := h ev' e1 P e2
  exact ⟨ev, a, b, fun Q q => e3 (K Q) (d Q q)⟩
/-- one arm of a switch: the rest holds for nothing where it is taken -/
theorem det_sw {c : Prop} {w1 w2 : ρ → Prop} (h1 : c → Det E w1) (hr : c → ∀ P : ρ, w2 P) (h2 : ¬ c → Det E w2) : Det E (fun P => (c → w1 P) ∧ w2 P) := fun P hw => by
  by_cases hc : c
  · obtain ⟨ev, a, b, d⟩ := h1 hc P (hw.1 hc)
    exact ⟨ev, a, b, fun Q q => ⟨fun _ => d Q q, hr hc Q⟩⟩
  · obtain ⟨ev, a, b, d⟩ := h2 hc P hw.2
    exact ⟨ev, a, b, fun Q q => ⟨fun n => absurd n hc, d Q q⟩⟩
theorem det_last {c : Prop} {w : ρ → Prop} (hc : c) (h : Det E w) : Det E (fun P => c → w P) := fun P hw => by
  obtain ⟨ev, a, b, d⟩ := h P (hw hc)
  exact ⟨ev, a, b, fun Q q _ => d Q q⟩
end DET
/-- a state, and a state and a number, behind a method of the class -/
def Ev1 {α : Type} (ev : (α → Prop) → Prop) : Prop := ∃ a : α, ev = fun P => P a
def Ev2 {α β : Type} (ev : (α → β → Prop) → Prop) : Prop := ∃ (a : α) (b : β), ev = fun P => P a b
theorem det_use1 {α : Type} {w : (α → Prop) → Prop} (hd : Det Ev1 w) {P : α → Prop} (h : w P) : ∃ a : α, P a ∧ w (fun a' => a' = a) := by
  obtain ⟨ev, ⟨a, rfl⟩, h1, h2⟩ := hd P h
  exact ⟨a, h1, h2 _ rfl⟩
theorem det_use2 {α β : Type} {w : (α → β → Prop) → Prop} (hd : Det Ev2 w) {P : α → β → Prop} (h : w P) : ∃ (a : α) (b : β), P a b ∧ w (fun a' b' => a' = a ∧ b' = b) := by
  obtain ⟨ev, ⟨a, b, rfl⟩, h1, h2⟩ := hd P h
  exact ⟨a, b, h1, h2 _ ⟨rfl, rfl⟩⟩
