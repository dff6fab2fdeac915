/-! class and reference as they begin -/
theorem RS_start {g g' : Nat → Int32} (hg : zM4 g) (hg' : zM4 g') : FR1 (cS0 g) (mS0 g') := by
  refine ⟨⟨⟨fun y hy => absurd hy (Nat.not_lt_zero _), rfl⟩, fun y hy => absurd hy (Nat.not_lt_zero _), fun y hy => absurd hy (Nat.not_lt_zero _), fun y hy => absurd hy (Nat.not_lt_zero _), fun y _ _ => ⟨rfl, rfl, rfl, fun _ _ => rfl⟩⟩, ⟨fun f _ => rfl, fun r hr => ⟨(hg r hr).trans (hg' r hr).symm, fun n i hn hn2 hi => ?_⟩⟩, rfl, ⟨0, Nat.zero_le _, rfl⟩, rfl, rfl, rfl, rfl, fun t _ => rfl⟩
  have hn' : g' r = nI n := hn
  exact absurd (hn'.symm.trans (hg' r hr)) (nI_neg1 (by omega))
