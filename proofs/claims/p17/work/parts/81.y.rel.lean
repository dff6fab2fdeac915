/-! class and reference as they begin -/
theorem RS_start {g g' : Nat → Int32} (_ : zM4 g) (_ : zM4 g') : PR (cS0 g) (mS0 g') := ⟨fun y hy => absurd hy (Nat.not_lt_zero _), rfl⟩
