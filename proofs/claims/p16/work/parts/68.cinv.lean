/-! THE CLASS's invariant -/
/-- the things of a METHOD that vary -/
def vC (S : CST) (i : Nat) : Nat := sN (fun t => if cv S 310 i t = 0 then 0 else 1) 11
theorem vC_le (S : CST) (i : Nat) : vC S i ≤ 11 := Nat.le_trans (sN_const (c := 1) 11 (fun t _ => by
  show (if cv S 310 i t = 0 then 0 else 1) ≤ 1
  split <;> omega)) (by omega)
/-- a code has a GUARD on a thing -/
def GdC (S : CST) (c t : Nat) : Prop := ∃ p m : Nat, cv S 339 c 0 = nI m ∧ m ≤ 7555 ∧ 5 * p + 4 < m ∧ ((cv S 330 c (5 * p) = 17 ∧ cv S 330 c (5 * p + 1) = nI t) ∨ (cv S 330 c (5 * p) = 18 ∧ 3 + cv S 330 c (5 * p + 1) = nI t))
def CodO (S : CST) (c : Nat) : Prop := CodeL S c ∧ ∀ p m : Nat, cv S 339 c 0 = nI m → m ≤ 7555 → 5 * p + 4 < m → TH (cv S 330 c (5 * p)) (cv S 330 c (5 * p + 1)) (fun _ => True)
def HeO (S : CST) (i : Nat) : Prop := ∃ M : Nat, cv S 283 i 0 = nI M ∧ M ≤ 12 ∧ (cv S 280 i 0 = 0 → M ≤ vC S i) ∧
  (¬ cv S 280 i 0 = 0 → 1 ≤ M ∧ ¬ cv S 281 i 0 < 0 ∧ ∃ g : Nat → Bool, (∀ t : Nat, t < 11 → g t = true → ¬ cv S 310 i t = 0 ∧ ¬ GdC S (cv S 281 i 0).toNatClampNeg t) ∧ M ≤ 1 + sN (fun t => if g t = true then 1 else 0) 11) ∧
  (¬ cv S 281 i 0 < 0 → cv S 320 (cv S 281 i 0).toNatClampNeg 0 = nI M) ∧ (¬ cv S 249 i 0 < 0 → cv S 320 (cv S 249 i 0).toNatClampNeg 0 = 0)
def FrO (S : CST) (f : Nat) : Prop := ¬ cv S 220 f 0 < 0 → ¬ cv S 221 f 0 < 0 → cv S 320 (cv S 221 f 0).toNatClampNeg 0 = 0 ∨ (cv S 320 (cv S 221 f 0).toNatClampNeg 0).toInt < (cv S 283 (cv S 220 f 0).toNatClampNeg 0).toInt ∨ cv S 281 (cv S 220 f 0).toNatClampNeg 0 = cv S 221 f 0
def Rt (S : CST) (i : Nat) : Nat := if cv S 248 i 0 = -1 then 0 else 1
def tot (S : CST) : Nat := sN (fun i => Rt S i + (cv S 283 i 0).toNatClampNeg) (cnP S)
def J (S : CST) : Prop := cnP S ≤ 8 ∧ cv S 11 0 0 = nI (cnP S) ∧ Wid S ∧ (∀ i : Nat, i < cnP S → ∃ n : Nat, cv S 247 i 0 = nI n ∧ n ≤ 60) ∧ (∀ c : Nat, c < cnC S → CodO S c) ∧ (∀ i : Nat, i < cnP S → HeO S i) ∧ (∀ f : Nat, f < 16 → FrO S f) ∧ cnC S ≤ tot S
/-- the slots that it speaks of -/
def relv (k : Nat) : Bool := [11, 20, 220, 221, 247, 248, 249, 280, 281, 283, 310].contains k || Nat.ble 320 k
theorem J.same {S S' : CST} (h : J S) (e1 : S'.2 = S.2) (e : ∀ k : Nat, relv k = true → cv S' k = cv S k) : J S' := by
  have p1 : cnP S' = cnP S := congrArg Prod.fst e1
  have p2 : cnC S' = cnC S := congrArg Prod.snd e1
  unfold J Wid CodO CodeL HeO FrO GdC vC tot Rt at h ⊢
  simp only [p1, p2, e 11 rfl, e 20 rfl, e 220 rfl, e 221 rfl, e 247 rfl, e 248 rfl, e 249 rfl, e 280 rfl, e 281 rfl, e 283 rfl, e 310 rfl, e 320 rfl, e 330 rfl, e 339 rfl, e 349 rfl]
  exact h
theorem J.ex {L : List Nat} {S S' : CST} (h : J S) (e : Ex L S S') (hL : (L.all fun k => !relv k) = true) : J S' := h.same e.1 (fun k hk => e.2 k (by
  cases hc : L.contains k with
  | false => rfl
  | true =>
    have := List.all_eq_true.mp hL k (by simpa using hc)
    rw [hk] at this
    cases this))
theorem J_cs {S : CST} {k i : Nat} {g : Nat → Int32} (h : J S) (hk : (!relv k) = true) : J (cs S k i g) := J.ex (L := [k]) h (Ex.cs (by simp) Ex.rf) (by simpa using hk)
theorem J.v20 {S : CST} (h : J S) : ∀ j : Nat, vid (cv S 20 0 j) S.2.1 := h.2.2.1.1
theorem J.fr {S : CST} (h : J S) {i : Nat} (hi : i < 16) : vid (cv S 220 i 0) S.2.1 ∧ vid (cv S 221 i 0) S.2.2 := h.2.2.1.2.1 i hi
theorem J.pr {S : CST} (h : J S) {i : Nat} (hi : i < S.2.1) : vid (cv S 249 i 0) S.2.2 ∧ vid (cv S 281 i 0) S.2.2 := h.2.2.1.2.2 i hi
/-- one slot of one object changes -/
theorem cs_i {S : CST} {k i i' : Nat} {g : Nat → Int32} (h : i' ≠ i) : cv (cs S k i g) k i' = cv S k i' := if_neg (fun w => h w.2)
/-! a thing varies from now on -/
theorem J.mark {S S' : CST} (h : J S) (e : Ex [310] S S') (hm : ∀ i t : Nat, ¬ cv S 310 i t = 0 → ¬ cv S' 310 i t = 0) : J S' := by
  obtain ⟨h1, h2, h3, h4, h5, h6, h7, h8⟩ := h
  have p1 : cnP S' = cnP S := congrArg Prod.fst e.1
  have p2 : cnC S' = cnC S := congrArg Prod.snd e.1
  refine ⟨by rw [p1]; exact h1, ?_, ?_, ?_, ?_, ?_, ?_, ?_⟩
  · rw [p1, e.2 11 rfl]; exact h2
  · unfold Wid; simp only [p1, p2, e.2 20 rfl, e.2 220 rfl, e.2 221 rfl, e.2 249 rfl, e.2 281 rfl]; exact h3
  · simp only [p1, e.2 247 rfl]; exact h4
  · unfold CodO CodeL; simp only [p2, e.2 339 rfl, e.2 349 rfl, e.2 330 rfl]; exact h5
  · intro i hi
    rw [p1] at hi
    obtain ⟨M, m1, m2, m3, m4, m5, m6⟩ := h6 i hi
    unfold HeO GdC
    simp only [e.2 283 rfl, e.2 280 rfl, e.2 281 rfl, e.2 249 rfl, e.2 320 rfl, e.2 339 rfl, e.2 330 rfl]
    refine ⟨M, m1, m2, fun q => Nat.le_trans (m3 q) (sN_le 11 (fun t _ => ?_)), fun q => ?_, m5, m6⟩
    · show (if cv S 310 i t = 0 then 0 else 1) ≤ (if cv S' 310 i t = 0 then 0 else 1)
      by_cases c : cv S 310 i t = 0
      · rw [if_pos c]; exact Nat.zero_le _
      · rw [if_neg c, if_neg (hm i t c)]; exact Nat.le_refl _
    · obtain ⟨a, b, g, hg, hs⟩ := m4 q
      exact ⟨a, b, g, fun t ht hgt => ⟨hm i t (hg t ht hgt).1, (hg t ht hgt).2⟩, hs⟩
  · unfold FrO; simp only [e.2 220 rfl, e.2 221 rfl, e.2 320 rfl, e.2 283 rfl, e.2 281 rfl]; exact h7
  · unfold tot Rt; simp only [p1, p2, e.2 248 rfl, e.2 283 rfl]; exact h8
/-! a code is thrown away -/
theorem J.throw {S S' : CST} {y : Nat} (h : J S) (e : Ex [280, 282] S S') (ho : ∀ i : Nat, i ≠ y → cv S' 280 i = cv S 280 i) (hM : ∀ M : Nat, cv S 283 y 0 = nI M → M ≤ 12 → M ≤ vC S y) (hz : cv S' 280 y 0 = 0) : J S' := by
  obtain ⟨h1, h2, h3, h4, h5, h6, h7, h8⟩ := h
  have p1 : cnP S' = cnP S := congrArg Prod.fst e.1
  have p2 : cnC S' = cnC S := congrArg Prod.snd e.1
  refine ⟨by rw [p1]; exact h1, ?_, ?_, ?_, ?_, ?_, ?_, ?_⟩
  · rw [p1, e.2 11 rfl]; exact h2
  · unfold Wid; simp only [p1, p2, e.2 20 rfl, e.2 220 rfl, e.2 221 rfl, e.2 249 rfl, e.2 281 rfl]; exact h3
  · simp only [p1, e.2 247 rfl]; exact h4
  · unfold CodO CodeL; simp only [p2, e.2 339 rfl, e.2 349 rfl, e.2 330 rfl]; exact h5
  · intro i hi
    rw [p1] at hi
    obtain ⟨M, m1, m2, m3, m4, m5, m6⟩ := h6 i hi
    unfold HeO GdC vC
    simp only [e.2 283 rfl, e.2 281 rfl, e.2 249 rfl, e.2 320 rfl, e.2 339 rfl, e.2 330 rfl, e.2 310 rfl]
    by_cases hy : i = y
    · subst hy
      exact ⟨M, m1, m2, fun _ => hM M m1 m2, fun q => absurd hz q, m5, m6⟩
    · rw [ho i hy]
      exact ⟨M, m1, m2, m3, m4, m5, m6⟩
  · unfold FrO; simp only [e.2 220 rfl, e.2 221 rfl, e.2 320 rfl, e.2 283 rfl, e.2 281 rfl]; exact h7
  · unfold tot Rt; simp only [p1, p2, e.2 248 rfl, e.2 283 rfl]; exact h8
/-! a frame gets a code -/
theorem J.code {S : CST} {f : Nat} {x : Int32} (h : J S) (hf : f < 16) (hx : vid x S.2.2) (hm : ¬ x < 0 → ¬ cv S 220 f 0 < 0 → cv S 320 x.toNatClampNeg 0 = 0 ∨ cv S 281 (cv S 220 f 0).toNatClampNeg 0 = x) : J (cs S 221 f (fun _ => x)) := by
  obtain ⟨h1, h2, h3, h4, h5, h6, h7, h8⟩ := h
  have e : ∀ k : Nat, k ≠ 221 → cv (cs S 221 f (fun _ => x)) k = cv S k := fun k hk => by
    funext i'
    exact cs_n S _ (fun w => hk w.1)
  refine ⟨h1, ?_, ?_, ?_, ?_, ?_, ?_, ?_⟩
  · rw [e 11 (by decide)]; exact h2
  · refine ⟨?_, fun i hi => ⟨?_, ?_⟩, ?_⟩
    · simp only [e 20 (by decide)]; exact h3.1
    · rw [e 220 (by decide)]; exact (h3.2.1 i hi).1
    · by_cases hif : i = f
      · rw [hif, cs_s]; exact hx
      · rw [cs_i hif]; exact (h3.2.1 i hi).2
    · simp only [e 249 (by decide), e 281 (by decide)]; exact h3.2.2
  · simp only [e 247 (by decide)]; exact h4
  · unfold CodO CodeL; simp only [e 339 (by decide), e 349 (by decide), e 330 (by decide)]; exact h5
  · unfold HeO GdC vC; simp only [e 283 (by decide), e 280 (by decide), e 281 (by decide), e 249 (by decide), e 320 (by decide), e 339 (by decide), e 330 (by decide), e 310 (by decide)]; exact h6
  · intro i hi
    unfold FrO
    rw [e 220 (by decide), e 320 (by decide), e 283 (by decide), e 281 (by decide)]
    by_cases hif : i = f
    · rw [hif, cs_s]
      intro a b
      exact (hm b a).elim Or.inl (fun q => Or.inr (Or.inr q))
    · rw [cs_i hif]; exact h7 i hi
  · unfold tot Rt; simp only [e 248 (by decide), e 283 (by decide)]; exact h8
/-! a frame gets a METHOD and, at once, its plain PARTS -/
theorem J.open_ {S : CST} {f : Nat} {r x : Int32} (h : J S) (hf : f < 16) (hr : ¬ r < 0) (hr2 : r.toNatClampNeg < S.2.1) (hx : vid x S.2.2) (hm : ¬ x < 0 → cv S 320 x.toNatClampNeg 0 = 0) : J (cs (cs S 220 f (fun _ => r)) 221 f (fun _ => x)) := by
  obtain ⟨h1, h2, h3, h4, h5, h6, h7, h8⟩ := h
  obtain ⟨S', hS'⟩ : ∃ z, z = cs (cs S 220 f (fun _ => r)) 221 f (fun _ => x) := ⟨_, rfl⟩
  have e : ∀ k : Nat, k ≠ 221 → k ≠ 220 → cv S' k = cv S k := fun k hk hk2 => by
    rw [hS']
    funext i'
    rw [cs_n _ _ (fun w => hk w.1), cs_n _ _ (fun w => hk2 w.1)]
  have e2 : S'.2 = S.2 := by rw [hS']; rfl
  have a1 : cv S' 221 f = fun _ => x := by rw [hS', cs_s]
  have a2 : cv S' 220 f = fun _ => r := by rw [hS', cs_n _ _ (fun w => absurd w.1 (by decide)), cs_s]
  have b1 : ∀ i : Nat, i ≠ f → cv S' 221 i = cv S 221 i := fun i hi => by rw [hS', cs_i hi, cs_n _ _ (fun w => absurd w.1 (by decide))]
  have b2 : ∀ i : Nat, i ≠ f → cv S' 220 i = cv S 220 i := fun i hi => by rw [hS', cs_n _ _ (fun w => absurd w.1 (by decide)), cs_i hi]
  rw [← hS']
  have p1 : cnP S' = cnP S := congrArg Prod.fst e2
  have p2 : cnC S' = cnC S := congrArg Prod.snd e2
  refine ⟨by rw [p1]; exact h1, ?_, ?_, ?_, ?_, ?_, ?_, ?_⟩
  · rw [p1, e 11 (by decide) (by decide)]; exact h2
  · refine ⟨?_, fun i hi => ⟨?_, ?_⟩, ?_⟩
    · rw [p1, e 20 (by decide) (by decide)]; exact h3.1
    · rw [p1]
      by_cases hif : i = f
      · rw [hif, a2]; exact Or.inr hr2
      · rw [b2 i hif]; exact (h3.2.1 i hi).1
    · rw [p2]
      by_cases hif : i = f
      · rw [hif, a1]; exact hx
      · rw [b1 i hif]; exact (h3.2.1 i hi).2
    · rw [p1, p2, e 249 (by decide) (by decide), e 281 (by decide) (by decide)]; exact h3.2.2
  · rw [p1, e 247 (by decide) (by decide)]; exact h4
  · unfold CodO CodeL; rw [p2, e 339 (by decide) (by decide), e 349 (by decide) (by decide), e 330 (by decide) (by decide)]; exact h5
  · unfold HeO GdC vC; simp only [p1, e 283 (by decide) (by decide), e 280 (by decide) (by decide), e 281 (by decide) (by decide), e 249 (by decide) (by decide), e 320 (by decide) (by decide), e 339 (by decide) (by decide), e 330 (by decide) (by decide), e 310 (by decide) (by decide)]; exact h6
  · intro i hi
    unfold FrO
    rw [e 320 (by decide) (by decide), e 283 (by decide) (by decide), e 281 (by decide) (by decide)]
    by_cases hif : i = f
    · rw [hif, a1, a2]
      intro a b
      exact Or.inl (hm b)
    · rw [b1 i hif, b2 i hif]; exact h7 i hi
  · unfold tot Rt; simp only [p1, p2, e 248 (by decide) (by decide), e 283 (by decide) (by decide)]; exact h8
/-! a METHOD grows by an INSTRUCTION -/
theorem J.len {S S' : CST} {y : Nat} (h : J S) (e : Ex [247, 250, 260] S S') (ho : ∀ i : Nat, i ≠ y → cv S' 247 i = cv S 247 i) (hy : ∃ n : Nat, cv S' 247 y 0 = nI n ∧ n ≤ 60) : J S' := by
  obtain ⟨h1, h2, h3, h4, h5, h6, h7, h8⟩ := h
  have p1 : cnP S' = cnP S := congrArg Prod.fst e.1
  have p2 : cnC S' = cnC S := congrArg Prod.snd e.1
  refine ⟨by rw [p1]; exact h1, ?_, ?_, ?_, ?_, ?_, ?_, ?_⟩
  · rw [p1, e.2 11 rfl]; exact h2
  · unfold Wid; simp only [p1, p2, e.2 20 rfl, e.2 220 rfl, e.2 221 rfl, e.2 249 rfl, e.2 281 rfl]; exact h3
  · intro i hi
    by_cases hiy : i = y
    · rw [hiy]; exact hy
    · rw [ho i hiy]; exact h4 i (by rw [← p1]; exact hi)
  · unfold CodO CodeL; simp only [p2, e.2 339 rfl, e.2 349 rfl, e.2 330 rfl]; exact h5
  · unfold HeO GdC vC; simp only [p1, e.2 283 rfl, e.2 280 rfl, e.2 281 rfl, e.2 249 rfl, e.2 320 rfl, e.2 339 rfl, e.2 330 rfl, e.2 310 rfl]; exact h6
  · unfold FrO; simp only [e.2 220 rfl, e.2 221 rfl, e.2 320 rfl, e.2 283 rfl, e.2 281 rfl]; exact h7
  · unfold tot Rt; simp only [p1, p2, e.2 248 rfl, e.2 283 rfl]; exact h8
