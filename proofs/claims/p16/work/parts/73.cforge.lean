/-! plain PARTS, and a CODE -/
theorem Ex.v {L : List Nat} {S S' : CST} (e : Ex L S S') {k : Nat} (hk : L.contains k = false) : cv S' k = cv S k := e.2 k hk
theorem Wid.ex {L : List Nat} {S S' : CST} (h : Wid S) (e : Ex L S S') (hL : (L.all fun k => !relv k) = true) : Wid S' := by
  have f : ∀ k : Nat, relv k = true → cv S' k = cv S k := fun k hk => e.2 k (by
    cases hc : L.contains k with
    | false => rfl
    | true =>
      have := List.all_eq_true.mp hL k (by simpa using hc)
      rw [hk] at this
      cases this)
  have p1 : cnP S' = cnP S := congrArg Prod.fst e.1
  have p2 : cnC S' = cnC S := congrArg Prod.snd e.1
  unfold Wid
  rw [p1, p2, f 20 rfl, f 220 rfl, f 221 rfl, f 249 rfl, f 281 rfl]
  exact h
/-- a code was made, and nothing else changed but what J does not speak of -/
def MkJ (A : Nat → Prop) (S S' : CST) (C : Nat) (making : Int32) : Prop := S'.2 = (cnP S, cnC S + 1) ∧ C = cnC S ∧ (∀ k c : Nat, relv k = true → ¬ (c = cnC S ∧ 320 ≤ k) → cv S' k c = cv S k c) ∧ CodO S' C ∧ cv S' 320 C 0 = making ∧ ∀ t : Nat, t < 11 → GdC S' C t → A t
theorem MkJ.of {A : Nat → Prop} {L : List Nat} {S0 S S' : CST} {C : Nat} {making : Int32} (e : Ex L S0 S) (hL : (L.all fun k => !relv k) = true) (h : MkO A S S' C making) : MkJ A S0 S' C making := by
  have p1 : cnP S = cnP S0 := congrArg Prod.fst e.1
  have p2 : cnC S = cnC S0 := congrArg Prod.snd e.1
  obtain ⟨h1, h2, h3, h4⟩ := h
  refine ⟨by rw [h1, p1, p2], by rw [h2, p2], fun k c hk hn => ?_, h4⟩
  rw [h3 k c (by rw [p2]; exact hn)]
  have := e.2 k (by
    cases hc : L.contains k with
    | false => rfl
    | true =>
      have := List.all_eq_true.mp hL k (by simpa using hc)
      rw [hk] at this
      cases this)
  rw [this]
theorem sp_X6_plainCode {S : CST} {i1 : Nat} {T : Nat × Nat} {Post : CST → Nat → Prop} (hT : S.2 = T) (hi : i1 < T.1) (hw : Wid S) (hl : ∃ n : Nat, cv S 247 i1 0 = nI n ∧ n ≤ 60) (hc : cnC S < 104) (h : ∀ (S' : CST) (r : Nat), MkJ (fun _ => False) S S' r 0 → Post S' r) : wp_X6_plainCode S i1 Post := by
  obtain ⟨n, hn, hn2⟩ := hl
  unfold wp_X6_plainCode
  refine sp_X3_clear (A := fun _ => False) hT (fun S3 hT3 e3 hd3 => ⟨2147483647 + 1, lp_X6_plainCode_9 (A := fun _ => False) hi (fun S9 hT9 e9 hd9 => ?_) 2147483647 0 S3 rfl hT3 Ex.rf hd3⟩)
  have e : Ex [72, 80, 90] S S9 := Ex.step e9 (by decide) (Ex.step e3 (by decide) Ex.rf)
  refine ⟨cin_24 hT9 hi, cin_24 hT9 hi, sp_X3_finish (n3 := n) (hw.ex e (by decide)) ?_ hd9 ?_ hn2 (fun S' r hm => h S' r (MkJ.of e (by decide) hm))⟩
  · rw [show cnC S9 = cnC S from congrArg Prod.snd e.1]; exact hc
  · rw [e.2 247 rfl]; exact hn
theorem sp_X9_forge {S : CST} {i1 : Nat} {T : Nat × Nat} {Post : CST → Nat → Prop} (hT : S.2 = T) (hi : i1 < T.1) (hw : Wid S) (hl : ∃ n : Nat, cv S 247 i1 0 = nI n ∧ n ≤ 60) (hc : cnC S < 104) (h : ∀ (S' : CST) (r : Nat), MkJ (fun t => cv S 310 i1 t = 0) S S' r (cv S 283 i1 0 + 1) → Post S' r) : wp_X9_forge S i1 Post := by
  obtain ⟨n, hn, hn2⟩ := hl
  unfold wp_X9_forge
  refine sp_X3_clear (A := fun t => cv S 310 i1 t = 0) hT (fun S3 hT3 e3 hd3 => sp_X9_findTargets hT3 hi (fun S5 hT5 e5 => sp_X9_assume hT5 hi (fun S7 hT7 e7 ha7 => ⟨cin_24 hT7 hi, ?_⟩)))
  have hA7 : ∀ k : Nat, k < 11 → ¬ cv S7 190 0 k = 0 → cv S 310 i1 k = 0 := fun k hk hc' => by
    have := ha7 k hk hc'
    rw [e7.2 310 rfl, e5.2 310 rfl, e3.2 310 rfl] at this
    exact this
  have hd7 : DrO (fun t => cv S 310 i1 t = 0) S7 := (hd3.ex e5 rfl).ex e7 rfl
  refine sp_X9_addGuards hT7 hi hA7 hd7 (fun S10 hT10 e10 hd10 => sp_X3_parts ⟨2147483647 + 1, lp_X9_forge_37 (A := fun t => cv S 310 i1 t = 0) hi (hA_ex hA7 e10 rfl) (fun S15 hT15 e15 hd15 => ?_) 2147483647 0 S10 rfl hT10 Ex.rf hd10⟩)
  have e : Ex [72, 80, 90, 160, 170, 180, 190] S S15 := Ex.step e15 (by decide) (Ex.step e10 (by decide) (Ex.step e7 (by decide) (Ex.step e5 (by decide) (Ex.step e3 (by decide) Ex.rf))))
  refine ⟨cin_24 hT15 hi, cin_28 hT15 hi, cin_24 hT15 hi, cin_24 hT15 hi, sp_X3_finish (n3 := n) (hw.ex e (by decide)) ?_ hd15 ?_ hn2 (fun S' r hm => ?_)⟩
  · rw [show cnC S15 = cnC S from congrArg Prod.snd e.1]; exact hc
  · rw [e.2 247 rfl]; exact hn
  · have hm2 := MkJ.of e (by decide) hm
    rw [e.2 283 rfl] at hm2
    exact h S' r hm2
