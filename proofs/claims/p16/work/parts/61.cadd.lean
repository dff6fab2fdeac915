/-! NEW OBJECTS join the class's world -/
theorem flat_at {α : Type} {c : Nat} (hc : 0 < c) (f : Nat → Nat → α) : ∀ (P t : Nat) (b : α), ((List.range P).flatMap (fun i => (List.range c).map (f i)))[t]? = some b → t < c * P ∧ b = f (t / c) (t % c) := by
  intro P
  induction P with
  | zero => intro t b h; simp at h
  | succ P ih =>
    intro t b h
    have hlen : ((List.range P).flatMap (fun i => (List.range c).map (f i))).length = c * P := by
      clear ih h
      induction P with
      | zero => rfl
      | succ P ih => rw [List.range_succ, List.flatMap_append, List.length_append, ih]; simp [Nat.mul_add]
    rw [List.range_succ, List.flatMap_append] at h
    by_cases ht : t < c * P
    · rw [List.getElem?_append_left (by rw [hlen]; exact ht)] at h
      obtain ⟨h1, h2⟩ := ih t b h
      exact ⟨Nat.lt_of_lt_of_le h1 (Nat.mul_le_mul_left c (Nat.le_succ P)), h2⟩
    · rw [List.getElem?_append_right (by rw [hlen]; omega), hlen] at h
      simp only [List.flatMap_cons, List.flatMap_nil, List.append_nil, List.getElem?_map] at h
      by_cases h2 : t - c * P < c
      · rw [List.getElem?_range h2] at h
        have hb : b = f P (t - c * P) := (Option.some.inj h).symm
        have hm : t = (t - c * P) + c * P := by omega
        have hd : t / c = P := by rw [hm, Nat.add_mul_div_left _ _ hc, Nat.div_eq_of_lt h2, Nat.zero_add]
        have hr : t % c = t - c * P := by
          have := Nat.mod_add_div t c
          rw [hd] at this
          omega
        exact ⟨by rw [Nat.mul_succ]; omega, by rw [hd, hr]; exact hb⟩
      · rw [List.getElem?_eq_none (by simp; omega)] at h
        cases h
def cPos (P : Nat) (b : Nat × Nat) : Nat := if b.1 < 22 then b.1 else if b.1 < 24 then 22 + 2 * b.2 + (b.1 - 22) else if b.1 < 32 then 54 + 8 * b.2 + (b.1 - 24) else 54 + 8 * P + 3 * b.2 + (b.1 - 32)
theorem flat_len {α : Type} (c : Nat) (f : Nat → Nat → α) (P : Nat) : ((List.range P).flatMap (fun i => (List.range c).map (f i))).length = c * P := by
  induction P with
  | zero => rfl
  | succ P ih => rw [List.range_succ, List.flatMap_append, List.length_append, ih]; simp [Nat.mul_add]
theorem cNames_pos {P C t : Nat} {b : Nat × Nat} (h : (cNames P C)[t]? = some b) : t = cPos P b := by
  have e2 : (List.range 16).flatMap (fun i => [(22, i), (23, i)]) = (List.range 16).flatMap (fun i => (List.range 2).map (fun k => (22 + k, i))) := rfl
  unfold cNames at h
  rw [e2] at h
  have l0 : ((List.range 22).map (fun k => (k, 0))).length = 22 := rfl
  have l2 := flat_len 2 (fun i k => (22 + k, i)) 16
  have l8 := flat_len 8 (fun i k => (24 + k, i)) P
  unfold cPos
  by_cases h1 : t < 22
  · rw [List.getElem?_append_left (by rw [l0]; exact h1), List.getElem?_map, List.getElem?_range h1] at h
    obtain rfl := Option.some.inj h
    rw [if_pos h1]
  · rw [List.getElem?_append_right (by rw [l0]; omega), l0] at h
    by_cases h2 : t - 22 < 32
    · rw [List.getElem?_append_left (by rw [l2]; omega)] at h
      obtain ⟨-, rfl⟩ := flat_at (by decide) (fun i k => (22 + k, i)) 16 _ b h
      have := Nat.mod_lt (t - 22) (show 0 < 2 by decide)
      have := Nat.div_add_mod (t - 22) 2
      rw [if_neg (by show ¬ 22 + _ < 22; omega), if_pos (by show 22 + _ < 24; omega)]
      show t = 22 + 2 * ((t - 22) / 2) + (22 + (t - 22) % 2 - 22)
      omega
    · rw [List.getElem?_append_right (by rw [l2]; omega), l2] at h
      by_cases h3 : t - 22 - 2 * 16 < 8 * P
      · rw [List.getElem?_append_left (by rw [l8]; omega)] at h
        obtain ⟨-, rfl⟩ := flat_at (by decide) (fun i k => (24 + k, i)) P _ b h
        have := Nat.mod_lt (t - 22 - 2 * 16) (show 0 < 8 by decide)
        have := Nat.div_add_mod (t - 22 - 2 * 16) 8
        rw [if_neg (by show ¬ 24 + _ < 22; omega), if_neg (by show ¬ 24 + _ < 24; omega), if_pos (by show 24 + _ < 32; omega)]
        show t = 54 + 8 * ((t - 22 - 2 * 16) / 8) + (24 + (t - 22 - 2 * 16) % 8 - 24)
        omega
      · rw [List.getElem?_append_right (by rw [l8]; omega), l8] at h
        obtain ⟨-, rfl⟩ := flat_at (by decide) (fun i k => (32 + k, i)) C _ b h
        have := Nat.mod_lt (t - 22 - 2 * 16 - 8 * P) (show 0 < 3 by decide)
        have := Nat.div_add_mod (t - 22 - 2 * 16 - 8 * P) 3
        rw [if_neg (by show ¬ 32 + _ < 22; omega), if_neg (by show ¬ 32 + _ < 24; omega), if_neg (by show ¬ 32 + _ < 32; omega)]
        show t = 54 + 8 * P + 3 * ((t - 22 - 2 * 16 - 8 * P) / 3) + (32 + (t - 22 - 2 * 16 - 8 * P) % 3 - 32)
        omega
theorem wN_of {ns : List (Nat × Nat)} {q : Nat → Nat → Nat} {F : Nat → Nat → va_E} {t : Nat} {e : Nat × va_E} (h : (wN ns q F)[t]? = some e) : ∃ b : Nat × Nat, ns[t]? = some b ∧ e = (q b.1 b.2, F b.2 b.1) := by
  unfold wN at h
  rw [List.getElem?_map] at h
  cases hb : ns[t]? with
  | none => rw [hb] at h; cases h
  | some b => rw [hb] at h; exact ⟨b, rfl, (Option.some.inj h).symm⟩
theorem cW_add {D : va_G} {cl : List vw_C} {A : Nat → Prop} {H : Heap} {cI cZ cP cF : Nat} {q q1 : Nat → Nat → Nat} {S S1 : CST} {L : va_W} (g : Nat → Nat → Nat) (hP : va_P D cl (cW cI cZ cP cF q S ++ L) H) (hD : va_D A (cW cI cZ cP cF q S ++ L))
    (hold : ∀ k i : Nat, cin S k i → q1 k i = q k i ∧ cCell cI cZ cP cF q1 S1 i k = cCell cI cZ cP cF q S i k)
    (hnew : ∀ k i : Nat, cin S1 k i → ¬ cin S k i → L[g k i]? = some (q1 k i, cCell cI cZ cP cF q1 S1 i k))
    (hinj : ∀ k i k' i' : Nat, cin S1 k i → ¬ cin S k i → cin S1 k' i' → ¬ cin S k' i' → g k i = g k' i' → k = k' ∧ i = i') : va_P D cl (cW cI cZ cP cF q1 S1) H ∧ va_D A (cW cI cZ cP cF q1 S1) := by
  have place : ∀ k i : Nat, cin S1 k i → ∃ p : Nat, (cW cI cZ cP cF q S ++ L)[p]? = some (q1 k i, cCell cI cZ cP cF q1 S1 i k) ∧ (cin S k i → (cNames (cnP S) (cnC S))[p]? = some (k, i)) ∧ (¬ cin S k i → p = (cW cI cZ cP cF q S).length + g k i) := by
    intro k i h
    by_cases hS : cin S k i
    · obtain ⟨p, hp⟩ := List.getElem?_of_mem (cNames_in hS)
      have hw : (cW cI cZ cP cF q S)[p]? = some (q k i, cCell cI cZ cP cF q S i k) := wN_at hp
      refine ⟨p, ?_, fun _ => hp, fun n => absurd hS n⟩
      rw [List.getElem?_append_left (List.getElem?_eq_some_iff.mp hw).1, hw, (hold k i hS).1, (hold k i hS).2]
    · refine ⟨_, ?_, fun n => absurd n hS, fun _ => rfl⟩
      rw [List.getElem?_append_right (Nat.le_add_right _ _), Nat.add_sub_cancel_left]
      exact hnew k i h hS
  have same : ∀ k i k' i' : Nat, cin S1 k i → cin S1 k' i' → q1 k i = q1 k' i' → (k, i) = (k', i') := by
    intro k i k' i' h h' e
    obtain ⟨p, a1, a2, a3⟩ := place k i h
    obtain ⟨p', b1, b2, b3⟩ := place k' i' h'
    have hp : p = p' := hD.1 p p' _ _ a1 b1 e
    by_cases hS : cin S k i
    · by_cases hS' : cin S k' i'
      · have := a2 hS
        rw [hp, b2 hS'] at this
        exact (Option.some.inj this).symm
      · have h1 := (List.getElem?_eq_some_iff.mp (wN_at (q := q) (F := cCell cI cZ cP cF q S) (a2 hS))).1
        have h2 := b3 hS'
        have h3 : p < (cW cI cZ cP cF q S).length := h1
        omega
    · by_cases hS' : cin S k' i'
      · have h1 := (List.getElem?_eq_some_iff.mp (wN_at (q := q) (F := cCell cI cZ cP cF q S) (b2 hS'))).1
        have h2 := a3 hS
        have h3 : p' < (cW cI cZ cP cF q S).length := h1
        omega
      · obtain ⟨rfl, rfl⟩ := hinj k i k' i' h hS h' hS' (by have := a3 hS; have := b3 hS'; omega)
        rfl
  refine ⟨?_, ?_, ?_⟩
  · intro t e he
    obtain ⟨b, hb, rfl⟩ := wN_of he
    obtain ⟨p, a1, -⟩ := place b.1 b.2 (cNames_of (List.mem_of_getElem? hb))
    exact hP p _ a1
  · intro t t' e e' he he' hee
    obtain ⟨b, hb, rfl⟩ := wN_of he
    obtain ⟨b', hb', rfl⟩ := wN_of he'
    have := same b.1 b.2 b'.1 b'.2 (cNames_of (List.mem_of_getElem? hb)) (cNames_of (List.mem_of_getElem? hb')) hee
    have hbb : b = b' := this
    rw [cNames_pos hb, cNames_pos hb', hbb]
  · intro t e he
    obtain ⟨b, hb, rfl⟩ := wN_of he
    obtain ⟨p, a1, -⟩ := place b.1 b.2 (cNames_of (List.mem_of_getElem? hb))
    exact hD.2 p _ a1
/-- an id is none, or one of n -/
def vid (x : Int32) (n : Nat) : Prop := x < 0 ∨ x.toNatClampNeg < n
/-- every id that an object holds is one that there is -/
def Wid (S : CST) : Prop := (∀ j : Nat, vid (cv S 20 0 j) (cnP S)) ∧ (∀ i : Nat, i < 16 → vid (cv S 220 i 0) (cnP S) ∧ vid (cv S 221 i 0) (cnC S)) ∧ (∀ i : Nat, i < cnP S → vid (cv S 249 i 0) (cnC S) ∧ vid (cv S 281 i 0) (cnC S))
theorem cno_ext {q q1 : Nat → Nat → Nat} {k n : Nat} {x : Int32} (h : vid x n) (hq : ∀ i : Nat, i < n → q1 k i = q k i) : cno q1 k x = cno q k x := by
  unfold cno
  by_cases hx : x < 0
  · rw [if_pos hx, if_pos hx]
  · rw [if_neg hx, if_neg hx, hq _ (h.resolve_left hx)]
section CEXT
variable {cI cZ cP cF : Nat} {q q1 : Nat → Nat → Nat} {S S1 : CST} {i : Nat}
theorem cExt_0 (hs : ∀ kd j : Nat, kd < 24 → q1 kd j = q kd j) (hp : ∀ kd j : Nat, 24 ≤ kd → kd < 32 → j < cnP S → q1 kd j = q kd j) (hc : ∀ kd j : Nat, 32 ≤ kd → j < cnC S → q1 kd j = q kd j) (hw : Wid S) (hi : i = 0) (hv : ∀ f : Nat, f < 10 → cv S1 (10 * 0 + f) i = cv S (10 * 0 + f) i) : cCell cI cZ cP cF q1 S1 i 0 = cCell cI cZ cP cF q S i 0 := by
  subst hi
  show cc0 cI cZ cP cF q1 S1 0 = cc0 cI cZ cP cF q S 0
  unfold cc0
  rw [hs 1 0 (by decide), hs 3 0 (by decide), hs 10 0 (by decide), hs 12 0 (by decide)]
theorem cExt_1 (hs : ∀ kd j : Nat, kd < 24 → q1 kd j = q kd j) (hp : ∀ kd j : Nat, 24 ≤ kd → kd < 32 → j < cnP S → q1 kd j = q kd j) (hc : ∀ kd j : Nat, 32 ≤ kd → j < cnC S → q1 kd j = q kd j) (hw : Wid S) (hi : i = 0) (hv : ∀ f : Nat, f < 10 → cv S1 (10 * 1 + f) i = cv S (10 * 1 + f) i) : cCell cI cZ cP cF q1 S1 i 1 = cCell cI cZ cP cF q S i 1 := by
  subst hi
  show cc1 cI cZ cP cF q1 S1 0 = cc1 cI cZ cP cF q S 0
  unfold cc1
  rw [show cv S1 11 0 = cv S 11 0 from hv 1 (by decide), hs 2 0 (by decide)]
theorem cExt_2 (hs : ∀ kd j : Nat, kd < 24 → q1 kd j = q kd j) (hp : ∀ kd j : Nat, 24 ≤ kd → kd < 32 → j < cnP S → q1 kd j = q kd j) (hc : ∀ kd j : Nat, 32 ≤ kd → j < cnC S → q1 kd j = q kd j) (hw : Wid S) (hi : i = 0) (hv : ∀ f : Nat, f < 10 → cv S1 (10 * 2 + f) i = cv S (10 * 2 + f) i) : cCell cI cZ cP cF q1 S1 i 2 = cCell cI cZ cP cF q S i 2 := by
  subst hi
  show cc2 cI cZ cP cF q1 S1 0 = cc2 cI cZ cP cF q S 0
  unfold cc2
  rw [show cv S1 20 0 = cv S 20 0 from hv 0 (by decide), show (fun j => cno q1 24 (cv S 20 0 j)) = (fun j => cno q 24 (cv S 20 0 j)) from funext (fun j => cno_ext (hw.1 j) (fun j hj => hp 24 j (by decide) (by decide) hj))]
theorem cExt_3 (hs : ∀ kd j : Nat, kd < 24 → q1 kd j = q kd j) (hp : ∀ kd j : Nat, 24 ≤ kd → kd < 32 → j < cnP S → q1 kd j = q kd j) (hc : ∀ kd j : Nat, 32 ≤ kd → j < cnC S → q1 kd j = q kd j) (hw : Wid S) (hi : i = 0) (hv : ∀ f : Nat, f < 10 → cv S1 (10 * 3 + f) i = cv S (10 * 3 + f) i) : cCell cI cZ cP cF q1 S1 i 3 = cCell cI cZ cP cF q S i 3 := by
  subst hi
  show cc3 cI cZ cP cF q1 S1 0 = cc3 cI cZ cP cF q S 0
  unfold cc3
  rw [hs 4 0 (by decide), hs 5 0 (by decide), hs 6 0 (by decide)]
theorem cExt_4 (hs : ∀ kd j : Nat, kd < 24 → q1 kd j = q kd j) (hp : ∀ kd j : Nat, 24 ≤ kd → kd < 32 → j < cnP S → q1 kd j = q kd j) (hc : ∀ kd j : Nat, 32 ≤ kd → j < cnC S → q1 kd j = q kd j) (hw : Wid S) (hi : i = 0) (hv : ∀ f : Nat, f < 10 → cv S1 (10 * 4 + f) i = cv S (10 * 4 + f) i) : cCell cI cZ cP cF q1 S1 i 4 = cCell cI cZ cP cF q S i 4 := by
  subst hi
  show cc4 cI cZ cP cF q1 S1 0 = cc4 cI cZ cP cF q S 0
  unfold cc4
  rw [show cv S1 40 0 = cv S 40 0 from hv 0 (by decide)]
theorem cExt_5 (hs : ∀ kd j : Nat, kd < 24 → q1 kd j = q kd j) (hp : ∀ kd j : Nat, 24 ≤ kd → kd < 32 → j < cnP S → q1 kd j = q kd j) (hc : ∀ kd j : Nat, 32 ≤ kd → j < cnC S → q1 kd j = q kd j) (hw : Wid S) (hi : i = 0) (hv : ∀ f : Nat, f < 10 → cv S1 (10 * 5 + f) i = cv S (10 * 5 + f) i) : cCell cI cZ cP cF q1 S1 i 5 = cCell cI cZ cP cF q S i 5 := by
  subst hi
  show cc5 cI cZ cP cF q1 S1 0 = cc5 cI cZ cP cF q S 0
  unfold cc5
  rw [show cv S1 50 0 = cv S 50 0 from hv 0 (by decide)]
theorem cExt_6 (hs : ∀ kd j : Nat, kd < 24 → q1 kd j = q kd j) (hp : ∀ kd j : Nat, 24 ≤ kd → kd < 32 → j < cnP S → q1 kd j = q kd j) (hc : ∀ kd j : Nat, 32 ≤ kd → j < cnC S → q1 kd j = q kd j) (hw : Wid S) (hi : i = 0) (hv : ∀ f : Nat, f < 10 → cv S1 (10 * 6 + f) i = cv S (10 * 6 + f) i) : cCell cI cZ cP cF q1 S1 i 6 = cCell cI cZ cP cF q S i 6 := by
  subst hi
  show cc6 cI cZ cP cF q1 S1 0 = cc6 cI cZ cP cF q S 0
  unfold cc6
  rw [show cv S1 60 0 = cv S 60 0 from hv 0 (by decide)]
theorem cExt_7 (hs : ∀ kd j : Nat, kd < 24 → q1 kd j = q kd j) (hp : ∀ kd j : Nat, 24 ≤ kd → kd < 32 → j < cnP S → q1 kd j = q kd j) (hc : ∀ kd j : Nat, 32 ≤ kd → j < cnC S → q1 kd j = q kd j) (hw : Wid S) (hi : i = 0) (hv : ∀ f : Nat, f < 10 → cv S1 (10 * 7 + f) i = cv S (10 * 7 + f) i) : cCell cI cZ cP cF q1 S1 i 7 = cCell cI cZ cP cF q S i 7 := by
  subst hi
  show cc7 cI cZ cP cF q1 S1 0 = cc7 cI cZ cP cF q S 0
  unfold cc7
  rw [show cv S1 72 0 = cv S 72 0 from hv 2 (by decide), hs 8 0 (by decide), hs 9 0 (by decide)]
theorem cExt_8 (hs : ∀ kd j : Nat, kd < 24 → q1 kd j = q kd j) (hp : ∀ kd j : Nat, 24 ≤ kd → kd < 32 → j < cnP S → q1 kd j = q kd j) (hc : ∀ kd j : Nat, 32 ≤ kd → j < cnC S → q1 kd j = q kd j) (hw : Wid S) (hi : i = 0) (hv : ∀ f : Nat, f < 10 → cv S1 (10 * 8 + f) i = cv S (10 * 8 + f) i) : cCell cI cZ cP cF q1 S1 i 8 = cCell cI cZ cP cF q S i 8 := by
  subst hi
  show cc8 cI cZ cP cF q1 S1 0 = cc8 cI cZ cP cF q S 0
  unfold cc8
  rw [show cv S1 80 0 = cv S 80 0 from hv 0 (by decide)]
theorem cExt_9 (hs : ∀ kd j : Nat, kd < 24 → q1 kd j = q kd j) (hp : ∀ kd j : Nat, 24 ≤ kd → kd < 32 → j < cnP S → q1 kd j = q kd j) (hc : ∀ kd j : Nat, 32 ≤ kd → j < cnC S → q1 kd j = q kd j) (hw : Wid S) (hi : i = 0) (hv : ∀ f : Nat, f < 10 → cv S1 (10 * 9 + f) i = cv S (10 * 9 + f) i) : cCell cI cZ cP cF q1 S1 i 9 = cCell cI cZ cP cF q S i 9 := by
  subst hi
  show cc9 cI cZ cP cF q1 S1 0 = cc9 cI cZ cP cF q S 0
  unfold cc9
  rw [show cv S1 90 0 = cv S 90 0 from hv 0 (by decide)]
theorem cExt_10 (hs : ∀ kd j : Nat, kd < 24 → q1 kd j = q kd j) (hp : ∀ kd j : Nat, 24 ≤ kd → kd < 32 → j < cnP S → q1 kd j = q kd j) (hc : ∀ kd j : Nat, 32 ≤ kd → j < cnC S → q1 kd j = q kd j) (hw : Wid S) (hi : i = 0) (hv : ∀ f : Nat, f < 10 → cv S1 (10 * 10 + f) i = cv S (10 * 10 + f) i) : cCell cI cZ cP cF q1 S1 i 10 = cCell cI cZ cP cF q S i 10 := by
  subst hi
  show cc10 cI cZ cP cF q1 S1 0 = cc10 cI cZ cP cF q S 0
  unfold cc10
  rw [show cv S1 103 0 = cv S 103 0 from hv 3 (by decide), hs 1 0 (by decide), hs 7 0 (by decide), hs 11 0 (by decide)]
theorem cExt_11 (hs : ∀ kd j : Nat, kd < 24 → q1 kd j = q kd j) (hp : ∀ kd j : Nat, 24 ≤ kd → kd < 32 → j < cnP S → q1 kd j = q kd j) (hc : ∀ kd j : Nat, 32 ≤ kd → j < cnC S → q1 kd j = q kd j) (hw : Wid S) (hi : i = 0) (hv : ∀ f : Nat, f < 10 → cv S1 (10 * 11 + f) i = cv S (10 * 11 + f) i) : cCell cI cZ cP cF q1 S1 i 11 = cCell cI cZ cP cF q S i 11 := by
  subst hi
  show cc11 cI cZ cP cF q1 S1 0 = cc11 cI cZ cP cF q S 0
  unfold cc11
  rw [show cv S1 110 0 = cv S 110 0 from hv 0 (by decide)]
theorem cExt_12 (hs : ∀ kd j : Nat, kd < 24 → q1 kd j = q kd j) (hp : ∀ kd j : Nat, 24 ≤ kd → kd < 32 → j < cnP S → q1 kd j = q kd j) (hc : ∀ kd j : Nat, 32 ≤ kd → j < cnC S → q1 kd j = q kd j) (hw : Wid S) (hi : i = 0) (hv : ∀ f : Nat, f < 10 → cv S1 (10 * 12 + f) i = cv S (10 * 12 + f) i) : cCell cI cZ cP cF q1 S1 i 12 = cCell cI cZ cP cF q S i 12 := by
  subst hi
  show cc12 cI cZ cP cF q1 S1 0 = cc12 cI cZ cP cF q S 0
  unfold cc12
  rw [show cv S1 126 0 = cv S 126 0 from hv 6 (by decide), show cv S1 127 0 = cv S 127 0 from hv 7 (by decide), show cv S1 128 0 = cv S 128 0 from hv 8 (by decide), show cv S1 129 0 = cv S 129 0 from hv 9 (by decide), hs 1 0 (by decide), hs 3 0 (by decide), hs 15 0 (by decide), hs 20 0 (by decide), hs 13 0 (by decide), hs 14 0 (by decide)]
theorem cExt_13 (hs : ∀ kd j : Nat, kd < 24 → q1 kd j = q kd j) (hp : ∀ kd j : Nat, 24 ≤ kd → kd < 32 → j < cnP S → q1 kd j = q kd j) (hc : ∀ kd j : Nat, 32 ≤ kd → j < cnC S → q1 kd j = q kd j) (hw : Wid S) (hi : i = 0) (hv : ∀ f : Nat, f < 10 → cv S1 (10 * 13 + f) i = cv S (10 * 13 + f) i) : cCell cI cZ cP cF q1 S1 i 13 = cCell cI cZ cP cF q S i 13 := by
  subst hi
  show cc13 cI cZ cP cF q1 S1 0 = cc13 cI cZ cP cF q S 0
  unfold cc13
  rw [show (fun j => some (q1 22 j)) = (fun j => some (q 22 j)) from funext (fun j => by rw [hs 22 j (by decide)])]
theorem cExt_14 (hs : ∀ kd j : Nat, kd < 24 → q1 kd j = q kd j) (hp : ∀ kd j : Nat, 24 ≤ kd → kd < 32 → j < cnP S → q1 kd j = q kd j) (hc : ∀ kd j : Nat, 32 ≤ kd → j < cnC S → q1 kd j = q kd j) (hw : Wid S) (hi : i = 0) (hv : ∀ f : Nat, f < 10 → cv S1 (10 * 14 + f) i = cv S (10 * 14 + f) i) : cCell cI cZ cP cF q1 S1 i 14 = cCell cI cZ cP cF q S i 14 := by
  subst hi
  show cc14 cI cZ cP cF q1 S1 0 = cc14 cI cZ cP cF q S 0
  unfold cc14
  rw [show cv S1 140 0 = cv S 140 0 from hv 0 (by decide)]
theorem cExt_15 (hs : ∀ kd j : Nat, kd < 24 → q1 kd j = q kd j) (hp : ∀ kd j : Nat, 24 ≤ kd → kd < 32 → j < cnP S → q1 kd j = q kd j) (hc : ∀ kd j : Nat, 32 ≤ kd → j < cnC S → q1 kd j = q kd j) (hw : Wid S) (hi : i = 0) (hv : ∀ f : Nat, f < 10 → cv S1 (10 * 15 + f) i = cv S (10 * 15 + f) i) : cCell cI cZ cP cF q1 S1 i 15 = cCell cI cZ cP cF q S i 15 := by
  subst hi
  show cc15 cI cZ cP cF q1 S1 0 = cc15 cI cZ cP cF q S 0
  unfold cc15
  rw [hs 7 0 (by decide), hs 16 0 (by decide), hs 17 0 (by decide), hs 18 0 (by decide), hs 19 0 (by decide)]
theorem cExt_16 (hs : ∀ kd j : Nat, kd < 24 → q1 kd j = q kd j) (hp : ∀ kd j : Nat, 24 ≤ kd → kd < 32 → j < cnP S → q1 kd j = q kd j) (hc : ∀ kd j : Nat, 32 ≤ kd → j < cnC S → q1 kd j = q kd j) (hw : Wid S) (hi : i = 0) (hv : ∀ f : Nat, f < 10 → cv S1 (10 * 16 + f) i = cv S (10 * 16 + f) i) : cCell cI cZ cP cF q1 S1 i 16 = cCell cI cZ cP cF q S i 16 := by
  subst hi
  show cc16 cI cZ cP cF q1 S1 0 = cc16 cI cZ cP cF q S 0
  unfold cc16
  rw [show cv S1 160 0 = cv S 160 0 from hv 0 (by decide)]
theorem cExt_17 (hs : ∀ kd j : Nat, kd < 24 → q1 kd j = q kd j) (hp : ∀ kd j : Nat, 24 ≤ kd → kd < 32 → j < cnP S → q1 kd j = q kd j) (hc : ∀ kd j : Nat, 32 ≤ kd → j < cnC S → q1 kd j = q kd j) (hw : Wid S) (hi : i = 0) (hv : ∀ f : Nat, f < 10 → cv S1 (10 * 17 + f) i = cv S (10 * 17 + f) i) : cCell cI cZ cP cF q1 S1 i 17 = cCell cI cZ cP cF q S i 17 := by
  subst hi
  show cc17 cI cZ cP cF q1 S1 0 = cc17 cI cZ cP cF q S 0
  unfold cc17
  rw [show cv S1 170 0 = cv S 170 0 from hv 0 (by decide)]
theorem cExt_18 (hs : ∀ kd j : Nat, kd < 24 → q1 kd j = q kd j) (hp : ∀ kd j : Nat, 24 ≤ kd → kd < 32 → j < cnP S → q1 kd j = q kd j) (hc : ∀ kd j : Nat, 32 ≤ kd → j < cnC S → q1 kd j = q kd j) (hw : Wid S) (hi : i = 0) (hv : ∀ f : Nat, f < 10 → cv S1 (10 * 18 + f) i = cv S (10 * 18 + f) i) : cCell cI cZ cP cF q1 S1 i 18 = cCell cI cZ cP cF q S i 18 := by
  subst hi
  show cc18 cI cZ cP cF q1 S1 0 = cc18 cI cZ cP cF q S 0
  unfold cc18
  rw [show cv S1 180 0 = cv S 180 0 from hv 0 (by decide)]
theorem cExt_19 (hs : ∀ kd j : Nat, kd < 24 → q1 kd j = q kd j) (hp : ∀ kd j : Nat, 24 ≤ kd → kd < 32 → j < cnP S → q1 kd j = q kd j) (hc : ∀ kd j : Nat, 32 ≤ kd → j < cnC S → q1 kd j = q kd j) (hw : Wid S) (hi : i = 0) (hv : ∀ f : Nat, f < 10 → cv S1 (10 * 19 + f) i = cv S (10 * 19 + f) i) : cCell cI cZ cP cF q1 S1 i 19 = cCell cI cZ cP cF q S i 19 := by
  subst hi
  show cc19 cI cZ cP cF q1 S1 0 = cc19 cI cZ cP cF q S 0
  unfold cc19
  rw [show cv S1 190 0 = cv S 190 0 from hv 0 (by decide)]
theorem cExt_20 (hs : ∀ kd j : Nat, kd < 24 → q1 kd j = q kd j) (hp : ∀ kd j : Nat, 24 ≤ kd → kd < 32 → j < cnP S → q1 kd j = q kd j) (hc : ∀ kd j : Nat, 32 ≤ kd → j < cnC S → q1 kd j = q kd j) (hw : Wid S) (hi : i = 0) (hv : ∀ f : Nat, f < 10 → cv S1 (10 * 20 + f) i = cv S (10 * 20 + f) i) : cCell cI cZ cP cF q1 S1 i 20 = cCell cI cZ cP cF q S i 20 := by
  subst hi
  show cc20 cI cZ cP cF q1 S1 0 = cc20 cI cZ cP cF q S 0
  unfold cc20
  rw [show cv S1 200 0 = cv S 200 0 from hv 0 (by decide), show cv S1 201 0 = cv S 201 0 from hv 1 (by decide), show cv S1 202 0 = cv S 202 0 from hv 2 (by decide), show cv S1 203 0 = cv S 203 0 from hv 3 (by decide), show cv S1 204 0 = cv S 204 0 from hv 4 (by decide), show cv S1 205 0 = cv S 205 0 from hv 5 (by decide), hs 21 0 (by decide)]
theorem cExt_21 (hs : ∀ kd j : Nat, kd < 24 → q1 kd j = q kd j) (hp : ∀ kd j : Nat, 24 ≤ kd → kd < 32 → j < cnP S → q1 kd j = q kd j) (hc : ∀ kd j : Nat, 32 ≤ kd → j < cnC S → q1 kd j = q kd j) (hw : Wid S) (hi : i = 0) (hv : ∀ f : Nat, f < 10 → cv S1 (10 * 21 + f) i = cv S (10 * 21 + f) i) : cCell cI cZ cP cF q1 S1 i 21 = cCell cI cZ cP cF q S i 21 := by
  subst hi
  show cc21 cI cZ cP cF q1 S1 0 = cc21 cI cZ cP cF q S 0
  unfold cc21
  rw [show cv S1 210 0 = cv S 210 0 from hv 0 (by decide)]
theorem cExt_22 (hs : ∀ kd j : Nat, kd < 24 → q1 kd j = q kd j) (hp : ∀ kd j : Nat, 24 ≤ kd → kd < 32 → j < cnP S → q1 kd j = q kd j) (hc : ∀ kd j : Nat, 32 ≤ kd → j < cnC S → q1 kd j = q kd j) (hw : Wid S) (hi : i < 16) (hv : ∀ f : Nat, f < 10 → cv S1 (10 * 22 + f) i = cv S (10 * 22 + f) i) : cCell cI cZ cP cF q1 S1 i 22 = cCell cI cZ cP cF q S i 22 := by
  show cc22 cI cZ cP cF q1 S1 i = cc22 cI cZ cP cF q S i
  unfold cc22
  unfold cn
  rw [show cv S1 220 i = cv S 220 i from hv 0 (by decide), show cv S1 221 i = cv S 221 i from hv 1 (by decide), show cv S1 222 i = cv S 222 i from hv 2 (by decide), show cv S1 223 i = cv S 223 i from hv 3 (by decide), cno_ext (hw.2.1 i hi).1 (fun j hj => hp 24 j (by decide) (by decide) hj), cno_ext (hw.2.1 i hi).2 (fun j hj => hc 32 j (by decide) hj), hs 23 i (by decide)]
theorem cExt_23 (hs : ∀ kd j : Nat, kd < 24 → q1 kd j = q kd j) (hp : ∀ kd j : Nat, 24 ≤ kd → kd < 32 → j < cnP S → q1 kd j = q kd j) (hc : ∀ kd j : Nat, 32 ≤ kd → j < cnC S → q1 kd j = q kd j) (hw : Wid S) (hi : i < 16) (hv : ∀ f : Nat, f < 10 → cv S1 (10 * 23 + f) i = cv S (10 * 23 + f) i) : cCell cI cZ cP cF q1 S1 i 23 = cCell cI cZ cP cF q S i 23 := by
  show cc23 cI cZ cP cF q1 S1 i = cc23 cI cZ cP cF q S i
  unfold cc23
  rw [show cv S1 230 i = cv S 230 i from hv 0 (by decide)]
theorem cExt_24 (hs : ∀ kd j : Nat, kd < 24 → q1 kd j = q kd j) (hp : ∀ kd j : Nat, 24 ≤ kd → kd < 32 → j < cnP S → q1 kd j = q kd j) (hc : ∀ kd j : Nat, 32 ≤ kd → j < cnC S → q1 kd j = q kd j) (hw : Wid S) (hi : i < cnP S) (hv : ∀ f : Nat, f < 10 → cv S1 (10 * 24 + f) i = cv S (10 * 24 + f) i) : cCell cI cZ cP cF q1 S1 i 24 = cCell cI cZ cP cF q S i 24 := by
  show cc24 cI cZ cP cF q1 S1 i = cc24 cI cZ cP cF q S i
  unfold cc24
  unfold cn
  rw [show cv S1 240 i = cv S 240 i from hv 0 (by decide), show cv S1 241 i = cv S 241 i from hv 1 (by decide), show cv S1 242 i = cv S 242 i from hv 2 (by decide), show cv S1 247 i = cv S 247 i from hv 7 (by decide), show cv S1 248 i = cv S 248 i from hv 8 (by decide), show cv S1 249 i = cv S 249 i from hv 9 (by decide), hp 28 i (by decide) (by decide) hi, hp 25 i (by decide) (by decide) hi, hp 26 i (by decide) (by decide) hi, hp 27 i (by decide) (by decide) hi, cno_ext (hw.2.2 i hi).1 (fun j hj => hc 32 j (by decide) hj)]
theorem cExt_25 (hs : ∀ kd j : Nat, kd < 24 → q1 kd j = q kd j) (hp : ∀ kd j : Nat, 24 ≤ kd → kd < 32 → j < cnP S → q1 kd j = q kd j) (hc : ∀ kd j : Nat, 32 ≤ kd → j < cnC S → q1 kd j = q kd j) (hw : Wid S) (hi : i < cnP S) (hv : ∀ f : Nat, f < 10 → cv S1 (10 * 25 + f) i = cv S (10 * 25 + f) i) : cCell cI cZ cP cF q1 S1 i 25 = cCell cI cZ cP cF q S i 25 := by
  show cc25 cI cZ cP cF q1 S1 i = cc25 cI cZ cP cF q S i
  unfold cc25
  rw [show cv S1 250 i = cv S 250 i from hv 0 (by decide)]
theorem cExt_26 (hs : ∀ kd j : Nat, kd < 24 → q1 kd j = q kd j) (hp : ∀ kd j : Nat, 24 ≤ kd → kd < 32 → j < cnP S → q1 kd j = q kd j) (hc : ∀ kd j : Nat, 32 ≤ kd → j < cnC S → q1 kd j = q kd j) (hw : Wid S) (hi : i < cnP S) (hv : ∀ f : Nat, f < 10 → cv S1 (10 * 26 + f) i = cv S (10 * 26 + f) i) : cCell cI cZ cP cF q1 S1 i 26 = cCell cI cZ cP cF q S i 26 := by
  show cc26 cI cZ cP cF q1 S1 i = cc26 cI cZ cP cF q S i
  unfold cc26
  rw [show cv S1 260 i = cv S 260 i from hv 0 (by decide)]
theorem cExt_27 (hs : ∀ kd j : Nat, kd < 24 → q1 kd j = q kd j) (hp : ∀ kd j : Nat, 24 ≤ kd → kd < 32 → j < cnP S → q1 kd j = q kd j) (hc : ∀ kd j : Nat, 32 ≤ kd → j < cnC S → q1 kd j = q kd j) (hw : Wid S) (hi : i < cnP S) (hv : ∀ f : Nat, f < 10 → cv S1 (10 * 27 + f) i = cv S (10 * 27 + f) i) : cCell cI cZ cP cF q1 S1 i 27 = cCell cI cZ cP cF q S i 27 := by
  show cc27 cI cZ cP cF q1 S1 i = cc27 cI cZ cP cF q S i
  unfold cc27
  rw [show cv S1 270 i = cv S 270 i from hv 0 (by decide)]
theorem cExt_28 (hs : ∀ kd j : Nat, kd < 24 → q1 kd j = q kd j) (hp : ∀ kd j : Nat, 24 ≤ kd → kd < 32 → j < cnP S → q1 kd j = q kd j) (hc : ∀ kd j : Nat, 32 ≤ kd → j < cnC S → q1 kd j = q kd j) (hw : Wid S) (hi : i < cnP S) (hv : ∀ f : Nat, f < 10 → cv S1 (10 * 28 + f) i = cv S (10 * 28 + f) i) : cCell cI cZ cP cF q1 S1 i 28 = cCell cI cZ cP cF q S i 28 := by
  show cc28 cI cZ cP cF q1 S1 i = cc28 cI cZ cP cF q S i
  unfold cc28
  unfold cn
  rw [show cv S1 280 i = cv S 280 i from hv 0 (by decide), show cv S1 281 i = cv S 281 i from hv 1 (by decide), show cv S1 282 i = cv S 282 i from hv 2 (by decide), show cv S1 283 i = cv S 283 i from hv 3 (by decide), show cv S1 284 i = cv S 284 i from hv 4 (by decide), show cv S1 285 i = cv S 285 i from hv 5 (by decide), cno_ext (hw.2.2 i hi).2 (fun j hj => hc 32 j (by decide) hj), hp 29 i (by decide) (by decide) hi, hp 30 i (by decide) (by decide) hi, hp 31 i (by decide) (by decide) hi]
theorem cExt_29 (hs : ∀ kd j : Nat, kd < 24 → q1 kd j = q kd j) (hp : ∀ kd j : Nat, 24 ≤ kd → kd < 32 → j < cnP S → q1 kd j = q kd j) (hc : ∀ kd j : Nat, 32 ≤ kd → j < cnC S → q1 kd j = q kd j) (hw : Wid S) (hi : i < cnP S) (hv : ∀ f : Nat, f < 10 → cv S1 (10 * 29 + f) i = cv S (10 * 29 + f) i) : cCell cI cZ cP cF q1 S1 i 29 = cCell cI cZ cP cF q S i 29 := by
  show cc29 cI cZ cP cF q1 S1 i = cc29 cI cZ cP cF q S i
  unfold cc29
  rw [show cv S1 290 i = cv S 290 i from hv 0 (by decide)]
theorem cExt_30 (hs : ∀ kd j : Nat, kd < 24 → q1 kd j = q kd j) (hp : ∀ kd j : Nat, 24 ≤ kd → kd < 32 → j < cnP S → q1 kd j = q kd j) (hc : ∀ kd j : Nat, 32 ≤ kd → j < cnC S → q1 kd j = q kd j) (hw : Wid S) (hi : i < cnP S) (hv : ∀ f : Nat, f < 10 → cv S1 (10 * 30 + f) i = cv S (10 * 30 + f) i) : cCell cI cZ cP cF q1 S1 i 30 = cCell cI cZ cP cF q S i 30 := by
  show cc30 cI cZ cP cF q1 S1 i = cc30 cI cZ cP cF q S i
  unfold cc30
  rw [show cv S1 300 i = cv S 300 i from hv 0 (by decide)]
theorem cExt_31 (hs : ∀ kd j : Nat, kd < 24 → q1 kd j = q kd j) (hp : ∀ kd j : Nat, 24 ≤ kd → kd < 32 → j < cnP S → q1 kd j = q kd j) (hc : ∀ kd j : Nat, 32 ≤ kd → j < cnC S → q1 kd j = q kd j) (hw : Wid S) (hi : i < cnP S) (hv : ∀ f : Nat, f < 10 → cv S1 (10 * 31 + f) i = cv S (10 * 31 + f) i) : cCell cI cZ cP cF q1 S1 i 31 = cCell cI cZ cP cF q S i 31 := by
  show cc31 cI cZ cP cF q1 S1 i = cc31 cI cZ cP cF q S i
  unfold cc31
  rw [show cv S1 310 i = cv S 310 i from hv 0 (by decide)]
theorem cExt_32 (hs : ∀ kd j : Nat, kd < 24 → q1 kd j = q kd j) (hp : ∀ kd j : Nat, 24 ≤ kd → kd < 32 → j < cnP S → q1 kd j = q kd j) (hc : ∀ kd j : Nat, 32 ≤ kd → j < cnC S → q1 kd j = q kd j) (hw : Wid S) (hi : i < cnC S) (hv : ∀ f : Nat, f < 10 → cv S1 (10 * 32 + f) i = cv S (10 * 32 + f) i) : cCell cI cZ cP cF q1 S1 i 32 = cCell cI cZ cP cF q S i 32 := by
  show cc32 cI cZ cP cF q1 S1 i = cc32 cI cZ cP cF q S i
  unfold cc32
  rw [show cv S1 320 i = cv S 320 i from hv 0 (by decide), show cv S1 321 i = cv S 321 i from hv 1 (by decide), hc 33 i (by decide) hi, hc 34 i (by decide) hi]
theorem cExt_33 (hs : ∀ kd j : Nat, kd < 24 → q1 kd j = q kd j) (hp : ∀ kd j : Nat, 24 ≤ kd → kd < 32 → j < cnP S → q1 kd j = q kd j) (hc : ∀ kd j : Nat, 32 ≤ kd → j < cnC S → q1 kd j = q kd j) (hw : Wid S) (hi : i < cnC S) (hv : ∀ f : Nat, f < 10 → cv S1 (10 * 33 + f) i = cv S (10 * 33 + f) i) : cCell cI cZ cP cF q1 S1 i 33 = cCell cI cZ cP cF q S i 33 := by
  show cc33 cI cZ cP cF q1 S1 i = cc33 cI cZ cP cF q S i
  unfold cc33
  rw [show cv S1 330 i = cv S 330 i from hv 0 (by decide), show cv S1 339 i = cv S 339 i from hv 9 (by decide)]
theorem cExt_34 (hs : ∀ kd j : Nat, kd < 24 → q1 kd j = q kd j) (hp : ∀ kd j : Nat, 24 ≤ kd → kd < 32 → j < cnP S → q1 kd j = q kd j) (hc : ∀ kd j : Nat, 32 ≤ kd → j < cnC S → q1 kd j = q kd j) (hw : Wid S) (hi : i < cnC S) (hv : ∀ f : Nat, f < 10 → cv S1 (10 * 34 + f) i = cv S (10 * 34 + f) i) : cCell cI cZ cP cF q1 S1 i 34 = cCell cI cZ cP cF q S i 34 := by
  show cc34 cI cZ cP cF q1 S1 i = cc34 cI cZ cP cF q S i
  unfold cc34
  rw [show cv S1 340 i = cv S 340 i from hv 0 (by decide), show cv S1 349 i = cv S 349 i from hv 9 (by decide)]
end CEXT
theorem cExt {cI cZ cP cF : Nat} {q q1 : Nat → Nat → Nat} {S S1 : CST} {k i : Nat} (hs : ∀ kd j : Nat, kd < 24 → q1 kd j = q kd j) (hp : ∀ kd j : Nat, 24 ≤ kd → kd < 32 → j < cnP S → q1 kd j = q kd j) (hc : ∀ kd j : Nat, 32 ≤ kd → j < cnC S → q1 kd j = q kd j) (hw : Wid S) (hi : cin S k i) (hv : ∀ f : Nat, f < 10 → cv S1 (10 * k + f) i = cv S (10 * k + f) i) : cCell cI cZ cP cF q1 S1 i k = cCell cI cZ cP cF q S i k := by
  have hk : k < 35 := by unfold cin at hi; omega
  rcases (show k = 0 ∨ k = 1 ∨ k = 2 ∨ k = 3 ∨ k = 4 ∨ k = 5 ∨ k = 6 ∨ k = 7 ∨ k = 8 ∨ k = 9 ∨ k = 10 ∨ k = 11 ∨ k = 12 ∨ k = 13 ∨ k = 14 ∨ k = 15 ∨ k = 16 ∨ k = 17 ∨ k = 18 ∨ k = 19 ∨ k = 20 ∨ k = 21 ∨ k = 22 ∨ k = 23 ∨ k = 24 ∨ k = 25 ∨ k = 26 ∨ k = 27 ∨ k = 28 ∨ k = 29 ∨ k = 30 ∨ k = 31 ∨ k = 32 ∨ k = 33 ∨ k = 34 by omega) with rfl | rfl | rfl | rfl | rfl | rfl | rfl | rfl | rfl | rfl | rfl | rfl | rfl | rfl | rfl | rfl | rfl | rfl | rfl | rfl | rfl | rfl | rfl | rfl | rfl | rfl | rfl | rfl | rfl | rfl | rfl | rfl | rfl | rfl | rfl
  · exact cExt_0 hs hp hc hw (by unfold cin at hi; omega) hv
  · exact cExt_1 hs hp hc hw (by unfold cin at hi; omega) hv
  · exact cExt_2 hs hp hc hw (by unfold cin at hi; omega) hv
  · exact cExt_3 hs hp hc hw (by unfold cin at hi; omega) hv
  · exact cExt_4 hs hp hc hw (by unfold cin at hi; omega) hv
  · exact cExt_5 hs hp hc hw (by unfold cin at hi; omega) hv
  · exact cExt_6 hs hp hc hw (by unfold cin at hi; omega) hv
  · exact cExt_7 hs hp hc hw (by unfold cin at hi; omega) hv
  · exact cExt_8 hs hp hc hw (by unfold cin at hi; omega) hv
  · exact cExt_9 hs hp hc hw (by unfold cin at hi; omega) hv
  · exact cExt_10 hs hp hc hw (by unfold cin at hi; omega) hv
  · exact cExt_11 hs hp hc hw (by unfold cin at hi; omega) hv
  · exact cExt_12 hs hp hc hw (by unfold cin at hi; omega) hv
  · exact cExt_13 hs hp hc hw (by unfold cin at hi; omega) hv
  · exact cExt_14 hs hp hc hw (by unfold cin at hi; omega) hv
  · exact cExt_15 hs hp hc hw (by unfold cin at hi; omega) hv
  · exact cExt_16 hs hp hc hw (by unfold cin at hi; omega) hv
  · exact cExt_17 hs hp hc hw (by unfold cin at hi; omega) hv
  · exact cExt_18 hs hp hc hw (by unfold cin at hi; omega) hv
  · exact cExt_19 hs hp hc hw (by unfold cin at hi; omega) hv
  · exact cExt_20 hs hp hc hw (by unfold cin at hi; omega) hv
  · exact cExt_21 hs hp hc hw (by unfold cin at hi; omega) hv
  · exact cExt_22 hs hp hc hw (by unfold cin at hi; omega) hv
  · exact cExt_23 hs hp hc hw (by unfold cin at hi; omega) hv
  · exact cExt_24 hs hp hc hw (by unfold cin at hi; omega) hv
  · exact cExt_25 hs hp hc hw (by unfold cin at hi; omega) hv
  · exact cExt_26 hs hp hc hw (by unfold cin at hi; omega) hv
  · exact cExt_27 hs hp hc hw (by unfold cin at hi; omega) hv
  · exact cExt_28 hs hp hc hw (by unfold cin at hi; omega) hv
  · exact cExt_29 hs hp hc hw (by unfold cin at hi; omega) hv
  · exact cExt_30 hs hp hc hw (by unfold cin at hi; omega) hv
  · exact cExt_31 hs hp hc hw (by unfold cin at hi; omega) hv
  · exact cExt_32 hs hp hc hw (by unfold cin at hi; omega) hv
  · exact cExt_33 hs hp hc hw (by unfold cin at hi; omega) hv
  · exact cExt_34 hs hp hc hw (by unfold cin at hi; omega) hv
/-- what a new METHOD holds -/
def newP (num args locals : Int32) (k : Nat) : Int32 := if k = 240 then num else if k = 241 then args else if k = 242 then locals else if k = 248 then -1 else if k = 249 then -1 else if k = 281 then -1 else 0
def addP (S : CST) (num args locals : Int32) : CST := (fun k i => if i = cnP S ∧ 240 ≤ k ∧ k < 320 then fun _ => newP num args locals k else S.1 k i, cnP S + 1, cnC S)
def qP (q : Nat → Nat → Nat) (P : Nat) (a : Nat → Nat) (k i : Nat) : Nat := if i = P ∧ 24 ≤ k ∧ k < 32 then a k else q k i
/-- what a new code holds -/
def addC (S : CST) (making heads n1 n2 : Int32) (f1 f2 : Nat → Int32) : CST := (fun k i => if i = cnC S ∧ 320 ≤ k then (if k = 320 then fun _ => making else if k = 321 then fun _ => heads else if k = 330 then f1 else if k = 339 then fun _ => n1 else if k = 340 then f2 else if k = 349 then fun _ => n2 else fun _ => 0) else S.1 k i, cnP S, cnC S + 1)
def qC (q : Nat → Nat → Nat) (C : Nat) (a : Nat → Nat) (k i : Nat) : Nat := if i = C ∧ 32 ≤ k then a k else q k i
theorem cW_addP {D : va_G} {cl : List vw_C} {A : Nat → Prop} {H : Heap} {cI cZ cP cF : Nat} {q : Nat → Nat → Nat} {S : CST} {num args locals : Int32} {a0 a1 a2 a3 a4 a5 a6 a7 : Nat} (hw : Wid S) (hP : va_P D cl (cW cI cZ cP cF q S ++ [(a0, .inr (8, [.int num, .int args, .int locals, .ref a4, .ref a1, .ref a2, .ref a3, .int 0, .int (-1), .null])), (a4, .inr (5, [.int 0, .null, .int 0, .int 0, .int 0, .int 0, .ref a5, .ref a6, .ref a7])), (a1, .inl (cI, 60, .inl (fun _ => 0))), (a2, .inl (cI, 60, .inl (fun _ => 0))), (a3, .inl (cI, 60, .inl (fun _ => 0))), (a5, .inl (cI, 11, .inl (fun _ => 0))), (a6, .inl (cZ, 11, .inl (fun _ => 0))), (a7, .inl (cZ, 11, .inl (fun _ => 0)))]) H) (hD : va_D A (cW cI cZ cP cF q S ++ [(a0, .inr (8, [.int num, .int args, .int locals, .ref a4, .ref a1, .ref a2, .ref a3, .int 0, .int (-1), .null])), (a4, .inr (5, [.int 0, .null, .int 0, .int 0, .int 0, .int 0, .ref a5, .ref a6, .ref a7])), (a1, .inl (cI, 60, .inl (fun _ => 0))), (a2, .inl (cI, 60, .inl (fun _ => 0))), (a3, .inl (cI, 60, .inl (fun _ => 0))), (a5, .inl (cI, 11, .inl (fun _ => 0))), (a6, .inl (cZ, 11, .inl (fun _ => 0))), (a7, .inl (cZ, 11, .inl (fun _ => 0)))])) : ∃ q1 : Nat → Nat → Nat, (∀ k i : Nat, cin S k i → q1 k i = q k i) ∧ q1 24 (cnP S) = a0 ∧ va_P D cl (cW cI cZ cP cF q1 (addP S num args locals)) H ∧ va_D A (cW cI cZ cP cF q1 (addP S num args locals)) := by
  obtain ⟨a, ha⟩ : ∃ a : Nat → Nat, a = fun k => if k = 24 then a0 else if k = 25 then a1 else if k = 26 then a2 else if k = 27 then a3 else if k = 28 then a4 else if k = 29 then a5 else if k = 30 then a6 else a7 := ⟨_, rfl⟩
  have hqn : ∀ k : Nat, 24 ≤ k → k < 32 → qP q (cnP S) a k (cnP S) = a k := fun k h1 h2 => if_pos ⟨rfl, h1, h2⟩
  have hqo : ∀ k i : Nat, ¬ (i = cnP S ∧ 24 ≤ k ∧ k < 32) → qP q (cnP S) a k i = q k i := fun k i h => if_neg h
  have hold : ∀ k i : Nat, cin S k i → qP q (cnP S) a k i = q k i := fun k i h => hqo k i (by unfold cin at h; omega)
  refine ⟨qP q (cnP S) a, hold, by rw [hqn 24 (by decide) (by decide), ha]; rfl, ?_⟩
  refine cW_add (S := S) (fun k i => if k = 24 then 0 else if k = 28 then 1 else if k < 28 then k - 23 else k - 24) hP hD (fun k i h => ⟨hold k i h, ?_⟩) (fun k i h n => ?_) (fun k i k' i' h n h' n' e => ?_)
  · exact cExt (fun kd j h => hqo kd j (by omega)) (fun kd j h1 h2 h3 => hqo kd j (by omega)) (fun kd j h1 h2 => hqo kd j (by omega)) hw h (fun f hf => if_neg (by unfold cin at h; omega))
  · obtain ⟨rfl, h1, h2⟩ : i = cnP S ∧ 24 ≤ k ∧ k < 32 := by
      unfold cin at h n
      have e1 : cnP (addP S num args locals) = cnP S + 1 := rfl
      have e2 : cnC (addP S num args locals) = cnC S := rfl
      rw [e1, e2] at h
      omega
    have hv : ∀ x : Nat, 240 ≤ x → x < 320 → cv (addP S num args locals) x (cnP S) = fun _ => newP num args locals x := fun x h1 h2 => if_pos ⟨rfl, h1, h2⟩
    rcases (show k = 24 ∨ k = 25 ∨ k = 26 ∨ k = 27 ∨ k = 28 ∨ k = 29 ∨ k = 30 ∨ k = 31 by omega) with rfl | rfl | rfl | rfl | rfl | rfl | rfl | rfl
    · show some (a0, .inr (8, [.int num, .int args, .int locals, .ref a4, .ref a1, .ref a2, .ref a3, .int 0, .int (-1), .null])) = some (qP q (cnP S) a 24 (cnP S), cc24 cI cZ cP cF (qP q (cnP S) a) (addP S num args locals) (cnP S))
      unfold cc24
      rw [hqn 24 (by decide) (by decide), hv 240 (by decide) (by decide), hv 241 (by decide) (by decide), hv 242 (by decide) (by decide), hqn 28 (by decide) (by decide), hqn 25 (by decide) (by decide), hqn 26 (by decide) (by decide), hqn 27 (by decide) (by decide), hv 247 (by decide) (by decide), hv 248 (by decide) (by decide), hv 249 (by decide) (by decide), ha]
      rfl
    · show some (a1, .inl (cI, 60, .inl (fun _ => 0))) = some (qP q (cnP S) a 25 (cnP S), cc25 cI cZ cP cF (qP q (cnP S) a) (addP S num args locals) (cnP S))
      unfold cc25
      rw [hqn 25 (by decide) (by decide), hv 250 (by decide) (by decide), ha]
      rfl
    · show some (a2, .inl (cI, 60, .inl (fun _ => 0))) = some (qP q (cnP S) a 26 (cnP S), cc26 cI cZ cP cF (qP q (cnP S) a) (addP S num args locals) (cnP S))
      unfold cc26
      rw [hqn 26 (by decide) (by decide), hv 260 (by decide) (by decide), ha]
      rfl
    · show some (a3, .inl (cI, 60, .inl (fun _ => 0))) = some (qP q (cnP S) a 27 (cnP S), cc27 cI cZ cP cF (qP q (cnP S) a) (addP S num args locals) (cnP S))
      unfold cc27
      rw [hqn 27 (by decide) (by decide), hv 270 (by decide) (by decide), ha]
      rfl
    · show some (a4, .inr (5, [.int 0, .null, .int 0, .int 0, .int 0, .int 0, .ref a5, .ref a6, .ref a7])) = some (qP q (cnP S) a 28 (cnP S), cc28 cI cZ cP cF (qP q (cnP S) a) (addP S num args locals) (cnP S))
      unfold cc28
      rw [hqn 28 (by decide) (by decide), hv 280 (by decide) (by decide), hv 281 (by decide) (by decide), hv 282 (by decide) (by decide), hv 283 (by decide) (by decide), hv 284 (by decide) (by decide), hv 285 (by decide) (by decide), hqn 29 (by decide) (by decide), hqn 30 (by decide) (by decide), hqn 31 (by decide) (by decide), ha]
      rfl
    · show some (a5, .inl (cI, 11, .inl (fun _ => 0))) = some (qP q (cnP S) a 29 (cnP S), cc29 cI cZ cP cF (qP q (cnP S) a) (addP S num args locals) (cnP S))
      unfold cc29
      rw [hqn 29 (by decide) (by decide), hv 290 (by decide) (by decide), ha]
      rfl
    · show some (a6, .inl (cZ, 11, .inl (fun _ => 0))) = some (qP q (cnP S) a 30 (cnP S), cc30 cI cZ cP cF (qP q (cnP S) a) (addP S num args locals) (cnP S))
      unfold cc30
      rw [hqn 30 (by decide) (by decide), hv 300 (by decide) (by decide), ha]
      rfl
    · show some (a7, .inl (cZ, 11, .inl (fun _ => 0))) = some (qP q (cnP S) a 31 (cnP S), cc31 cI cZ cP cF (qP q (cnP S) a) (addP S num args locals) (cnP S))
      unfold cc31
      rw [hqn 31 (by decide) (by decide), hv 310 (by decide) (by decide), ha]
      rfl
  · have e1 : cnP (addP S num args locals) = cnP S + 1 := rfl
    have e2 : cnC (addP S num args locals) = cnC S := rfl
    unfold cin at h n h' n'
    rw [e1, e2] at h h'
    refine ⟨?_, by omega⟩
    have h1 : 24 ≤ k ∧ k < 32 := by omega
    have h2 : 24 ≤ k' ∧ k' < 32 := by omega
    revert e
    show (if k = 24 then 0 else if k = 28 then 1 else if k < 28 then k - 23 else k - 24) = (if k' = 24 then 0 else if k' = 28 then 1 else if k' < 28 then k' - 23 else k' - 24) → k = k'
    intro e
    split at e <;> split at e <;> (try split at e) <;> (try split at e) <;> (try split at e) <;> (try split at e) <;> omega
theorem cW_addC {D : va_G} {cl : List vw_C} {A : Nat → Prop} {H : Heap} {cI cZ cP cF : Nat} {q : Nat → Nat → Nat} {S : CST} {making heads n1 n2 : Int32} {f1 f2 : Nat → Int32} {a0 a1 a2 : Nat} (hw : Wid S) (hP : va_P D cl (cW cI cZ cP cF q S ++ [(a1, .inl (cI, n1.toNatClampNeg, .inl f1)), (a0, .inr (1, [.int making, .int heads, .ref a1, .ref a2])), (a2, .inl (cI, n2.toNatClampNeg, .inl f2))]) H) (hD : va_D A (cW cI cZ cP cF q S ++ [(a1, .inl (cI, n1.toNatClampNeg, .inl f1)), (a0, .inr (1, [.int making, .int heads, .ref a1, .ref a2])), (a2, .inl (cI, n2.toNatClampNeg, .inl f2))])) : ∃ q1 : Nat → Nat → Nat, (∀ k i : Nat, cin S k i → q1 k i = q k i) ∧ q1 32 (cnC S) = a0 ∧ va_P D cl (cW cI cZ cP cF q1 (addC S making heads n1 n2 f1 f2)) H ∧ va_D A (cW cI cZ cP cF q1 (addC S making heads n1 n2 f1 f2)) := by
  obtain ⟨a, ha⟩ : ∃ a : Nat → Nat, a = fun k => if k = 32 then a0 else if k = 33 then a1 else a2 := ⟨_, rfl⟩
  have hqn : ∀ k : Nat, 32 ≤ k → qC q (cnC S) a k (cnC S) = a k := fun k h1 => if_pos ⟨rfl, h1⟩
  have hqo : ∀ k i : Nat, ¬ (i = cnC S ∧ 32 ≤ k) → qC q (cnC S) a k i = q k i := fun k i h => if_neg h
  have hold : ∀ k i : Nat, cin S k i → qC q (cnC S) a k i = q k i := fun k i h => hqo k i (by unfold cin at h; omega)
  refine ⟨qC q (cnC S) a, hold, by rw [hqn 32 (by decide), ha]; rfl, ?_⟩
  refine cW_add (S := S) (fun k i => if k = 32 then 1 else if k = 33 then 0 else 2) hP hD (fun k i h => ⟨hold k i h, ?_⟩) (fun k i h n => ?_) (fun k i k' i' h n h' n' e => ?_)
  · exact cExt (fun kd j h => hqo kd j (by omega)) (fun kd j h1 h2 h3 => hqo kd j (by omega)) (fun kd j h1 h2 => hqo kd j (by omega)) hw h (fun f hf => if_neg (by unfold cin at h; omega))
  · obtain ⟨rfl, h1, h2⟩ : i = cnC S ∧ 32 ≤ k ∧ k < 35 := by
      unfold cin at h n
      have e1 : cnP (addC S making heads n1 n2 f1 f2) = cnP S := rfl
      have e2 : cnC (addC S making heads n1 n2 f1 f2) = cnC S + 1 := rfl
      rw [e1, e2] at h
      omega
    have hv : ∀ x : Nat, 320 ≤ x → cv (addC S making heads n1 n2 f1 f2) x (cnC S) = (if x = 320 then fun _ => making else if x = 321 then fun _ => heads else if x = 330 then f1 else if x = 339 then fun _ => n1 else if x = 340 then f2 else if x = 349 then fun _ => n2 else fun _ => 0) := fun x h1 => if_pos ⟨rfl, h1⟩
    rcases (show k = 32 ∨ k = 33 ∨ k = 34 by omega) with rfl | rfl | rfl
    · show some (a0, _) = some (qC q (cnC S) a 32 (cnC S), cc32 cI cZ cP cF (qC q (cnC S) a) (addC S making heads n1 n2 f1 f2) (cnC S))
      unfold cc32
      rw [hqn 32 (by decide), hqn 33 (by decide), hqn 34 (by decide), hv 320 (by decide), hv 321 (by decide), ha]
      rfl
    · show some (a1, _) = some (qC q (cnC S) a 33 (cnC S), cc33 cI cZ cP cF (qC q (cnC S) a) (addC S making heads n1 n2 f1 f2) (cnC S))
      unfold cc33
      rw [hqn 33 (by decide), hv 330 (by decide), hv 339 (by decide), ha]
      rfl
    · show some (a2, _) = some (qC q (cnC S) a 34 (cnC S), cc34 cI cZ cP cF (qC q (cnC S) a) (addC S making heads n1 n2 f1 f2) (cnC S))
      unfold cc34
      rw [hqn 34 (by decide), hv 340 (by decide), hv 349 (by decide), ha]
      rfl
  · have e1 : cnP (addC S making heads n1 n2 f1 f2) = cnP S := rfl
    have e2 : cnC (addC S making heads n1 n2 f1 f2) = cnC S + 1 := rfl
    unfold cin at h n h' n'
    rw [e1, e2] at h h'
    have h1 : 32 ≤ k := by omega
    have h2 : 32 ≤ k' := by omega
    have h3 : k < 35 ∧ k' < 35 := by omega
    revert e
    show (if k = 32 then 1 else if k = 33 then 0 else 2) = (if k' = 32 then 1 else if k' = 33 then 0 else 2) → _
    intro e
    refine ⟨?_, by omega⟩
    split at e <;> split at e <;> (try split at e) <;> (try split at e) <;> omega
