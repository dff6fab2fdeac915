/-! THE CLASS, pure: what a method may change (Ex), what is always so (J) -/
/-- from S to S' the slots of L alone have changed -/
def Ex (L : List Nat) (S S' : CST) : Prop := S'.2 = S.2 ∧ ∀ k : Nat, L.contains k = false → cv S' k = cv S k
theorem Ex.rf {L : List Nat} {S : CST} : Ex L S S := ⟨rfl, fun _ _ => rfl⟩
theorem Ex.cs {L : List Nat} {S S1 : CST} {k i : Nat} {g : Nat → Int32} (hk : L.contains k = true) (h : Ex L S S1) : Ex L S (cs S1 k i g) := by
  refine ⟨h.1, fun k' hk' => ?_⟩
  rw [← h.2 k' hk']
  funext i'
  exact cs_n S1 g (fun w => by rw [w.1, hk] at hk'; cases hk')
theorem Ex.step {L L1 : List Nat} {S A B : CST} (h1 : Ex L1 A B) (hL : (L1.all fun k => L.contains k) = true) (h : Ex L S A) : Ex L S B := by
  refine ⟨h1.1.trans h.1, fun k hk => ?_⟩
  rw [← h.2 k hk]
  refine h1.2 k ?_
  cases hc : L1.contains k with
  | false => rfl
  | true =>
    have := List.all_eq_true.mp hL k (by simpa using hc)
    rw [hk] at this
    cases this
theorem cinS {S : CST} {k : Nat} (h : k < 22) : cin S k 0 := Or.inl ⟨h, rfl⟩
theorem cinF {S : CST} {k i : Nat} (hi : i < 16) (h1 : 22 ≤ k) (h2 : k < 24) : cin S k i := Or.inr (Or.inl ⟨h1, h2, hi⟩)
theorem cinP {S : CST} {T : Nat × Nat} {k i : Nat} (hT : S.2 = T) (hi : i < T.1) (h1 : 24 ≤ k) (h2 : k < 32) : cin S k i := Or.inr (Or.inr (Or.inl ⟨h1, h2, by rw [show cnP S = T.1 from congrArg Prod.fst hT]; exact hi⟩))
theorem cinC {S : CST} {T : Nat × Nat} {k i : Nat} (hT : S.2 = T) (hi : i < T.2) (h1 : 32 ≤ k) (h2 : k < 35) : cin S k i := Or.inr (Or.inr (Or.inr ⟨h1, h2, by rw [show cnC S = T.2 from congrArg Prod.snd hT]; exact hi⟩))
theorem vid_lt {r : Int32} {n : Nat} (h : vid r n) (h0 : ¬ r < 0) : r.toNatClampNeg < n := h.resolve_left h0
theorem z_le {j B : Nat} (h : B ≤ j) (hj : j < 2 ^ 31) : (nI B : Int32) ≤ nI j := nI_le h hj
theorem z_nle {j B : Nat} (h : j < B) (hB : B < 2 ^ 31) : ¬ (nI B : Int32) ≤ nI j := nI_ge h hB
/-- the draft: how many PARTS, and what its GUARDS name -/
def TH (op d : Int32) (A : Nat → Prop) : Prop := (op = 17 → ∃ k : Nat, k < 11 ∧ A k ∧ d = nI k) ∧ (op = 18 → ∃ k : Nat, k < 11 ∧ A k ∧ 3 + d = nI k)
def DrO (A : Nat → Prop) (S : CST) : Prop := ∃ n : Nat, cv S 72 0 0 = nI n ∧ n ≤ 1511 ∧ ∀ j : Nat, j < n → TH (cv S 80 0 (5 * j)) (cv S 80 0 (5 * j + 1)) A
theorem DrO.ex {A : Nat → Prop} {L : List Nat} {S S' : CST} (h : DrO A S) (e : Ex L S S') (hL : (L.contains 72 || L.contains 80) = false) : DrO A S' := by
  have h1 : L.contains 72 = false := by cases hc : L.contains 72 <;> simp_all
  have h2 : L.contains 80 = false := by cases hc : L.contains 80 <;> simp_all
  unfold DrO
  rw [e.2 72 h1, e.2 80 h2]
  exact h
theorem DrO.cs {A : Nat → Prop} {S : CST} {k i : Nat} {g : Nat → Int32} (h : DrO A S) (hk : (k == 72 || k == 80) = false) : DrO A (cs S k i g) := DrO.ex (L := [k]) h (Ex.cs (by simp) Ex.rf) (by simp at hk ⊢; omega)
theorem TH_of {op d : Int32} {A : Nat → Prop} (h1 : ¬ op = 17) (h2 : ¬ op = 18) : TH op d A := ⟨fun q => absurd q h1, fun q => absurd q h2⟩
theorem nI5 {n : Nat} : (5 : Int32) * nI n = nI (5 * n) := nI_mul 5 n
theorem vp_in_lt {i : Int32} {n : Nat} (h0 : ¬ i < 0) (h : i.toNatClampNeg < n) : vp_in i n := fun w => w.elim h0 (fun w2 => by omega)
theorem sp_X3_add {S : CST} {T : Nat × Nat} {A : Nat → Prop} {a1 a2 a3 a4 a5 : Int32} {Post : CST → Prop} (hT : S.2 = T) (hd : DrO A S) (ht : TH a1 a2 A) (h : ∀ S' : CST, S'.2 = T → Ex [72, 80] S S' → DrO A S' → Post S') : wp_X3_add S a1 a2 a3 a4 a5 Post := by
  obtain ⟨n, hn, hn2, hh⟩ := hd
  unfold wp_X3_add
  rw [hn, nI5]
  have e1 : nI (5 * n) + 1 = nI (5 * n + 1) := nI_1 _
  have e2 : nI (5 * n) + 2 = nI (5 * n + 2) := nI_add _ 2
  have e3 : nI (5 * n) + 3 = nI (5 * n + 3) := nI_add _ 3
  have e4 : nI (5 * n) + 4 = nI (5 * n + 4) := nI_add _ 4
  have e5 : nI (5 * n) + 5 = nI (5 * n + 5) := nI_add _ 5
  rw [e1, e2, e3, e4, e5]
  refine ⟨fun c => absurd c (Int32.not_lt.mpr (nI_pos' (by omega))), fun _ => ⟨fun c => ?_, fun _ => h S hT Ex.rf ⟨n, hn, hn2, hh⟩⟩⟩
  have hle : 5 * n + 5 ≤ 7555 := Nat.not_lt.mp (fun q => nI_ge (show 7555 < 5 * n + 5 from q) (by omega) c)
  refine ⟨vp_in_nI (by omega) (by omega), ?_⟩
  rintro _ rfl
  refine ⟨vp_in_nI (by omega) (by omega), ?_⟩
  rintro _ rfl
  refine ⟨vp_in_nI (by omega) (by omega), ?_⟩
  rintro _ rfl
  refine ⟨vp_in_nI (by omega) (by omega), ?_⟩
  rintro _ rfl
  refine ⟨vp_in_nI (by omega) (by omega), ?_⟩
  rintro _ rfl
  rintro _ rfl
  refine h _ hT ?_ ?_
  · repeat (first | exact Ex.rf | refine Ex.cs (by decide) ?_)
  · have hu : ∀ (g : Nat → Int32) (t j : Nat) (x : Int32), t < 2 ^ 31 → upd g (nI t).toNatClampNeg x j = if j = t then x else g j := fun g t j x ht => by rw [nI_clamp ht]; rfl
    refine ⟨n + 1, ?_, by omega, fun j hj => ?_⟩
    · rw [cs_s]
      show cv S 72 0 0 + 1 = nI (n + 1)
      rw [hn, nI_1]
    · rw [cs_n (k' := 80) (k := 72) _ _ (fun w => absurd w.1 (by decide))]
      simp only [cs_s]
      simp only [hu _ (5 * n) _ _ (by omega), hu _ (5 * n + 1) _ _ (by omega), hu _ (5 * n + 2) _ _ (by omega), hu _ (5 * n + 3) _ _ (by omega), hu _ (5 * n + 4) _ _ (by omega)]
      by_cases hjn : j = n
      · subst hjn
        rw [if_neg (by omega), if_neg (by omega), if_neg (by omega), if_neg (by omega), if_pos rfl, if_neg (by omega), if_neg (by omega), if_neg (by omega), if_pos rfl]
        exact ht
      · rw [if_neg (by omega), if_neg (by omega), if_neg (by omega), if_neg (by omega), if_neg (by omega), if_neg (by omega), if_neg (by omega), if_neg (by omega), if_neg (by omega), if_neg (by omega)]
        exact hh j (by omega)
theorem cs_2 {S : CST} {T : Nat × Nat} {k i : Nat} {g : Nat → Int32} (h : S.2 = T) : (cs S k i g).2 = T := h
theorem cin_0 {S : CST} : cin S 0 0 := cinS (by decide)
theorem cin_1 {S : CST} : cin S 1 0 := cinS (by decide)
theorem cin_2 {S : CST} : cin S 2 0 := cinS (by decide)
theorem cin_3 {S : CST} : cin S 3 0 := cinS (by decide)
theorem cin_4 {S : CST} : cin S 4 0 := cinS (by decide)
theorem cin_5 {S : CST} : cin S 5 0 := cinS (by decide)
theorem cin_6 {S : CST} : cin S 6 0 := cinS (by decide)
theorem cin_7 {S : CST} : cin S 7 0 := cinS (by decide)
theorem cin_8 {S : CST} : cin S 8 0 := cinS (by decide)
theorem cin_9 {S : CST} : cin S 9 0 := cinS (by decide)
theorem cin_10 {S : CST} : cin S 10 0 := cinS (by decide)
theorem cin_11 {S : CST} : cin S 11 0 := cinS (by decide)
theorem cin_12 {S : CST} : cin S 12 0 := cinS (by decide)
theorem cin_13 {S : CST} : cin S 13 0 := cinS (by decide)
theorem cin_14 {S : CST} : cin S 14 0 := cinS (by decide)
theorem cin_15 {S : CST} : cin S 15 0 := cinS (by decide)
theorem cin_16 {S : CST} : cin S 16 0 := cinS (by decide)
theorem cin_17 {S : CST} : cin S 17 0 := cinS (by decide)
theorem cin_18 {S : CST} : cin S 18 0 := cinS (by decide)
theorem cin_19 {S : CST} : cin S 19 0 := cinS (by decide)
theorem cin_20 {S : CST} : cin S 20 0 := cinS (by decide)
theorem cin_21 {S : CST} : cin S 21 0 := cinS (by decide)
theorem cin_22 {S : CST} {i : Nat} (hi : i < 16) : cin S 22 i := cinF hi (by decide) (by decide)
theorem cin_23 {S : CST} {i : Nat} (hi : i < 16) : cin S 23 i := cinF hi (by decide) (by decide)
theorem cin_24 {S : CST} {T : Nat × Nat} {i : Nat} (hT : S.2 = T) (hi : i < T.1) : cin S 24 i := cinP hT hi (by decide) (by decide)
theorem cin_25 {S : CST} {T : Nat × Nat} {i : Nat} (hT : S.2 = T) (hi : i < T.1) : cin S 25 i := cinP hT hi (by decide) (by decide)
theorem cin_26 {S : CST} {T : Nat × Nat} {i : Nat} (hT : S.2 = T) (hi : i < T.1) : cin S 26 i := cinP hT hi (by decide) (by decide)
theorem cin_27 {S : CST} {T : Nat × Nat} {i : Nat} (hT : S.2 = T) (hi : i < T.1) : cin S 27 i := cinP hT hi (by decide) (by decide)
theorem cin_28 {S : CST} {T : Nat × Nat} {i : Nat} (hT : S.2 = T) (hi : i < T.1) : cin S 28 i := cinP hT hi (by decide) (by decide)
theorem cin_29 {S : CST} {T : Nat × Nat} {i : Nat} (hT : S.2 = T) (hi : i < T.1) : cin S 29 i := cinP hT hi (by decide) (by decide)
theorem cin_30 {S : CST} {T : Nat × Nat} {i : Nat} (hT : S.2 = T) (hi : i < T.1) : cin S 30 i := cinP hT hi (by decide) (by decide)
theorem cin_31 {S : CST} {T : Nat × Nat} {i : Nat} (hT : S.2 = T) (hi : i < T.1) : cin S 31 i := cinP hT hi (by decide) (by decide)
theorem cin_32 {S : CST} {T : Nat × Nat} {i : Nat} (hT : S.2 = T) (hi : i < T.2) : cin S 32 i := cinC hT hi (by decide) (by decide)
theorem cin_33 {S : CST} {T : Nat × Nat} {i : Nat} (hT : S.2 = T) (hi : i < T.2) : cin S 33 i := cinC hT hi (by decide) (by decide)
theorem cin_34 {S : CST} {T : Nat × Nat} {i : Nat} (hT : S.2 = T) (hi : i < T.2) : cin S 34 i := cinC hT hi (by decide) (by decide)
theorem vp_3 {i : Int32} (h1 : ¬ i < 0) (h2 : ¬ 3 ≤ i) : vp_in i 3 := z_in (M := 3) (by decide) h1 h2
theorem vp_4 {i : Int32} (h1 : ¬ i < 0) (h2 : ¬ 4 ≤ i) : vp_in i 4 := z_in (M := 4) (by decide) h1 h2
theorem vp_8 {i : Int32} (h1 : ¬ i < 0) (h2 : ¬ 8 ≤ i) : vp_in i 8 := z_in (M := 8) (by decide) h1 h2
theorem vp_11 {i : Int32} (h1 : ¬ i < 0) (h2 : ¬ 11 ≤ i) : vp_in i 11 := z_in (M := 11) (by decide) h1 h2
theorem vp_15 {i : Int32} (h1 : ¬ i < 0) (h2 : ¬ 15 ≤ i) : vp_in i 15 := z_in (M := 15) (by decide) h1 h2
theorem vp_16 {i : Int32} (h1 : ¬ i < 0) (h2 : ¬ 16 ≤ i) : vp_in i 16 := z_in (M := 16) (by decide) h1 h2
theorem vp_20 {i : Int32} (h1 : ¬ i < 0) (h2 : ¬ 20 ≤ i) : vp_in i 20 := z_in (M := 20) (by decide) h1 h2
theorem vp_60 {i : Int32} (h1 : ¬ i < 0) (h2 : ¬ 60 ≤ i) : vp_in i 60 := z_in (M := 60) (by decide) h1 h2
theorem vp_80 {i : Int32} (h1 : ¬ i < 0) (h2 : ¬ 80 ≤ i) : vp_in i 80 := z_in (M := 80) (by decide) h1 h2
