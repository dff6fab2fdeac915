theorem ne_of_i {r a c : Int32} (h : r = a) (hc : ¬ a = c) : ¬ r = c := fun q => hc (h.symm.trans q)
theorem ag_A {A : Nat → Prop} {S S' : CST} {j : Nat} {L : List Nat} (hA : ∀ k : Nat, k < 11 → ¬ cv S 190 0 k = 0 → A k) (e : Ex L S S') (hL : L.contains 190 = false) (hj : j ≤ 2147483647) (c1 : ¬ 11 ≤ nI j) (c : ¬ cv S' 190 0 (nI j).toNatClampNeg = 0) : j < 11 ∧ A j := by
  have h : j < 11 := Nat.not_le.mp (fun q => c1 (nI_le (a := 11) q (by omega)))
  rw [nI_clamp (by omega), e.2 190 hL] at c
  exact ⟨h, hA j h c⟩

theorem sp_X9_isStoredKnown {S : CST} {A : Nat → Prop} {a1 : Int32} {a2 : Int32} {a3 : Int32} {T : Nat × Nat} {Post : CST → Int32 → Prop} (hT : S.2 = T) (hd : DrO A S) (h : ∀ (S' : CST) (r : Int32), S'.2 = T → Ex [72, 80, 160, 170] S S' → DrO A S' → Post S' r) : wp_X9_isStoredKnown S a1 a2 a3 Post := by
  unfold wp_X9_isStoredKnown
  repeat (any_goals (first
    | with_reducible refine ⟨?_, ?_⟩
    | with_reducible rintro _ rfl
    | with_reducible intro _
    | (refine h _ _ ?_ (by (repeat (first | with_reducible exact Ex.rf | with_reducible assumption | with_reducible refine Ex.cs (by decide) ?_ | with_reducible refine Ex.step (by assumption) (by decide) ?_)); done) (by (repeat (first | with_reducible assumption | with_reducible refine DrO.cs ?_ (by decide) | with_reducible refine DrO.ex ?_ (by assumption) (by decide))); done))
    | with_reducible exact TH_of (by decide) (by decide)
    | with_reducible exact TH_rk (by assumption) (by assumption)
    | with_reducible exact TH_18 (ag_A (by assumption) (by assumption) rfl (by omega) (by assumption) (by assumption)).1 (ag_A (by assumption) (by assumption) rfl (by omega) (by assumption) (by assumption)).2
    | with_reducible exact TH_17 (ag_A (by assumption) (by assumption) rfl (by omega) (by assumption) (by assumption)).1 (ag_A (by assumption) (by assumption) rfl (by omega) (by assumption) (by assumption)).2
    | ((repeat (first | with_reducible assumption | with_reducible refine DrO.cs ?_ (by decide) | with_reducible refine DrO.ex ?_ (by assumption) (by decide))); done)
    | with_reducible refine sp_X9_isKnown  (fun _ => ?_)
    | with_reducible refine sp_X9_worthOf  (fun _ => ?_)
    | with_reducible refine sp_X3_add (T := T) (A := A) ?_ ?_ ?_ (fun _ _ _ _ => ?_)
    | with_reducible refine sp_X9_know (T := T) ?_ (fun _ _ _ => ?_)
    | with_reducible refine sp_X9_forget (T := T) ?_ (fun _ _ _ => ?_)
    | with_reducible assumption
    | with_reducible exact cin_0
    | with_reducible exact cin_1
    | with_reducible exact cin_2
    | with_reducible exact cin_3
    | with_reducible exact cin_4
    | with_reducible exact cin_5
    | with_reducible exact cin_6
    | with_reducible exact cin_7
    | with_reducible exact cin_8
    | with_reducible exact cin_9
    | with_reducible exact cin_10
    | with_reducible exact cin_11
    | with_reducible exact cin_12
    | with_reducible exact cin_13
    | with_reducible exact cin_14
    | with_reducible exact cin_15
    | with_reducible exact cin_16
    | with_reducible exact cin_17
    | with_reducible exact cin_18
    | with_reducible exact cin_19
    | with_reducible exact cin_20
    | with_reducible exact cin_21
    | with_reducible refine cin_22 ?_
    | with_reducible refine cin_23 ?_
    | with_reducible refine cin_24 (T := T) ?_ ?_
    | with_reducible refine cin_25 (T := T) ?_ ?_
    | with_reducible refine cin_26 (T := T) ?_ ?_
    | with_reducible refine cin_27 (T := T) ?_ ?_
    | with_reducible refine cin_28 (T := T) ?_ ?_
    | with_reducible refine cin_29 (T := T) ?_ ?_
    | with_reducible refine cin_30 (T := T) ?_ ?_
    | with_reducible refine cin_31 (T := T) ?_ ?_
    | with_reducible refine cin_32 (T := T) ?_ ?_
    | with_reducible refine cin_33 (T := T) ?_ ?_
    | with_reducible refine cin_34 (T := T) ?_ ?_
    | with_reducible refine cs_2 ?_
    | with_reducible exact vid_lt (by assumption) (by assumption)
    | with_reducible exact vp_c0
    | with_reducible exact vp_c1
    | with_reducible exact vp_c2
    | with_reducible exact vp_item (by assumption) (by assumption) (by assumption) (by assumption)
    | with_reducible exact has_vp (by assumption) (by assumption)
    | with_reducible exact dead_vp (by assumption) (by assumption)
    | with_reducible exact lw_vp (by assumption) (by assumption)
    | with_reducible refine vp_3 ?_ ?_
    | with_reducible refine vp_4 ?_ ?_
    | with_reducible refine vp_8 ?_ ?_
    | with_reducible refine vp_11 ?_ ?_
    | with_reducible refine vp_15 ?_ ?_
    | with_reducible refine vp_16 ?_ ?_
    | with_reducible refine vp_20 ?_ ?_
    | with_reducible refine vp_60 ?_ ?_
    | with_reducible refine vp_80 ?_ ?_
    | contradiction))

theorem lp_X9_lay_7 {S : CST} {K : CST → Prop} {A : Nat → Prop} {x2 x3 : Int32} {Post : CST → Prop} {T : Nat × Nat} (hK : ∀ S' : CST, S'.2 = T → Ex [72, 80, 160] S S' → DrO A S' → K S')  : ∀ (n j : Nat) (S' : CST), j + n = 2147483647 → S'.2 = T → Ex [72, 80, 160] S S' → DrO A S' → wl_X9_lay_7 K Post (n + 1) S' x2 x3 (nI j) := by
  intro n
  induction n with
  | zero =>
    intro j S' hj s0 s1 s2
    have hneg : ¬ nI j < 0 := nI_nn j (by omega)
    have hz : ∀ r : Int32, r ≤ nI j := by
      obtain rfl : j = 2147483647 := by omega
      exact z_max
    unfold wl_X9_lay_7
    repeat (any_goals (first
      | with_reducible refine ⟨?_, ?_⟩
      | with_reducible rintro _ rfl
      | with_reducible intro _
      | exact absurd (hz _) (by assumption)
      | (refine hK _ ?_ (by (repeat (first | with_reducible exact Ex.rf | with_reducible assumption | with_reducible refine Ex.cs (by decide) ?_ | with_reducible refine Ex.step (by assumption) (by decide) ?_)); done) (by (repeat (first | with_reducible assumption | with_reducible refine DrO.cs ?_ (by decide) | with_reducible refine DrO.ex ?_ (by assumption) (by decide))); done))
      | with_reducible exact TH_of (by decide) (by decide)
      | with_reducible exact TH_rk (by assumption) (by assumption)
      | with_reducible exact TH_18 (ag_A (by assumption) (by assumption) rfl (by omega) (by assumption) (by assumption)).1 (ag_A (by assumption) (by assumption) rfl (by omega) (by assumption) (by assumption)).2
      | with_reducible exact TH_17 (ag_A (by assumption) (by assumption) rfl (by omega) (by assumption) (by assumption)).1 (ag_A (by assumption) (by assumption) rfl (by omega) (by assumption) (by assumption)).2
      | ((repeat (first | with_reducible assumption | with_reducible refine DrO.cs ?_ (by decide) | with_reducible refine DrO.ex ?_ (by assumption) (by decide))); done)
      | ((repeat (first | with_reducible exact Ex.rf | with_reducible assumption | with_reducible refine Ex.cs (by decide) ?_ | with_reducible refine Ex.step (by assumption) (by decide) ?_)); done)
      | with_reducible refine sp_X3_add (T := T) (A := A) ?_ ?_ ?_ (fun _ _ _ _ => ?_)
      | with_reducible assumption
      | with_reducible exact cin_0
      | with_reducible exact cin_1
      | with_reducible exact cin_2
      | with_reducible exact cin_3
      | with_reducible exact cin_4
      | with_reducible exact cin_5
      | with_reducible exact cin_6
      | with_reducible exact cin_7
      | with_reducible exact cin_8
      | with_reducible exact cin_9
      | with_reducible exact cin_10
      | with_reducible exact cin_11
      | with_reducible exact cin_12
      | with_reducible exact cin_13
      | with_reducible exact cin_14
      | with_reducible exact cin_15
      | with_reducible exact cin_16
      | with_reducible exact cin_17
      | with_reducible exact cin_18
      | with_reducible exact cin_19
      | with_reducible exact cin_20
      | with_reducible exact cin_21
      | with_reducible refine cin_22 ?_
      | with_reducible refine cin_23 ?_
      | with_reducible refine cin_24 (T := T) ?_ ?_
      | with_reducible refine cin_25 (T := T) ?_ ?_
      | with_reducible refine cin_26 (T := T) ?_ ?_
      | with_reducible refine cin_27 (T := T) ?_ ?_
      | with_reducible refine cin_28 (T := T) ?_ ?_
      | with_reducible refine cin_29 (T := T) ?_ ?_
      | with_reducible refine cin_30 (T := T) ?_ ?_
      | with_reducible refine cin_31 (T := T) ?_ ?_
      | with_reducible refine cin_32 (T := T) ?_ ?_
      | with_reducible refine cin_33 (T := T) ?_ ?_
      | with_reducible refine cin_34 (T := T) ?_ ?_
      | with_reducible refine cs_2 ?_
      | with_reducible exact vid_lt (by assumption) (by assumption)
      | with_reducible exact vp_c0
      | with_reducible exact vp_c1
      | with_reducible exact vp_c2
      | with_reducible exact vp_item (by assumption) (by assumption) (by assumption) (by assumption)
      | with_reducible exact has_vp (by assumption) (by assumption)
      | with_reducible exact dead_vp (by assumption) (by assumption)
      | with_reducible exact lw_vp (by assumption) (by assumption)
      | with_reducible refine vp_3 ?_ ?_
      | with_reducible refine vp_4 ?_ ?_
      | with_reducible refine vp_8 ?_ ?_
      | with_reducible refine vp_11 ?_ ?_
      | with_reducible refine vp_15 ?_ ?_
      | with_reducible refine vp_16 ?_ ?_
      | with_reducible refine vp_20 ?_ ?_
      | with_reducible refine vp_60 ?_ ?_
      | with_reducible refine vp_80 ?_ ?_
      | contradiction))
  | succ n ih =>
    intro j S' hj s0 s1 s2
    have hneg : ¬ nI j < 0 := nI_nn j (by omega)
    unfold wl_X9_lay_7
    repeat (any_goals (first
      | with_reducible refine ⟨?_, ?_⟩
      | with_reducible rintro _ rfl
      | with_reducible intro _
      | (rw [nI_1]; refine ih (j + 1) _ (by omega) ?_ ?_ ?_)
      | (refine hK _ ?_ (by (repeat (first | with_reducible exact Ex.rf | with_reducible assumption | with_reducible refine Ex.cs (by decide) ?_ | with_reducible refine Ex.step (by assumption) (by decide) ?_)); done) (by (repeat (first | with_reducible assumption | with_reducible refine DrO.cs ?_ (by decide) | with_reducible refine DrO.ex ?_ (by assumption) (by decide))); done))
      | with_reducible exact TH_of (by decide) (by decide)
      | with_reducible exact TH_rk (by assumption) (by assumption)
      | with_reducible exact TH_18 (ag_A (by assumption) (by assumption) rfl (by omega) (by assumption) (by assumption)).1 (ag_A (by assumption) (by assumption) rfl (by omega) (by assumption) (by assumption)).2
      | with_reducible exact TH_17 (ag_A (by assumption) (by assumption) rfl (by omega) (by assumption) (by assumption)).1 (ag_A (by assumption) (by assumption) rfl (by omega) (by assumption) (by assumption)).2
      | ((repeat (first | with_reducible assumption | with_reducible refine DrO.cs ?_ (by decide) | with_reducible refine DrO.ex ?_ (by assumption) (by decide))); done)
      | ((repeat (first | with_reducible exact Ex.rf | with_reducible assumption | with_reducible refine Ex.cs (by decide) ?_ | with_reducible refine Ex.step (by assumption) (by decide) ?_)); done)
      | with_reducible refine sp_X3_add (T := T) (A := A) ?_ ?_ ?_ (fun _ _ _ _ => ?_)
      | with_reducible assumption
      | with_reducible exact cin_0
      | with_reducible exact cin_1
      | with_reducible exact cin_2
      | with_reducible exact cin_3
      | with_reducible exact cin_4
      | with_reducible exact cin_5
      | with_reducible exact cin_6
      | with_reducible exact cin_7
      | with_reducible exact cin_8
      | with_reducible exact cin_9
      | with_reducible exact cin_10
      | with_reducible exact cin_11
      | with_reducible exact cin_12
      | with_reducible exact cin_13
      | with_reducible exact cin_14
      | with_reducible exact cin_15
      | with_reducible exact cin_16
      | with_reducible exact cin_17
      | with_reducible exact cin_18
      | with_reducible exact cin_19
      | with_reducible exact cin_20
      | with_reducible exact cin_21
      | with_reducible refine cin_22 ?_
      | with_reducible refine cin_23 ?_
      | with_reducible refine cin_24 (T := T) ?_ ?_
      | with_reducible refine cin_25 (T := T) ?_ ?_
      | with_reducible refine cin_26 (T := T) ?_ ?_
      | with_reducible refine cin_27 (T := T) ?_ ?_
      | with_reducible refine cin_28 (T := T) ?_ ?_
      | with_reducible refine cin_29 (T := T) ?_ ?_
      | with_reducible refine cin_30 (T := T) ?_ ?_
      | with_reducible refine cin_31 (T := T) ?_ ?_
      | with_reducible refine cin_32 (T := T) ?_ ?_
      | with_reducible refine cin_33 (T := T) ?_ ?_
      | with_reducible refine cin_34 (T := T) ?_ ?_
      | with_reducible refine cs_2 ?_
      | with_reducible exact vid_lt (by assumption) (by assumption)
      | with_reducible exact vp_c0
      | with_reducible exact vp_c1
      | with_reducible exact vp_c2
      | with_reducible exact vp_item (by assumption) (by assumption) (by assumption) (by assumption)
      | with_reducible exact has_vp (by assumption) (by assumption)
      | with_reducible exact dead_vp (by assumption) (by assumption)
      | with_reducible exact lw_vp (by assumption) (by assumption)
      | with_reducible refine vp_3 ?_ ?_
      | with_reducible refine vp_4 ?_ ?_
      | with_reducible refine vp_8 ?_ ?_
      | with_reducible refine vp_11 ?_ ?_
      | with_reducible refine vp_15 ?_ ?_
      | with_reducible refine vp_16 ?_ ?_
      | with_reducible refine vp_20 ?_ ?_
      | with_reducible refine vp_60 ?_ ?_
      | with_reducible refine vp_80 ?_ ?_
      | contradiction))

theorem sp_X9_lay {S : CST} {A : Nat → Prop} {a1 a2 a3 : Int32} {T : Nat × Nat} {Post : CST → Prop} (hT : S.2 = T) (hd : DrO A S) (h : ∀ S' : CST, S'.2 = T → Ex [72, 80, 160] S S' → DrO A S' → Post S') : wp_X9_lay S a1 a2 a3 Post := by
  obtain ⟨j, hj, hj2⟩ := nI_ofc (z_mx0 a1)
  unfold wp_X9_lay
  rw [hj]
  exact ⟨2147483647 - j + 1, lp_X9_lay_7 h _ j S (by omega) hT Ex.rf hd⟩

theorem lp_X9_addGuards_7 {S : CST} {K : CST → Prop} {A : Nat → Prop} {i : Nat} {x3 : Int32} {Post : CST → Prop} {T : Nat × Nat} (hi : i < T.1) (hA : ∀ k : Nat, k < 11 → ¬ cv S 190 0 k = 0 → A k) (hK : ∀ S' : CST, S'.2 = T → Ex [72, 80] S S' → DrO A S' → K S')  : ∀ (n j : Nat) (S' : CST), j + n = 2147483647 → S'.2 = T → Ex [72, 80] S S' → DrO A S' → wl_X9_addGuards_7 K Post (n + 1) S' i x3 (nI j) := by
  intro n
  induction n with
  | zero =>
    intro j S' hj s0 s1 s2
    have hneg : ¬ nI j < 0 := nI_nn j (by omega)
    have hz : ∀ r : Int32, r ≤ nI j := by
      obtain rfl : j = 2147483647 := by omega
      exact z_max
    unfold wl_X9_addGuards_7
    repeat (any_goals (first
      | with_reducible refine ⟨?_, ?_⟩
      | with_reducible rintro _ rfl
      | with_reducible intro _
      | exact absurd (hz _) (by assumption)
      | (refine hK _ ?_ (by (repeat (first | with_reducible exact Ex.rf | with_reducible assumption | with_reducible refine Ex.cs (by decide) ?_ | with_reducible refine Ex.step (by assumption) (by decide) ?_)); done) (by (repeat (first | with_reducible assumption | with_reducible refine DrO.cs ?_ (by decide) | with_reducible refine DrO.ex ?_ (by assumption) (by decide))); done))
      | with_reducible exact TH_of (by decide) (by decide)
      | with_reducible exact TH_rk (by assumption) (by assumption)
      | with_reducible exact TH_18 (ag_A (by assumption) (by assumption) rfl (by omega) (by assumption) (by assumption)).1 (ag_A (by assumption) (by assumption) rfl (by omega) (by assumption) (by assumption)).2
      | with_reducible exact TH_17 (ag_A (by assumption) (by assumption) rfl (by omega) (by assumption) (by assumption)).1 (ag_A (by assumption) (by assumption) rfl (by omega) (by assumption) (by assumption)).2
      | ((repeat (first | with_reducible assumption | with_reducible refine DrO.cs ?_ (by decide) | with_reducible refine DrO.ex ?_ (by assumption) (by decide))); done)
      | ((repeat (first | with_reducible exact Ex.rf | with_reducible assumption | with_reducible refine Ex.cs (by decide) ?_ | with_reducible refine Ex.step (by assumption) (by decide) ?_)); done)
      | with_reducible refine sp_X3_add (T := T) (A := A) ?_ ?_ ?_ (fun _ _ _ _ => ?_)
      | with_reducible refine sp_X5_valueOf (T := T) ?_ ?_ (fun _ => ?_)
      | with_reducible assumption
      | with_reducible exact cin_0
      | with_reducible exact cin_1
      | with_reducible exact cin_2
      | with_reducible exact cin_3
      | with_reducible exact cin_4
      | with_reducible exact cin_5
      | with_reducible exact cin_6
      | with_reducible exact cin_7
      | with_reducible exact cin_8
      | with_reducible exact cin_9
      | with_reducible exact cin_10
      | with_reducible exact cin_11
      | with_reducible exact cin_12
      | with_reducible exact cin_13
      | with_reducible exact cin_14
      | with_reducible exact cin_15
      | with_reducible exact cin_16
      | with_reducible exact cin_17
      | with_reducible exact cin_18
      | with_reducible exact cin_19
      | with_reducible exact cin_20
      | with_reducible exact cin_21
      | with_reducible refine cin_22 ?_
      | with_reducible refine cin_23 ?_
      | with_reducible refine cin_24 (T := T) ?_ ?_
      | with_reducible refine cin_25 (T := T) ?_ ?_
      | with_reducible refine cin_26 (T := T) ?_ ?_
      | with_reducible refine cin_27 (T := T) ?_ ?_
      | with_reducible refine cin_28 (T := T) ?_ ?_
      | with_reducible refine cin_29 (T := T) ?_ ?_
      | with_reducible refine cin_30 (T := T) ?_ ?_
      | with_reducible refine cin_31 (T := T) ?_ ?_
      | with_reducible refine cin_32 (T := T) ?_ ?_
      | with_reducible refine cin_33 (T := T) ?_ ?_
      | with_reducible refine cin_34 (T := T) ?_ ?_
      | with_reducible refine cs_2 ?_
      | with_reducible exact vid_lt (by assumption) (by assumption)
      | with_reducible exact vp_c0
      | with_reducible exact vp_c1
      | with_reducible exact vp_c2
      | with_reducible exact vp_item (by assumption) (by assumption) (by assumption) (by assumption)
      | with_reducible exact has_vp (by assumption) (by assumption)
      | with_reducible exact dead_vp (by assumption) (by assumption)
      | with_reducible exact lw_vp (by assumption) (by assumption)
      | with_reducible refine vp_3 ?_ ?_
      | with_reducible refine vp_4 ?_ ?_
      | with_reducible refine vp_8 ?_ ?_
      | with_reducible refine vp_11 ?_ ?_
      | with_reducible refine vp_15 ?_ ?_
      | with_reducible refine vp_16 ?_ ?_
      | with_reducible refine vp_20 ?_ ?_
      | with_reducible refine vp_60 ?_ ?_
      | with_reducible refine vp_80 ?_ ?_
      | contradiction))
  | succ n ih =>
    intro j S' hj s0 s1 s2
    have hneg : ¬ nI j < 0 := nI_nn j (by omega)
    unfold wl_X9_addGuards_7
    repeat (any_goals (first
      | with_reducible refine ⟨?_, ?_⟩
      | with_reducible rintro _ rfl
      | with_reducible intro _
      | (rw [nI_1]; refine ih (j + 1) _ (by omega) ?_ ?_ ?_)
      | (refine hK _ ?_ (by (repeat (first | with_reducible exact Ex.rf | with_reducible assumption | with_reducible refine Ex.cs (by decide) ?_ | with_reducible refine Ex.step (by assumption) (by decide) ?_)); done) (by (repeat (first | with_reducible assumption | with_reducible refine DrO.cs ?_ (by decide) | with_reducible refine DrO.ex ?_ (by assumption) (by decide))); done))
      | with_reducible exact TH_of (by decide) (by decide)
      | with_reducible exact TH_rk (by assumption) (by assumption)
      | with_reducible exact TH_18 (ag_A (by assumption) (by assumption) rfl (by omega) (by assumption) (by assumption)).1 (ag_A (by assumption) (by assumption) rfl (by omega) (by assumption) (by assumption)).2
      | with_reducible exact TH_17 (ag_A (by assumption) (by assumption) rfl (by omega) (by assumption) (by assumption)).1 (ag_A (by assumption) (by assumption) rfl (by omega) (by assumption) (by assumption)).2
      | ((repeat (first | with_reducible assumption | with_reducible refine DrO.cs ?_ (by decide) | with_reducible refine DrO.ex ?_ (by assumption) (by decide))); done)
      | ((repeat (first | with_reducible exact Ex.rf | with_reducible assumption | with_reducible refine Ex.cs (by decide) ?_ | with_reducible refine Ex.step (by assumption) (by decide) ?_)); done)
      | with_reducible refine sp_X3_add (T := T) (A := A) ?_ ?_ ?_ (fun _ _ _ _ => ?_)
      | with_reducible refine sp_X5_valueOf (T := T) ?_ ?_ (fun _ => ?_)
      | with_reducible assumption
      | with_reducible exact cin_0
      | with_reducible exact cin_1
      | with_reducible exact cin_2
      | with_reducible exact cin_3
      | with_reducible exact cin_4
      | with_reducible exact cin_5
      | with_reducible exact cin_6
      | with_reducible exact cin_7
      | with_reducible exact cin_8
      | with_reducible exact cin_9
      | with_reducible exact cin_10
      | with_reducible exact cin_11
      | with_reducible exact cin_12
      | with_reducible exact cin_13
      | with_reducible exact cin_14
      | with_reducible exact cin_15
      | with_reducible exact cin_16
      | with_reducible exact cin_17
      | with_reducible exact cin_18
      | with_reducible exact cin_19
      | with_reducible exact cin_20
      | with_reducible exact cin_21
      | with_reducible refine cin_22 ?_
      | with_reducible refine cin_23 ?_
      | with_reducible refine cin_24 (T := T) ?_ ?_
      | with_reducible refine cin_25 (T := T) ?_ ?_
      | with_reducible refine cin_26 (T := T) ?_ ?_
      | with_reducible refine cin_27 (T := T) ?_ ?_
      | with_reducible refine cin_28 (T := T) ?_ ?_
      | with_reducible refine cin_29 (T := T) ?_ ?_
      | with_reducible refine cin_30 (T := T) ?_ ?_
      | with_reducible refine cin_31 (T := T) ?_ ?_
      | with_reducible refine cin_32 (T := T) ?_ ?_
      | with_reducible refine cin_33 (T := T) ?_ ?_
      | with_reducible refine cin_34 (T := T) ?_ ?_
      | with_reducible refine cs_2 ?_
      | with_reducible exact vid_lt (by assumption) (by assumption)
      | with_reducible exact vp_c0
      | with_reducible exact vp_c1
      | with_reducible exact vp_c2
      | with_reducible exact vp_item (by assumption) (by assumption) (by assumption) (by assumption)
      | with_reducible exact has_vp (by assumption) (by assumption)
      | with_reducible exact dead_vp (by assumption) (by assumption)
      | with_reducible exact lw_vp (by assumption) (by assumption)
      | with_reducible refine vp_3 ?_ ?_
      | with_reducible refine vp_4 ?_ ?_
      | with_reducible refine vp_8 ?_ ?_
      | with_reducible refine vp_11 ?_ ?_
      | with_reducible refine vp_15 ?_ ?_
      | with_reducible refine vp_16 ?_ ?_
      | with_reducible refine vp_20 ?_ ?_
      | with_reducible refine vp_60 ?_ ?_
      | with_reducible refine vp_80 ?_ ?_
      | contradiction))

theorem sp_X9_addGuards {S : CST} {A : Nat → Prop} {i1 : Nat} {a2 a3 : Int32} {T : Nat × Nat} {Post : CST → Prop} (hT : S.2 = T) (hi : i1 < T.1) (hA : ∀ k : Nat, k < 11 → ¬ cv S 190 0 k = 0 → A k) (hd : DrO A S) (h : ∀ S' : CST, S'.2 = T → Ex [72, 80] S S' → DrO A S' → Post S') : wp_X9_addGuards S i1 a2 a3 Post := by
  obtain ⟨j, hj, hj2⟩ := nI_ofc (z_mx0 a2)
  unfold wp_X9_addGuards
  rw [hj]
  exact ⟨2147483647 - j + 1, lp_X9_addGuards_7 hi hA h _ j S (by omega) hT Ex.rf hd⟩

theorem sp_X9_isWaySure {S : CST} {A : Nat → Prop} {a1 : Int32} {a2 : Int32} {a3 : Int32} {T : Nat × Nat} {Post : CST → Int32 → Prop} (hT : S.2 = T) (hd : DrO A S) (h : ∀ (S' : CST) (r : Int32), S'.2 = T → Ex [72, 80, 160] S S' → DrO A S' → Post S' r) : wp_X9_isWaySure S a1 a2 a3 Post := by
  unfold wp_X9_isWaySure
  repeat (any_goals (first
    | with_reducible refine ⟨?_, ?_⟩
    | with_reducible rintro _ rfl
    | with_reducible intro _
    | (refine h _ _ ?_ (by (repeat (first | with_reducible exact Ex.rf | with_reducible assumption | with_reducible refine Ex.cs (by decide) ?_ | with_reducible refine Ex.step (by assumption) (by decide) ?_)); done) (by (repeat (first | with_reducible assumption | with_reducible refine DrO.cs ?_ (by decide) | with_reducible refine DrO.ex ?_ (by assumption) (by decide))); done))
    | with_reducible exact TH_of (by decide) (by decide)
    | with_reducible exact TH_rk (by assumption) (by assumption)
    | with_reducible exact TH_18 (ag_A (by assumption) (by assumption) rfl (by omega) (by assumption) (by assumption)).1 (ag_A (by assumption) (by assumption) rfl (by omega) (by assumption) (by assumption)).2
    | with_reducible exact TH_17 (ag_A (by assumption) (by assumption) rfl (by omega) (by assumption) (by assumption)).1 (ag_A (by assumption) (by assumption) rfl (by omega) (by assumption) (by assumption)).2
    | ((repeat (first | with_reducible assumption | with_reducible refine DrO.cs ?_ (by decide) | with_reducible refine DrO.ex ?_ (by assumption) (by decide))); done)
    | with_reducible refine sp_X9_isKnown  (fun _ => ?_)
    | with_reducible refine sp_X9_forget (T := T) ?_ (fun _ _ _ => ?_)
    | with_reducible refine sp_X9_worthOf  (fun _ => ?_)
    | with_reducible refine sp_X9_lay (T := T) (A := A) ?_ ?_ (fun _ _ _ _ => ?_)
    | with_reducible refine sp_X3_add (T := T) (A := A) ?_ ?_ ?_ (fun _ _ _ _ => ?_)
    | with_reducible assumption
    | with_reducible exact cin_0
    | with_reducible exact cin_1
    | with_reducible exact cin_2
    | with_reducible exact cin_3
    | with_reducible exact cin_4
    | with_reducible exact cin_5
    | with_reducible exact cin_6
    | with_reducible exact cin_7
    | with_reducible exact cin_8
    | with_reducible exact cin_9
    | with_reducible exact cin_10
    | with_reducible exact cin_11
    | with_reducible exact cin_12
    | with_reducible exact cin_13
    | with_reducible exact cin_14
    | with_reducible exact cin_15
    | with_reducible exact cin_16
    | with_reducible exact cin_17
    | with_reducible exact cin_18
    | with_reducible exact cin_19
    | with_reducible exact cin_20
    | with_reducible exact cin_21
    | with_reducible refine cin_22 ?_
    | with_reducible refine cin_23 ?_
    | with_reducible refine cin_24 (T := T) ?_ ?_
    | with_reducible refine cin_25 (T := T) ?_ ?_
    | with_reducible refine cin_26 (T := T) ?_ ?_
    | with_reducible refine cin_27 (T := T) ?_ ?_
    | with_reducible refine cin_28 (T := T) ?_ ?_
    | with_reducible refine cin_29 (T := T) ?_ ?_
    | with_reducible refine cin_30 (T := T) ?_ ?_
    | with_reducible refine cin_31 (T := T) ?_ ?_
    | with_reducible refine cin_32 (T := T) ?_ ?_
    | with_reducible refine cin_33 (T := T) ?_ ?_
    | with_reducible refine cin_34 (T := T) ?_ ?_
    | with_reducible refine cs_2 ?_
    | with_reducible exact vid_lt (by assumption) (by assumption)
    | with_reducible exact vp_c0
    | with_reducible exact vp_c1
    | with_reducible exact vp_c2
    | with_reducible exact vp_item (by assumption) (by assumption) (by assumption) (by assumption)
    | with_reducible exact has_vp (by assumption) (by assumption)
    | with_reducible exact dead_vp (by assumption) (by assumption)
    | with_reducible exact lw_vp (by assumption) (by assumption)
    | with_reducible refine vp_3 ?_ ?_
    | with_reducible refine vp_4 ?_ ?_
    | with_reducible refine vp_8 ?_ ?_
    | with_reducible refine vp_11 ?_ ?_
    | with_reducible refine vp_15 ?_ ?_
    | with_reducible refine vp_16 ?_ ?_
    | with_reducible refine vp_20 ?_ ?_
    | with_reducible refine vp_60 ?_ ?_
    | with_reducible refine vp_80 ?_ ?_
    | contradiction))

theorem sp_X9_isResultKnown {S : CST} {A : Nat → Prop} {a1 : Int32} {a2 : Int32} {a3 : Int32} {a4 : Int32} {T : Nat × Nat} {Post : CST → Int32 → Prop} (hT : S.2 = T) (hd : DrO A S) (h : ∀ (S' : CST) (r : Int32), S'.2 = T → Ex [72, 80, 160, 170] S S' → DrO A S' → Post S' r) : wp_X9_isResultKnown S a1 a2 a3 a4 Post := by
  unfold wp_X9_isResultKnown
  repeat (any_goals (first
    | with_reducible refine ⟨?_, ?_⟩
    | with_reducible rintro _ rfl
    | with_reducible intro _
    | (refine h _ _ ?_ (by (repeat (first | with_reducible exact Ex.rf | with_reducible assumption | with_reducible refine Ex.cs (by decide) ?_ | with_reducible refine Ex.step (by assumption) (by decide) ?_)); done) (by (repeat (first | with_reducible assumption | with_reducible refine DrO.cs ?_ (by decide) | with_reducible refine DrO.ex ?_ (by assumption) (by decide))); done))
    | with_reducible exact TH_of (by decide) (by decide)
    | with_reducible exact TH_rk (by assumption) (by assumption)
    | with_reducible exact TH_18 (ag_A (by assumption) (by assumption) rfl (by omega) (by assumption) (by assumption)).1 (ag_A (by assumption) (by assumption) rfl (by omega) (by assumption) (by assumption)).2
    | with_reducible exact TH_17 (ag_A (by assumption) (by assumption) rfl (by omega) (by assumption) (by assumption)).1 (ag_A (by assumption) (by assumption) rfl (by omega) (by assumption) (by assumption)).2
    | ((repeat (first | with_reducible assumption | with_reducible refine DrO.cs ?_ (by decide) | with_reducible refine DrO.ex ?_ (by assumption) (by decide))); done)
    | with_reducible refine sp_X9_isKnown  (fun _ => ?_)
    | with_reducible refine sp_X9_forget (T := T) ?_ (fun _ _ _ => ?_)
    | with_reducible refine sp_X9_worthOf  (fun _ => ?_)
    | with_reducible refine sp_X9_lay (T := T) (A := A) ?_ ?_ (fun _ _ _ _ => ?_)
    | with_reducible refine sp_X11_reckoned (fun _ => ?_)
    | with_reducible refine sp_X9_know (T := T) ?_ (fun _ _ _ => ?_)
    | with_reducible assumption
    | with_reducible exact cin_0
    | with_reducible exact cin_1
    | with_reducible exact cin_2
    | with_reducible exact cin_3
    | with_reducible exact cin_4
    | with_reducible exact cin_5
    | with_reducible exact cin_6
    | with_reducible exact cin_7
    | with_reducible exact cin_8
    | with_reducible exact cin_9
    | with_reducible exact cin_10
    | with_reducible exact cin_11
    | with_reducible exact cin_12
    | with_reducible exact cin_13
    | with_reducible exact cin_14
    | with_reducible exact cin_15
    | with_reducible exact cin_16
    | with_reducible exact cin_17
    | with_reducible exact cin_18
    | with_reducible exact cin_19
    | with_reducible exact cin_20
    | with_reducible exact cin_21
    | with_reducible refine cin_22 ?_
    | with_reducible refine cin_23 ?_
    | with_reducible refine cin_24 (T := T) ?_ ?_
    | with_reducible refine cin_25 (T := T) ?_ ?_
    | with_reducible refine cin_26 (T := T) ?_ ?_
    | with_reducible refine cin_27 (T := T) ?_ ?_
    | with_reducible refine cin_28 (T := T) ?_ ?_
    | with_reducible refine cin_29 (T := T) ?_ ?_
    | with_reducible refine cin_30 (T := T) ?_ ?_
    | with_reducible refine cin_31 (T := T) ?_ ?_
    | with_reducible refine cin_32 (T := T) ?_ ?_
    | with_reducible refine cin_33 (T := T) ?_ ?_
    | with_reducible refine cin_34 (T := T) ?_ ?_
    | with_reducible refine cs_2 ?_
    | with_reducible exact vid_lt (by assumption) (by assumption)
    | with_reducible exact vp_c0
    | with_reducible exact vp_c1
    | with_reducible exact vp_c2
    | with_reducible exact vp_item (by assumption) (by assumption) (by assumption) (by assumption)
    | with_reducible exact has_vp (by assumption) (by assumption)
    | with_reducible exact dead_vp (by assumption) (by assumption)
    | with_reducible exact lw_vp (by assumption) (by assumption)
    | with_reducible refine vp_3 ?_ ?_
    | with_reducible refine vp_4 ?_ ?_
    | with_reducible refine vp_8 ?_ ?_
    | with_reducible refine vp_11 ?_ ?_
    | with_reducible refine vp_15 ?_ ?_
    | with_reducible refine vp_16 ?_ ?_
    | with_reducible refine vp_20 ?_ ?_
    | with_reducible refine vp_60 ?_ ?_
    | with_reducible refine vp_80 ?_ ?_
    | contradiction))

theorem sp_X3_addReckoning {S : CST} {A : Nat → Prop} {a1 : Int32} {a2 : Int32} {a3 : Int32} {a4 : Int32} {T : Nat × Nat} {Post : CST → Prop} (hT : S.2 = T) (hd : DrO A S) (h18 : ¬ a1 = 18) (h19 : ¬ a1 = 19) (h : ∀ (S' : CST), S'.2 = T → Ex [72, 80] S S' → DrO A S' → Post S') : wp_X3_addReckoning S a1 a2 a3 a4 Post := by
  unfold wp_X3_addReckoning
  repeat (any_goals (first
    | with_reducible refine ⟨?_, ?_⟩
    | with_reducible rintro _ rfl
    | with_reducible intro _
    | (refine h _ ?_ (by (repeat (first | with_reducible exact Ex.rf | with_reducible assumption | with_reducible refine Ex.cs (by decide) ?_ | with_reducible refine Ex.step (by assumption) (by decide) ?_)); done) (by (repeat (first | with_reducible assumption | with_reducible refine DrO.cs ?_ (by decide) | with_reducible refine DrO.ex ?_ (by assumption) (by decide))); done))
    | with_reducible exact TH_of (by decide) (by decide)
    | with_reducible exact TH_rk (by assumption) (by assumption)
    | with_reducible exact TH_18 (ag_A (by assumption) (by assumption) rfl (by omega) (by assumption) (by assumption)).1 (ag_A (by assumption) (by assumption) rfl (by omega) (by assumption) (by assumption)).2
    | with_reducible exact TH_17 (ag_A (by assumption) (by assumption) rfl (by omega) (by assumption) (by assumption)).1 (ag_A (by assumption) (by assumption) rfl (by omega) (by assumption) (by assumption)).2
    | ((repeat (first | with_reducible assumption | with_reducible refine DrO.cs ?_ (by decide) | with_reducible refine DrO.ex ?_ (by assumption) (by decide))); done)
    | with_reducible refine sp_X3_add (T := T) (A := A) ?_ ?_ ?_ (fun _ _ _ _ => ?_)
    | with_reducible assumption
    | with_reducible exact cin_0
    | with_reducible exact cin_1
    | with_reducible exact cin_2
    | with_reducible exact cin_3
    | with_reducible exact cin_4
    | with_reducible exact cin_5
    | with_reducible exact cin_6
    | with_reducible exact cin_7
    | with_reducible exact cin_8
    | with_reducible exact cin_9
    | with_reducible exact cin_10
    | with_reducible exact cin_11
    | with_reducible exact cin_12
    | with_reducible exact cin_13
    | with_reducible exact cin_14
    | with_reducible exact cin_15
    | with_reducible exact cin_16
    | with_reducible exact cin_17
    | with_reducible exact cin_18
    | with_reducible exact cin_19
    | with_reducible exact cin_20
    | with_reducible exact cin_21
    | with_reducible refine cin_22 ?_
    | with_reducible refine cin_23 ?_
    | with_reducible refine cin_24 (T := T) ?_ ?_
    | with_reducible refine cin_25 (T := T) ?_ ?_
    | with_reducible refine cin_26 (T := T) ?_ ?_
    | with_reducible refine cin_27 (T := T) ?_ ?_
    | with_reducible refine cin_28 (T := T) ?_ ?_
    | with_reducible refine cin_29 (T := T) ?_ ?_
    | with_reducible refine cin_30 (T := T) ?_ ?_
    | with_reducible refine cin_31 (T := T) ?_ ?_
    | with_reducible refine cin_32 (T := T) ?_ ?_
    | with_reducible refine cin_33 (T := T) ?_ ?_
    | with_reducible refine cin_34 (T := T) ?_ ?_
    | with_reducible refine cs_2 ?_
    | with_reducible exact vid_lt (by assumption) (by assumption)
    | with_reducible exact vp_c0
    | with_reducible exact vp_c1
    | with_reducible exact vp_c2
    | with_reducible exact vp_item (by assumption) (by assumption) (by assumption) (by assumption)
    | with_reducible exact has_vp (by assumption) (by assumption)
    | with_reducible exact dead_vp (by assumption) (by assumption)
    | with_reducible exact lw_vp (by assumption) (by assumption)
    | with_reducible refine vp_3 ?_ ?_
    | with_reducible refine vp_4 ?_ ?_
    | with_reducible refine vp_8 ?_ ?_
    | with_reducible refine vp_11 ?_ ?_
    | with_reducible refine vp_15 ?_ ?_
    | with_reducible refine vp_16 ?_ ?_
    | with_reducible refine vp_20 ?_ ?_
    | with_reducible refine vp_60 ?_ ?_
    | with_reducible refine vp_80 ?_ ?_
    | contradiction))

theorem sp_X3_addTemplate {S : CST} {A : Nat → Prop} {i1 : Nat} {a2 : Int32} {T : Nat × Nat} {Post : CST → Prop} (hT : S.2 = T) (hi : i1 < T.1) (hd : DrO A S) (h : ∀ (S' : CST), S'.2 = T → Ex [72, 80] S S' → DrO A S' → Post S') : wp_X3_addTemplate S i1 a2 Post := by
  unfold wp_X3_addTemplate
  repeat (any_goals (first
    | with_reducible refine ⟨?_, ?_⟩
    | with_reducible rintro _ rfl
    | with_reducible intro _
    | (refine h _ ?_ (by (repeat (first | with_reducible exact Ex.rf | with_reducible assumption | with_reducible refine Ex.cs (by decide) ?_ | with_reducible refine Ex.step (by assumption) (by decide) ?_)); done) (by (repeat (first | with_reducible assumption | with_reducible refine DrO.cs ?_ (by decide) | with_reducible refine DrO.ex ?_ (by assumption) (by decide))); done))
    | with_reducible exact tsw_ne (by assumption) (by decide)
    | with_reducible exact ne_of_i (by assumption) (by decide)
    | with_reducible exact TH_of (by decide) (by decide)
    | with_reducible exact TH_rk (by assumption) (by assumption)
    | with_reducible exact TH_18 (ag_A (by assumption) (by assumption) rfl (by omega) (by assumption) (by assumption)).1 (ag_A (by assumption) (by assumption) rfl (by omega) (by assumption) (by assumption)).2
    | with_reducible exact TH_17 (ag_A (by assumption) (by assumption) rfl (by omega) (by assumption) (by assumption)).1 (ag_A (by assumption) (by assumption) rfl (by omega) (by assumption) (by assumption)).2
    | ((repeat (first | with_reducible assumption | with_reducible refine DrO.cs ?_ (by decide) | with_reducible refine DrO.ex ?_ (by assumption) (by decide))); done)
    | with_reducible refine sp_X8_opAt (T := T) ?_ ?_ (fun _ => ?_)
    | with_reducible refine sp_X8_xAt (T := T) ?_ ?_ (fun _ => ?_)
    | with_reducible refine sp_X8_depthAt (T := T) ?_ ?_ (fun _ => ?_)
    | with_reducible refine sp_X3_add (T := T) (A := A) ?_ ?_ ?_ (fun _ _ _ _ => ?_)
    | with_reducible refine sp_X3_addReckoning (T := T) (A := A) ?_ ?_ ?_ ?_ (fun _ _ _ _ => ?_)
    | with_reducible assumption
    | with_reducible exact cin_0
    | with_reducible exact cin_1
    | with_reducible exact cin_2
    | with_reducible exact cin_3
    | with_reducible exact cin_4
    | with_reducible exact cin_5
    | with_reducible exact cin_6
    | with_reducible exact cin_7
    | with_reducible exact cin_8
    | with_reducible exact cin_9
    | with_reducible exact cin_10
    | with_reducible exact cin_11
    | with_reducible exact cin_12
    | with_reducible exact cin_13
    | with_reducible exact cin_14
    | with_reducible exact cin_15
    | with_reducible exact cin_16
    | with_reducible exact cin_17
    | with_reducible exact cin_18
    | with_reducible exact cin_19
    | with_reducible exact cin_20
    | with_reducible exact cin_21
    | with_reducible refine cin_22 ?_
    | with_reducible refine cin_23 ?_
    | with_reducible refine cin_24 (T := T) ?_ ?_
    | with_reducible refine cin_25 (T := T) ?_ ?_
    | with_reducible refine cin_26 (T := T) ?_ ?_
    | with_reducible refine cin_27 (T := T) ?_ ?_
    | with_reducible refine cin_28 (T := T) ?_ ?_
    | with_reducible refine cin_29 (T := T) ?_ ?_
    | with_reducible refine cin_30 (T := T) ?_ ?_
    | with_reducible refine cin_31 (T := T) ?_ ?_
    | with_reducible refine cin_32 (T := T) ?_ ?_
    | with_reducible refine cin_33 (T := T) ?_ ?_
    | with_reducible refine cin_34 (T := T) ?_ ?_
    | with_reducible refine cs_2 ?_
    | with_reducible exact vid_lt (by assumption) (by assumption)
    | with_reducible exact vp_c0
    | with_reducible exact vp_c1
    | with_reducible exact vp_c2
    | with_reducible exact vp_item (by assumption) (by assumption) (by assumption) (by assumption)
    | with_reducible exact has_vp (by assumption) (by assumption)
    | with_reducible exact dead_vp (by assumption) (by assumption)
    | with_reducible exact lw_vp (by assumption) (by assumption)
    | with_reducible refine vp_3 ?_ ?_
    | with_reducible refine vp_4 ?_ ?_
    | with_reducible refine vp_8 ?_ ?_
    | with_reducible refine vp_11 ?_ ?_
    | with_reducible refine vp_15 ?_ ?_
    | with_reducible refine vp_16 ?_ ?_
    | with_reducible refine vp_20 ?_ ?_
    | with_reducible refine vp_60 ?_ ?_
    | with_reducible refine vp_80 ?_ ?_
    | contradiction))

theorem sp_X9_wantsTemplate {S : CST} {A : Nat → Prop} {i1 : Nat} {a2 : Int32} {T : Nat × Nat} {Post : CST → Int32 → Prop} (hT : S.2 = T) (hi : i1 < T.1) (hd : DrO A S) (h : ∀ (S' : CST) (r : Int32), S'.2 = T → Ex [72, 80, 160, 170] S S' → DrO A S' → Post S' r) : wp_X9_wantsTemplate S i1 a2 Post := by
  unfold wp_X9_wantsTemplate
  repeat (any_goals (first
    | with_reducible refine ⟨?_, ?_⟩
    | with_reducible rintro _ rfl
    | with_reducible intro _
    | with_reducible exact Or.inl rfl
    | with_reducible exact Or.inr rfl
    | (refine h _ _ ?_ (by (repeat (first | with_reducible exact Ex.rf | with_reducible assumption | with_reducible refine Ex.cs (by decide) ?_ | with_reducible refine Ex.step (by assumption) (by decide) ?_)); done) (by (repeat (first | with_reducible assumption | with_reducible refine DrO.cs ?_ (by decide) | with_reducible refine DrO.ex ?_ (by assumption) (by decide))); done))
    | with_reducible exact TH_of (by decide) (by decide)
    | with_reducible exact TH_rk (by assumption) (by assumption)
    | with_reducible exact TH_18 (ag_A (by assumption) (by assumption) rfl (by omega) (by assumption) (by assumption)).1 (ag_A (by assumption) (by assumption) rfl (by omega) (by assumption) (by assumption)).2
    | with_reducible exact TH_17 (ag_A (by assumption) (by assumption) rfl (by omega) (by assumption) (by assumption)).1 (ag_A (by assumption) (by assumption) rfl (by omega) (by assumption) (by assumption)).2
    | ((repeat (first | with_reducible assumption | with_reducible refine DrO.cs ?_ (by decide) | with_reducible refine DrO.ex ?_ (by assumption) (by decide))); done)
    | with_reducible refine sp_X8_opAt (T := T) ?_ ?_ (fun _ => ?_)
    | with_reducible refine sp_X8_xAt (T := T) ?_ ?_ (fun _ => ?_)
    | with_reducible refine sp_X8_depthAt (T := T) ?_ ?_ (fun _ => ?_)
    | with_reducible refine sp_X9_know (T := T) ?_ (fun _ _ _ => ?_)
    | with_reducible refine sp_X9_isCopyKnown (T := T) ?_ (fun _ _ _ _ => ?_)
    | with_reducible refine sp_X9_isStoredKnown (T := T) (A := A) ?_ ?_ (fun _ _ _ _ _ => ?_)
    | with_reducible refine sp_X9_forget (T := T) ?_ (fun _ _ _ => ?_)
    | with_reducible refine sp_X9_isWaySure (T := T) (A := A) ?_ ?_ (fun _ _ _ _ _ => ?_)
    | with_reducible refine sp_X9_lay (T := T) (A := A) ?_ ?_ (fun _ _ _ _ => ?_)
    | with_reducible refine sp_X9_isFieldKnown (T := T) ?_ ?_ (fun _ _ _ _ => ?_)
    | with_reducible refine sp_X9_isResultKnown (T := T) (A := A) ?_ ?_ (fun _ _ _ _ _ => ?_)
    | with_reducible assumption
    | with_reducible exact cin_0
    | with_reducible exact cin_1
    | with_reducible exact cin_2
    | with_reducible exact cin_3
    | with_reducible exact cin_4
    | with_reducible exact cin_5
    | with_reducible exact cin_6
    | with_reducible exact cin_7
    | with_reducible exact cin_8
    | with_reducible exact cin_9
    | with_reducible exact cin_10
    | with_reducible exact cin_11
    | with_reducible exact cin_12
    | with_reducible exact cin_13
    | with_reducible exact cin_14
    | with_reducible exact cin_15
    | with_reducible exact cin_16
    | with_reducible exact cin_17
    | with_reducible exact cin_18
    | with_reducible exact cin_19
    | with_reducible exact cin_20
    | with_reducible exact cin_21
    | with_reducible refine cin_22 ?_
    | with_reducible refine cin_23 ?_
    | with_reducible refine cin_24 (T := T) ?_ ?_
    | with_reducible refine cin_25 (T := T) ?_ ?_
    | with_reducible refine cin_26 (T := T) ?_ ?_
    | with_reducible refine cin_27 (T := T) ?_ ?_
    | with_reducible refine cin_28 (T := T) ?_ ?_
    | with_reducible refine cin_29 (T := T) ?_ ?_
    | with_reducible refine cin_30 (T := T) ?_ ?_
    | with_reducible refine cin_31 (T := T) ?_ ?_
    | with_reducible refine cin_32 (T := T) ?_ ?_
    | with_reducible refine cin_33 (T := T) ?_ ?_
    | with_reducible refine cin_34 (T := T) ?_ ?_
    | with_reducible refine cs_2 ?_
    | with_reducible exact vid_lt (by assumption) (by assumption)
    | with_reducible exact vp_c0
    | with_reducible exact vp_c1
    | with_reducible exact vp_c2
    | with_reducible exact vp_item (by assumption) (by assumption) (by assumption) (by assumption)
    | with_reducible exact has_vp (by assumption) (by assumption)
    | with_reducible exact dead_vp (by assumption) (by assumption)
    | with_reducible exact lw_vp (by assumption) (by assumption)
    | with_reducible refine vp_3 ?_ ?_
    | with_reducible refine vp_4 ?_ ?_
    | with_reducible refine vp_8 ?_ ?_
    | with_reducible refine vp_11 ?_ ?_
    | with_reducible refine vp_15 ?_ ?_
    | with_reducible refine vp_16 ?_ ?_
    | with_reducible refine vp_20 ?_ ?_
    | with_reducible refine vp_60 ?_ ?_
    | with_reducible refine vp_80 ?_ ?_
    | contradiction))

theorem nar1 : ¬ vp_nar .boolean 1 = 0 := by decide
theorem nar0 : vp_nar .boolean 0 = 0 := by decide
/-- what is assumed does not vary -/
def AsO (S : CST) (i j : Nat) : Prop := ∀ k : Nat, k < j → ¬ cv S 190 0 k = 0 → cv S 310 i k = 0
theorem AsO.put {S : CST} {i j : Nat} {x : Int32} (h : AsO S i j) (hj : j < 2147483648) (hx : ¬ x = 0 → cv S 310 i j = 0) : AsO (cs S 190 0 (upd (cv S 190 0) (nI j).toNatClampNeg x)) i (j + 1) := by
  intro k hk hc
  rw [cs_n (k' := 310) (k := 190) _ _ (fun w => absurd w.1 (by decide))]
  rw [cs_s, nI_clamp (by omega)] at hc
  by_cases hkj : k = j
  · rw [hkj] at hc ⊢
    exact hx (by rw [show upd (cv S 190 0) j x j = x from if_pos rfl] at hc; exact hc)
  · rw [show upd (cv S 190 0) j x k = cv S 190 0 k from if_neg hkj] at hc
    exact h k (by omega) hc

theorem nI_le11 {j n : Nat} (h : (11 : Int32) ≤ nI j) (hj : j + n = 2147483647) : 11 ≤ j := Nat.not_lt.mp (fun q => nI_ge (b := 11) q (by omega) h)
theorem was_j {S : CST} {i j : Nat} {r : Int32} (hj : j < 2147483648) (h : ¬ r = 0 → cv S 310 i (nI j).toNatClampNeg = 0) (c : ¬ r = 0) : cv S 310 i j = 0 := by
  have h2 := h c
  rw [nI_clamp (by omega)] at h2
  exact h2

theorem lp_X9_assume_2 {S : CST} {K : CST → Prop} {i : Nat} {Post : CST → Prop} {T : Nat × Nat} (hi : i < T.1) (hK : ∀ S' : CST, S'.2 = T → Ex [190] S S' → AsO S' i 11 → K S')  : ∀ (n j : Nat) (S' : CST), j + n = 2147483647 → S'.2 = T → Ex [190] S S' → AsO S' i j → wl_X9_assume_2 K Post (n + 1) S' i (nI j) := by
  intro n
  induction n with
  | zero =>
    intro j S' hj s0 s1 s2
    have hneg : ¬ nI j < 0 := nI_nn j (by omega)
    have hz : ∀ r : Int32, r ≤ nI j := by
      obtain rfl : j = 2147483647 := by omega
      exact z_max
    unfold wl_X9_assume_2
    repeat (any_goals (first
      | with_reducible refine ⟨?_, ?_⟩
      | with_reducible rintro _ rfl
      | with_reducible intro _
      | exact absurd (hz _) (by assumption)
      | (refine hK _ (by assumption) (by assumption) (fun k hk => (by assumption : AsO _ _ _) k (by have := nI_le11 (by assumption) hj; omega)))
      | ((repeat (first | with_reducible exact Ex.rf | with_reducible assumption | with_reducible refine Ex.cs (by decide) ?_ | with_reducible refine Ex.step (by assumption) (by decide) ?_)); done)
      | with_reducible exact AsO.put (by assumption) (by omega) (fun q => absurd nar0 q)
      | with_reducible exact AsO.put (by assumption) (by omega) (fun _ => was_j (by omega) (by assumption) (by assumption))
      | with_reducible exact vp_11 (by assumption) (fun q => absurd (Int32.le_trans (show (3 : Int32) ≤ 11 by decide) q) (by assumption))
      | with_reducible refine sp_X5_wasAlways (T := T) ?_ ?_ (fun _ _ => ?_)
      | with_reducible refine sp_X9_uses (T := T) ?_ ?_ (fun _ => ?_)
      | with_reducible assumption
      | with_reducible exact cin_0
      | with_reducible exact cin_1
      | with_reducible exact cin_2
      | with_reducible exact cin_3
      | with_reducible exact cin_4
      | with_reducible exact cin_5
      | with_reducible exact cin_6
      | with_reducible exact cin_7
      | with_reducible exact cin_8
      | with_reducible exact cin_9
      | with_reducible exact cin_10
      | with_reducible exact cin_11
      | with_reducible exact cin_12
      | with_reducible exact cin_13
      | with_reducible exact cin_14
      | with_reducible exact cin_15
      | with_reducible exact cin_16
      | with_reducible exact cin_17
      | with_reducible exact cin_18
      | with_reducible exact cin_19
      | with_reducible exact cin_20
      | with_reducible exact cin_21
      | with_reducible refine cin_22 ?_
      | with_reducible refine cin_23 ?_
      | with_reducible refine cin_24 (T := T) ?_ ?_
      | with_reducible refine cin_25 (T := T) ?_ ?_
      | with_reducible refine cin_26 (T := T) ?_ ?_
      | with_reducible refine cin_27 (T := T) ?_ ?_
      | with_reducible refine cin_28 (T := T) ?_ ?_
      | with_reducible refine cin_29 (T := T) ?_ ?_
      | with_reducible refine cin_30 (T := T) ?_ ?_
      | with_reducible refine cin_31 (T := T) ?_ ?_
      | with_reducible refine cin_32 (T := T) ?_ ?_
      | with_reducible refine cin_33 (T := T) ?_ ?_
      | with_reducible refine cin_34 (T := T) ?_ ?_
      | with_reducible refine cs_2 ?_
      | with_reducible exact vid_lt (by assumption) (by assumption)
      | with_reducible exact vp_c0
      | with_reducible exact vp_c1
      | with_reducible exact vp_c2
      | with_reducible exact vp_item (by assumption) (by assumption) (by assumption) (by assumption)
      | with_reducible exact has_vp (by assumption) (by assumption)
      | with_reducible exact dead_vp (by assumption) (by assumption)
      | with_reducible exact lw_vp (by assumption) (by assumption)
      | with_reducible refine vp_3 ?_ ?_
      | with_reducible refine vp_4 ?_ ?_
      | with_reducible refine vp_8 ?_ ?_
      | with_reducible refine vp_11 ?_ ?_
      | with_reducible refine vp_15 ?_ ?_
      | with_reducible refine vp_16 ?_ ?_
      | with_reducible refine vp_20 ?_ ?_
      | with_reducible refine vp_60 ?_ ?_
      | with_reducible refine vp_80 ?_ ?_
      | contradiction))
  | succ n ih =>
    intro j S' hj s0 s1 s2
    have hneg : ¬ nI j < 0 := nI_nn j (by omega)
    unfold wl_X9_assume_2
    repeat (any_goals (first
      | with_reducible refine ⟨?_, ?_⟩
      | with_reducible rintro _ rfl
      | with_reducible intro _
      | (rw [nI_1]; refine ih (j + 1) _ (by omega) ?_ ?_ ?_)
      | (refine hK _ (by assumption) (by assumption) (fun k hk => (by assumption : AsO _ _ _) k (by have := nI_le11 (by assumption) hj; omega)))
      | ((repeat (first | with_reducible exact Ex.rf | with_reducible assumption | with_reducible refine Ex.cs (by decide) ?_ | with_reducible refine Ex.step (by assumption) (by decide) ?_)); done)
      | with_reducible exact AsO.put (by assumption) (by omega) (fun q => absurd nar0 q)
      | with_reducible exact AsO.put (by assumption) (by omega) (fun _ => was_j (by omega) (by assumption) (by assumption))
      | with_reducible exact vp_11 (by assumption) (fun q => absurd (Int32.le_trans (show (3 : Int32) ≤ 11 by decide) q) (by assumption))
      | with_reducible refine sp_X5_wasAlways (T := T) ?_ ?_ (fun _ _ => ?_)
      | with_reducible refine sp_X9_uses (T := T) ?_ ?_ (fun _ => ?_)
      | with_reducible assumption
      | with_reducible exact cin_0
      | with_reducible exact cin_1
      | with_reducible exact cin_2
      | with_reducible exact cin_3
      | with_reducible exact cin_4
      | with_reducible exact cin_5
      | with_reducible exact cin_6
      | with_reducible exact cin_7
      | with_reducible exact cin_8
      | with_reducible exact cin_9
      | with_reducible exact cin_10
      | with_reducible exact cin_11
      | with_reducible exact cin_12
      | with_reducible exact cin_13
      | with_reducible exact cin_14
      | with_reducible exact cin_15
      | with_reducible exact cin_16
      | with_reducible exact cin_17
      | with_reducible exact cin_18
      | with_reducible exact cin_19
      | with_reducible exact cin_20
      | with_reducible exact cin_21
      | with_reducible refine cin_22 ?_
      | with_reducible refine cin_23 ?_
      | with_reducible refine cin_24 (T := T) ?_ ?_
      | with_reducible refine cin_25 (T := T) ?_ ?_
      | with_reducible refine cin_26 (T := T) ?_ ?_
      | with_reducible refine cin_27 (T := T) ?_ ?_
      | with_reducible refine cin_28 (T := T) ?_ ?_
      | with_reducible refine cin_29 (T := T) ?_ ?_
      | with_reducible refine cin_30 (T := T) ?_ ?_
      | with_reducible refine cin_31 (T := T) ?_ ?_
      | with_reducible refine cin_32 (T := T) ?_ ?_
      | with_reducible refine cin_33 (T := T) ?_ ?_
      | with_reducible refine cin_34 (T := T) ?_ ?_
      | with_reducible refine cs_2 ?_
      | with_reducible exact vid_lt (by assumption) (by assumption)
      | with_reducible exact vp_c0
      | with_reducible exact vp_c1
      | with_reducible exact vp_c2
      | with_reducible exact vp_item (by assumption) (by assumption) (by assumption) (by assumption)
      | with_reducible exact has_vp (by assumption) (by assumption)
      | with_reducible exact dead_vp (by assumption) (by assumption)
      | with_reducible exact lw_vp (by assumption) (by assumption)
      | with_reducible refine vp_3 ?_ ?_
      | with_reducible refine vp_4 ?_ ?_
      | with_reducible refine vp_8 ?_ ?_
      | with_reducible refine vp_11 ?_ ?_
      | with_reducible refine vp_15 ?_ ?_
      | with_reducible refine vp_16 ?_ ?_
      | with_reducible refine vp_20 ?_ ?_
      | with_reducible refine vp_60 ?_ ?_
      | with_reducible refine vp_80 ?_ ?_
      | contradiction))

theorem sp_X9_assume {S : CST} {i1 : Nat} {T : Nat × Nat} {Post : CST → Prop} (hT : S.2 = T) (hi : i1 < T.1) (h : ∀ S' : CST, S'.2 = T → Ex [190] S S' → AsO S' i1 11 → Post S') : wp_X9_assume S i1 Post :=
  ⟨2147483647 + 1, lp_X9_assume_2 hi h 2147483647 0 S rfl hT Ex.rf (fun k hk => absurd hk (by omega))⟩

