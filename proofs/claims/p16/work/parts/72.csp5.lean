theorem hA_ex {A : Nat → Prop} {L : List Nat} {S S' : CST} (h : ∀ k : Nat, k < 11 → ¬ cv S 190 0 k = 0 → A k) (e : Ex L S S') (hL : L.contains 190 = false) : ∀ k : Nat, k < 11 → ¬ cv S' 190 0 k = 0 → A k := fun k hk hc => h k hk (by rw [e.2 190 hL] at hc; exact hc)

theorem lp_X6_plainCode_9 {S : CST} {K : CST → Nat → Prop} {A : Nat → Prop} {i : Nat} {Post : CST → Nat → Prop} {T : Nat × Nat} (hi : i < T.1) (hK : ∀ S' : CST, S'.2 = T → Ex [72, 80, 90] S S' → DrO A S' → K S' i)  : ∀ (n j : Nat) (S' : CST), j + n = 2147483647 → S'.2 = T → Ex [72, 80, 90] S S' → DrO A S' → wl_X6_plainCode_9 K Post (n + 1) S' i (nI j) := by
  intro n
  induction n with
  | zero =>
    intro j S' hj s0 s1 s2
    have hneg : ¬ nI j < 0 := nI_nn j (by omega)
    have hz : ∀ r : Int32, r ≤ nI j := by
      obtain rfl : j = 2147483647 := by omega
      exact z_max
    unfold wl_X6_plainCode_9
    repeat (any_goals (first
      | with_reducible refine ⟨?_, ?_⟩
      | with_reducible rintro _ rfl
      | with_reducible intro _
      | exact absurd (hz _) (by assumption)
      | (refine hK _ ?_ (by (repeat (first | with_reducible exact Ex.rf | with_reducible assumption | with_reducible refine Ex.cs (by decide) ?_ | with_reducible refine Ex.step (by assumption) (by decide) ?_)); done) (by (repeat (first | with_reducible assumption | with_reducible refine DrO.cs ?_ (by decide) | with_reducible refine DrO.ex ?_ (by assumption) (by decide))); done))
      | ((repeat (first | with_reducible assumption | with_reducible refine DrO.cs ?_ (by decide) | with_reducible refine DrO.ex ?_ (by assumption) (by decide))); done)
      | ((repeat (first | with_reducible exact Ex.rf | with_reducible assumption | with_reducible refine Ex.cs (by decide) ?_ | with_reducible refine Ex.step (by assumption) (by decide) ?_)); done)
      | with_reducible refine sp_X3_begin (T := T) ?_ (fun _ _ _ => ?_)
      | with_reducible refine sp_X8_isDead (T := T) ?_ ?_ (fun _ _ => ?_)
      | with_reducible refine sp_X3_addTemplate (T := T) (A := A) ?_ ?_ ?_ (fun _ _ _ _ => ?_)
      | with_reducible assumption
      | with_reducible exact cin_0
      | with_reducible exact cin_1
      | with_reducible exact cin_2
      | with_reducible exact cin_3
      | with_reducible exact cin_4
      | with_reducible exact cin_5
      | with_reducible exact cin_6
      | with_reducible exact cin_7
      | with_reducible exact cin_8
      | with_reducible exact cin_9
      | with_reducible exact cin_10
      | with_reducible exact cin_11
      | with_reducible exact cin_12
      | with_reducible exact cin_13
      | with_reducible exact cin_14
      | with_reducible exact cin_15
      | with_reducible exact cin_16
      | with_reducible exact cin_17
      | with_reducible exact cin_18
      | with_reducible exact cin_19
      | with_reducible exact cin_20
      | with_reducible exact cin_21
      | with_reducible refine cin_22 ?_
      | with_reducible refine cin_23 ?_
      | with_reducible refine cin_24 (T := T) ?_ ?_
      | with_reducible refine cin_25 (T := T) ?_ ?_
      | with_reducible refine cin_26 (T := T) ?_ ?_
      | with_reducible refine cin_27 (T := T) ?_ ?_
      | with_reducible refine cin_28 (T := T) ?_ ?_
      | with_reducible refine cin_29 (T := T) ?_ ?_
      | with_reducible refine cin_30 (T := T) ?_ ?_
      | with_reducible refine cin_31 (T := T) ?_ ?_
      | with_reducible refine cin_32 (T := T) ?_ ?_
      | with_reducible refine cin_33 (T := T) ?_ ?_
      | with_reducible refine cin_34 (T := T) ?_ ?_
      | with_reducible refine cs_2 ?_
      | with_reducible exact vid_lt (by assumption) (by assumption)
      | with_reducible exact vp_c0
      | with_reducible exact vp_c1
      | with_reducible exact vp_c2
      | with_reducible exact vp_item (by assumption) (by assumption) (by assumption) (by assumption)
      | with_reducible exact has_vp (by assumption) (by assumption)
      | with_reducible exact dead_vp (by assumption) (by assumption)
      | with_reducible exact lw_vp (by assumption) (by assumption)
      | with_reducible refine vp_3 ?_ ?_
      | with_reducible refine vp_4 ?_ ?_
      | with_reducible refine vp_8 ?_ ?_
      | with_reducible refine vp_11 ?_ ?_
      | with_reducible refine vp_15 ?_ ?_
      | with_reducible refine vp_16 ?_ ?_
      | with_reducible refine vp_20 ?_ ?_
      | with_reducible refine vp_60 ?_ ?_
      | with_reducible refine vp_80 ?_ ?_
      | contradiction))
  | succ n ih =>
    intro j S' hj s0 s1 s2
    have hneg : ¬ nI j < 0 := nI_nn j (by omega)
    unfold wl_X6_plainCode_9
    repeat (any_goals (first
      | with_reducible refine ⟨?_, ?_⟩
      | with_reducible rintro _ rfl
      | with_reducible intro _
      | (rw [nI_1]; refine ih (j + 1) _ (by omega) ?_ ?_ ?_)
      | (refine hK _ ?_ (by (repeat (first | with_reducible exact Ex.rf | with_reducible assumption | with_reducible refine Ex.cs (by decide) ?_ | with_reducible refine Ex.step (by assumption) (by decide) ?_)); done) (by (repeat (first | with_reducible assumption | with_reducible refine DrO.cs ?_ (by decide) | with_reducible refine DrO.ex ?_ (by assumption) (by decide))); done))
      | ((repeat (first | with_reducible assumption | with_reducible refine DrO.cs ?_ (by decide) | with_reducible refine DrO.ex ?_ (by assumption) (by decide))); done)
      | ((repeat (first | with_reducible exact Ex.rf | with_reducible assumption | with_reducible refine Ex.cs (by decide) ?_ | with_reducible refine Ex.step (by assumption) (by decide) ?_)); done)
      | with_reducible refine sp_X3_begin (T := T) ?_ (fun _ _ _ => ?_)
      | with_reducible refine sp_X8_isDead (T := T) ?_ ?_ (fun _ _ => ?_)
      | with_reducible refine sp_X3_addTemplate (T := T) (A := A) ?_ ?_ ?_ (fun _ _ _ _ => ?_)
      | with_reducible assumption
      | with_reducible exact cin_0
      | with_reducible exact cin_1
      | with_reducible exact cin_2
      | with_reducible exact cin_3
      | with_reducible exact cin_4
      | with_reducible exact cin_5
      | with_reducible exact cin_6
      | with_reducible exact cin_7
      | with_reducible exact cin_8
      | with_reducible exact cin_9
      | with_reducible exact cin_10
      | with_reducible exact cin_11
      | with_reducible exact cin_12
      | with_reducible exact cin_13
      | with_reducible exact cin_14
      | with_reducible exact cin_15
      | with_reducible exact cin_16
      | with_reducible exact cin_17
      | with_reducible exact cin_18
      | with_reducible exact cin_19
      | with_reducible exact cin_20
      | with_reducible exact cin_21
      | with_reducible refine cin_22 ?_
      | with_reducible refine cin_23 ?_
      | with_reducible refine cin_24 (T := T) ?_ ?_
      | with_reducible refine cin_25 (T := T) ?_ ?_
      | with_reducible refine cin_26 (T := T) ?_ ?_
      | with_reducible refine cin_27 (T := T) ?_ ?_
      | with_reducible refine cin_28 (T := T) ?_ ?_
      | with_reducible refine cin_29 (T := T) ?_ ?_
      | with_reducible refine cin_30 (T := T) ?_ ?_
      | with_reducible refine cin_31 (T := T) ?_ ?_
      | with_reducible refine cin_32 (T := T) ?_ ?_
      | with_reducible refine cin_33 (T := T) ?_ ?_
      | with_reducible refine cin_34 (T := T) ?_ ?_
      | with_reducible refine cs_2 ?_
      | with_reducible exact vid_lt (by assumption) (by assumption)
      | with_reducible exact vp_c0
      | with_reducible exact vp_c1
      | with_reducible exact vp_c2
      | with_reducible exact vp_item (by assumption) (by assumption) (by assumption) (by assumption)
      | with_reducible exact has_vp (by assumption) (by assumption)
      | with_reducible exact dead_vp (by assumption) (by assumption)
      | with_reducible exact lw_vp (by assumption) (by assumption)
      | with_reducible refine vp_3 ?_ ?_
      | with_reducible refine vp_4 ?_ ?_
      | with_reducible refine vp_8 ?_ ?_
      | with_reducible refine vp_11 ?_ ?_
      | with_reducible refine vp_15 ?_ ?_
      | with_reducible refine vp_16 ?_ ?_
      | with_reducible refine vp_20 ?_ ?_
      | with_reducible refine vp_60 ?_ ?_
      | with_reducible refine vp_80 ?_ ?_
      | contradiction))

set_option maxHeartbeats 8000000 in
theorem lp_X9_forge_37 {S : CST} {K : CST → Nat → Int32 → Prop} {A : Nat → Prop} {i : Nat} {x2 : Int32} {Post : CST → Nat → Prop} {T : Nat × Nat} (hi : i < T.1) (hA : ∀ k : Nat, k < 11 → ¬ cv S 190 0 k = 0 → A k) (hK : ∀ S' : CST, S'.2 = T → Ex [72, 80, 90, 160, 170] S S' → DrO A S' → K S' i x2)  : ∀ (n j : Nat) (S' : CST), j + n = 2147483647 → S'.2 = T → Ex [72, 80, 90, 160, 170] S S' → DrO A S' → wl_X9_forge_37 K Post (n + 1) S' i x2 (nI j) := by
  intro n
  induction n with
  | zero =>
    intro j S' hj s0 s1 s2
    have hneg : ¬ nI j < 0 := nI_nn j (by omega)
    have hz : ∀ r : Int32, r ≤ nI j := by
      obtain rfl : j = 2147483647 := by omega
      exact z_max
    unfold wl_X9_forge_37
    repeat (any_goals (first
      | with_reducible refine ⟨?_, ?_⟩
      | with_reducible rintro _ rfl
      | with_reducible intro _
      | exact absurd (hz _) (by assumption)
      | (refine hK _ ?_ (by (repeat (first | with_reducible exact Ex.rf | with_reducible assumption | with_reducible refine Ex.cs (by decide) ?_ | with_reducible refine Ex.step (by assumption) (by decide) ?_)); done) (by (repeat (first | with_reducible assumption | with_reducible refine DrO.cs ?_ (by decide) | with_reducible refine DrO.ex ?_ (by assumption) (by decide))); done))
      | ((repeat (first | with_reducible assumption | with_reducible refine DrO.cs ?_ (by decide) | with_reducible refine DrO.ex ?_ (by assumption) (by decide))); done)
      | with_reducible exact has_vp (by assumption) (by assumption)
      | ((repeat (first | with_reducible exact Ex.rf | with_reducible assumption | with_reducible refine Ex.cs (by decide) ?_ | with_reducible refine Ex.step (by assumption) (by decide) ?_)); done)
      | with_reducible refine sp_X8_isDead (T := T) ?_ ?_ (fun _ _ => ?_)
      | with_reducible refine sp_X8_goesOnAt (T := T) ?_ ?_ (fun _ => ?_)
      | with_reducible refine sp_X9_lay (T := T) (A := A) ?_ ?_ (fun _ _ _ _ => ?_)
      | with_reducible refine sp_X9_knowArgsAlone (T := T) ?_ ?_ (fun _ _ _ => ?_)
      | with_reducible refine sp_X3_begin (T := T) ?_ (fun _ _ _ => ?_)
      | with_reducible refine sp_X9_wantsTemplate (T := T) (A := A) ?_ ?_ ?_ (fun _ _ _ _ _ => ?_)
      | with_reducible refine sp_X3_addTemplate (T := T) (A := A) ?_ ?_ ?_ (fun _ _ _ _ => ?_)
      | with_reducible refine sp_X8_opAt (T := T) ?_ ?_ (fun _ => ?_)
      | with_reducible refine sp_X9_addGuards (T := T) (A := A) ?_ ?_ (hA_ex (L := [72, 80, 90, 160, 170]) (S := S) hA (by (repeat (first | with_reducible exact Ex.rf | with_reducible assumption | with_reducible refine Ex.cs (by decide) ?_ | with_reducible refine Ex.step (by assumption) (by decide) ?_)); done) rfl) ?_ (fun _ _ _ _ => ?_)
      | with_reducible assumption
      | with_reducible exact cin_0
      | with_reducible exact cin_1
      | with_reducible exact cin_2
      | with_reducible exact cin_3
      | with_reducible exact cin_4
      | with_reducible exact cin_5
      | with_reducible exact cin_6
      | with_reducible exact cin_7
      | with_reducible exact cin_8
      | with_reducible exact cin_9
      | with_reducible exact cin_10
      | with_reducible exact cin_11
      | with_reducible exact cin_12
      | with_reducible exact cin_13
      | with_reducible exact cin_14
      | with_reducible exact cin_15
      | with_reducible exact cin_16
      | with_reducible exact cin_17
      | with_reducible exact cin_18
      | with_reducible exact cin_19
      | with_reducible exact cin_20
      | with_reducible exact cin_21
      | with_reducible refine cin_22 ?_
      | with_reducible refine cin_23 ?_
      | with_reducible refine cin_24 (T := T) ?_ ?_
      | with_reducible refine cin_25 (T := T) ?_ ?_
      | with_reducible refine cin_26 (T := T) ?_ ?_
      | with_reducible refine cin_27 (T := T) ?_ ?_
      | with_reducible refine cin_28 (T := T) ?_ ?_
      | with_reducible refine cin_29 (T := T) ?_ ?_
      | with_reducible refine cin_30 (T := T) ?_ ?_
      | with_reducible refine cin_31 (T := T) ?_ ?_
      | with_reducible refine cin_32 (T := T) ?_ ?_
      | with_reducible refine cin_33 (T := T) ?_ ?_
      | with_reducible refine cin_34 (T := T) ?_ ?_
      | with_reducible refine cs_2 ?_
      | with_reducible exact vid_lt (by assumption) (by assumption)
      | with_reducible exact vp_c0
      | with_reducible exact vp_c1
      | with_reducible exact vp_c2
      | with_reducible exact vp_item (by assumption) (by assumption) (by assumption) (by assumption)
      | with_reducible exact has_vp (by assumption) (by assumption)
      | with_reducible exact dead_vp (by assumption) (by assumption)
      | with_reducible exact lw_vp (by assumption) (by assumption)
      | with_reducible refine vp_3 ?_ ?_
      | with_reducible refine vp_4 ?_ ?_
      | with_reducible refine vp_8 ?_ ?_
      | with_reducible refine vp_11 ?_ ?_
      | with_reducible refine vp_15 ?_ ?_
      | with_reducible refine vp_16 ?_ ?_
      | with_reducible refine vp_20 ?_ ?_
      | with_reducible refine vp_60 ?_ ?_
      | with_reducible refine vp_80 ?_ ?_
      | contradiction))
  | succ n ih =>
    intro j S' hj s0 s1 s2
    have hneg : ¬ nI j < 0 := nI_nn j (by omega)
    unfold wl_X9_forge_37
    repeat (any_goals (first
      | with_reducible refine ⟨?_, ?_⟩
      | with_reducible rintro _ rfl
      | with_reducible intro _
      | (rw [nI_1]; refine ih (j + 1) _ (by omega) ?_ ?_ ?_)
      | (refine hK _ ?_ (by (repeat (first | with_reducible exact Ex.rf | with_reducible assumption | with_reducible refine Ex.cs (by decide) ?_ | with_reducible refine Ex.step (by assumption) (by decide) ?_)); done) (by (repeat (first | with_reducible assumption | with_reducible refine DrO.cs ?_ (by decide) | with_reducible refine DrO.ex ?_ (by assumption) (by decide))); done))
      | ((repeat (first | with_reducible assumption | with_reducible refine DrO.cs ?_ (by decide) | with_reducible refine DrO.ex ?_ (by assumption) (by decide))); done)
      | with_reducible exact has_vp (by assumption) (by assumption)
      | ((repeat (first | with_reducible exact Ex.rf | with_reducible assumption | with_reducible refine Ex.cs (by decide) ?_ | with_reducible refine Ex.step (by assumption) (by decide) ?_)); done)
      | with_reducible refine sp_X8_isDead (T := T) ?_ ?_ (fun _ _ => ?_)
      | with_reducible refine sp_X8_goesOnAt (T := T) ?_ ?_ (fun _ => ?_)
      | with_reducible refine sp_X9_lay (T := T) (A := A) ?_ ?_ (fun _ _ _ _ => ?_)
      | with_reducible refine sp_X9_knowArgsAlone (T := T) ?_ ?_ (fun _ _ _ => ?_)
      | with_reducible refine sp_X3_begin (T := T) ?_ (fun _ _ _ => ?_)
      | with_reducible refine sp_X9_wantsTemplate (T := T) (A := A) ?_ ?_ ?_ (fun _ _ _ _ _ => ?_)
      | with_reducible refine sp_X3_addTemplate (T := T) (A := A) ?_ ?_ ?_ (fun _ _ _ _ => ?_)
      | with_reducible refine sp_X8_opAt (T := T) ?_ ?_ (fun _ => ?_)
      | with_reducible refine sp_X9_addGuards (T := T) (A := A) ?_ ?_ (hA_ex (L := [72, 80, 90, 160, 170]) (S := S) hA (by (repeat (first | with_reducible exact Ex.rf | with_reducible assumption | with_reducible refine Ex.cs (by decide) ?_ | with_reducible refine Ex.step (by assumption) (by decide) ?_)); done) rfl) ?_ (fun _ _ _ _ => ?_)
      | with_reducible assumption
      | with_reducible exact cin_0
      | with_reducible exact cin_1
      | with_reducible exact cin_2
      | with_reducible exact cin_3
      | with_reducible exact cin_4
      | with_reducible exact cin_5
      | with_reducible exact cin_6
      | with_reducible exact cin_7
      | with_reducible exact cin_8
      | with_reducible exact cin_9
      | with_reducible exact cin_10
      | with_reducible exact cin_11
      | with_reducible exact cin_12
      | with_reducible exact cin_13
      | with_reducible exact cin_14
      | with_reducible exact cin_15
      | with_reducible exact cin_16
      | with_reducible exact cin_17
      | with_reducible exact cin_18
      | with_reducible exact cin_19
      | with_reducible exact cin_20
      | with_reducible exact cin_21
      | with_reducible refine cin_22 ?_
      | with_reducible refine cin_23 ?_
      | with_reducible refine cin_24 (T := T) ?_ ?_
      | with_reducible refine cin_25 (T := T) ?_ ?_
      | with_reducible refine cin_26 (T := T) ?_ ?_
      | with_reducible refine cin_27 (T := T) ?_ ?_
      | with_reducible refine cin_28 (T := T) ?_ ?_
      | with_reducible refine cin_29 (T := T) ?_ ?_
      | with_reducible refine cin_30 (T := T) ?_ ?_
      | with_reducible refine cin_31 (T := T) ?_ ?_
      | with_reducible refine cin_32 (T := T) ?_ ?_
      | with_reducible refine cin_33 (T := T) ?_ ?_
      | with_reducible refine cin_34 (T := T) ?_ ?_
      | with_reducible refine cs_2 ?_
      | with_reducible exact vid_lt (by assumption) (by assumption)
      | with_reducible exact vp_c0
      | with_reducible exact vp_c1
      | with_reducible exact vp_c2
      | with_reducible exact vp_item (by assumption) (by assumption) (by assumption) (by assumption)
      | with_reducible exact has_vp (by assumption) (by assumption)
      | with_reducible exact dead_vp (by assumption) (by assumption)
      | with_reducible exact lw_vp (by assumption) (by assumption)
      | with_reducible refine vp_3 ?_ ?_
      | with_reducible refine vp_4 ?_ ?_
      | with_reducible refine vp_8 ?_ ?_
      | with_reducible refine vp_11 ?_ ?_
      | with_reducible refine vp_15 ?_ ?_
      | with_reducible refine vp_16 ?_ ?_
      | with_reducible refine vp_20 ?_ ?_
      | with_reducible refine vp_60 ?_ ?_
      | with_reducible refine vp_80 ?_ ?_
      | contradiction))

