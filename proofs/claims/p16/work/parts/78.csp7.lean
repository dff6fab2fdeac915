theorem hv_ex {L : List Nat} {S S' : CST} {n : Nat} (h : ∀ j : Nat, vid (cv S 20 0 j) n) (e : Ex L S S') (hL : L.contains 20 = false) : ∀ j : Nat, vid (cv S' 20 0 j) n := fun j => by rw [e.2 20 hL]; exact h j

theorem lp_X6_goOver_6 {S : CST} {K : CST → Nat → Prop} {i : Nat} {Post : CST → Int32 → Prop} {T : Nat × Nat} (hi : i < T.1) (hK : ∀ S' : CST, S'.2 = T → Ex [103, 110, 270] S S' → K S' i)  : ∀ (n j : Nat) (S' : CST), j + n = 2147483647 → S'.2 = T → Ex [103, 110, 270] S S' → wl_X6_goOver_6 K Post (n + 1) S' i (nI j) := by
  intro n
  induction n with
  | zero =>
    intro j S' hj s0 s1
    have hneg : ¬ nI j < 0 := nI_nn j (by omega)
    have hz : ∀ r : Int32, r ≤ nI j := by
      obtain rfl : j = 2147483647 := by omega
      exact z_max
    unfold wl_X6_goOver_6
    repeat (any_goals (first
      | with_reducible refine ⟨?_, ?_⟩
      | with_reducible rintro _ rfl
      | with_reducible intro _
      | exact absurd (hz _) (by assumption)
      | (refine hK _ ?_ (by (repeat (first | with_reducible exact Ex.rf | with_reducible assumption | with_reducible refine Ex.cs (by decide) ?_ | with_reducible refine Ex.step (by assumption) (by decide) ?_)); done))
      | ((repeat (first | with_reducible exact Ex.rf | with_reducible assumption | with_reducible refine Ex.cs (by decide) ?_ | with_reducible refine Ex.step (by assumption) (by decide) ?_)); done)
      | with_reducible assumption
      | with_reducible exact cin_0
      | with_reducible exact cin_1
      | with_reducible exact cin_2
      | with_reducible exact cin_3
      | with_reducible exact cin_4
      | with_reducible exact cin_5
      | with_reducible exact cin_6
      | with_reducible exact cin_7
      | with_reducible exact cin_8
      | with_reducible exact cin_9
      | with_reducible exact cin_10
      | with_reducible exact cin_11
      | with_reducible exact cin_12
      | with_reducible exact cin_13
      | with_reducible exact cin_14
      | with_reducible exact cin_15
      | with_reducible exact cin_16
      | with_reducible exact cin_17
      | with_reducible exact cin_18
      | with_reducible exact cin_19
      | with_reducible exact cin_20
      | with_reducible exact cin_21
      | with_reducible refine cin_22 ?_
      | with_reducible refine cin_23 ?_
      | with_reducible refine cin_24 (T := T) ?_ ?_
      | with_reducible refine cin_25 (T := T) ?_ ?_
      | with_reducible refine cin_26 (T := T) ?_ ?_
      | with_reducible refine cin_27 (T := T) ?_ ?_
      | with_reducible refine cin_28 (T := T) ?_ ?_
      | with_reducible refine cin_29 (T := T) ?_ ?_
      | with_reducible refine cin_30 (T := T) ?_ ?_
      | with_reducible refine cin_31 (T := T) ?_ ?_
      | with_reducible refine cin_32 (T := T) ?_ ?_
      | with_reducible refine cin_33 (T := T) ?_ ?_
      | with_reducible refine cin_34 (T := T) ?_ ?_
      | with_reducible refine cs_2 ?_
      | with_reducible exact vid_lt (by assumption) (by assumption)
      | with_reducible exact vp_c0
      | with_reducible exact vp_c1
      | with_reducible exact vp_c2
      | with_reducible exact vp_item (by assumption) (by assumption) (by assumption) (by assumption)
      | with_reducible exact has_vp (by assumption) (by assumption)
      | with_reducible exact dead_vp (by assumption) (by assumption)
      | with_reducible exact lw_vp (by assumption) (by assumption)
      | with_reducible refine vp_3 ?_ ?_
      | with_reducible refine vp_4 ?_ ?_
      | with_reducible refine vp_8 ?_ ?_
      | with_reducible refine vp_11 ?_ ?_
      | with_reducible refine vp_15 ?_ ?_
      | with_reducible refine vp_16 ?_ ?_
      | with_reducible refine vp_20 ?_ ?_
      | with_reducible refine vp_60 ?_ ?_
      | with_reducible refine vp_80 ?_ ?_
      | contradiction))
  | succ n ih =>
    intro j S' hj s0 s1
    have hneg : ¬ nI j < 0 := nI_nn j (by omega)
    unfold wl_X6_goOver_6
    repeat (any_goals (first
      | with_reducible refine ⟨?_, ?_⟩
      | with_reducible rintro _ rfl
      | with_reducible intro _
      | (rw [nI_1]; refine ih (j + 1) _ (by omega) ?_ ?_)
      | (refine hK _ ?_ (by (repeat (first | with_reducible exact Ex.rf | with_reducible assumption | with_reducible refine Ex.cs (by decide) ?_ | with_reducible refine Ex.step (by assumption) (by decide) ?_)); done))
      | ((repeat (first | with_reducible exact Ex.rf | with_reducible assumption | with_reducible refine Ex.cs (by decide) ?_ | with_reducible refine Ex.step (by assumption) (by decide) ?_)); done)
      | with_reducible assumption
      | with_reducible exact cin_0
      | with_reducible exact cin_1
      | with_reducible exact cin_2
      | with_reducible exact cin_3
      | with_reducible exact cin_4
      | with_reducible exact cin_5
      | with_reducible exact cin_6
      | with_reducible exact cin_7
      | with_reducible exact cin_8
      | with_reducible exact cin_9
      | with_reducible exact cin_10
      | with_reducible exact cin_11
      | with_reducible exact cin_12
      | with_reducible exact cin_13
      | with_reducible exact cin_14
      | with_reducible exact cin_15
      | with_reducible exact cin_16
      | with_reducible exact cin_17
      | with_reducible exact cin_18
      | with_reducible exact cin_19
      | with_reducible exact cin_20
      | with_reducible exact cin_21
      | with_reducible refine cin_22 ?_
      | with_reducible refine cin_23 ?_
      | with_reducible refine cin_24 (T := T) ?_ ?_
      | with_reducible refine cin_25 (T := T) ?_ ?_
      | with_reducible refine cin_26 (T := T) ?_ ?_
      | with_reducible refine cin_27 (T := T) ?_ ?_
      | with_reducible refine cin_28 (T := T) ?_ ?_
      | with_reducible refine cin_29 (T := T) ?_ ?_
      | with_reducible refine cin_30 (T := T) ?_ ?_
      | with_reducible refine cin_31 (T := T) ?_ ?_
      | with_reducible refine cin_32 (T := T) ?_ ?_
      | with_reducible refine cin_33 (T := T) ?_ ?_
      | with_reducible refine cin_34 (T := T) ?_ ?_
      | with_reducible refine cs_2 ?_
      | with_reducible exact vid_lt (by assumption) (by assumption)
      | with_reducible exact vp_c0
      | with_reducible exact vp_c1
      | with_reducible exact vp_c2
      | with_reducible exact vp_item (by assumption) (by assumption) (by assumption) (by assumption)
      | with_reducible exact has_vp (by assumption) (by assumption)
      | with_reducible exact dead_vp (by assumption) (by assumption)
      | with_reducible exact lw_vp (by assumption) (by assumption)
      | with_reducible refine vp_3 ?_ ?_
      | with_reducible refine vp_4 ?_ ?_
      | with_reducible refine vp_8 ?_ ?_
      | with_reducible refine vp_11 ?_ ?_
      | with_reducible refine vp_15 ?_ ?_
      | with_reducible refine vp_16 ?_ ?_
      | with_reducible refine vp_20 ?_ ?_
      | with_reducible refine vp_60 ?_ ?_
      | with_reducible refine vp_80 ?_ ?_
      | contradiction))

theorem lp_X6_goOver_61 {S : CST} {K1 K2 : CST → Nat → Prop} {K3 : CST → Int32 → Prop} {i : Nat} {Post : CST → Int32 → Prop} {T : Nat × Nat} (hi : i < T.1) (hv : ∀ j : Nat, vid (cv S 20 0 j) T.1) (hK1 : ∀ S' : CST, S'.2 = T → Ex [103, 110, 270] S S' → K1 S' i) (hK2 : ∀ S' : CST, S'.2 = T → Ex [103, 110, 270] S S' → K2 S' i) (hK3 : ∀ (S' : CST) (r : Int32), S'.2 = T → Ex [103, 110, 270] S S' → K3 S' r)  : ∀ (n j : Nat) (S' : CST), j + n = 2147483647 → S'.2 = T → Ex [103, 110, 270] S S' → wl_X6_goOver_61 K1 K2 K3 Post (n + 1) S' i (nI j) := by
  intro n
  induction n with
  | zero =>
    intro j S' hj s0 s1
    have hneg : ¬ nI j < 0 := nI_nn j (by omega)
    have hz : ∀ r : Int32, r ≤ nI j := by
      obtain rfl : j = 2147483647 := by omega
      exact z_max
    unfold wl_X6_goOver_61
    repeat (any_goals (first
      | with_reducible refine ⟨?_, ?_⟩
      | with_reducible rintro _ rfl
      | with_reducible intro _
      | exact absurd (hz _) (by assumption)
      | (refine hK1 _ ?_ (by (repeat (first | with_reducible exact Ex.rf | with_reducible assumption | with_reducible refine Ex.cs (by decide) ?_ | with_reducible refine Ex.step (by assumption) (by decide) ?_)); done))
      | (refine hK2 _ ?_ (by (repeat (first | with_reducible exact Ex.rf | with_reducible assumption | with_reducible refine Ex.cs (by decide) ?_ | with_reducible refine Ex.step (by assumption) (by decide) ?_)); done))
      | (refine hK3 _ _ ?_ (by (repeat (first | with_reducible exact Ex.rf | with_reducible assumption | with_reducible refine Ex.cs (by decide) ?_ | with_reducible refine Ex.step (by assumption) (by decide) ?_)); done))
      | ((repeat (first | with_reducible exact Ex.rf | with_reducible assumption | with_reducible refine Ex.cs (by decide) ?_ | with_reducible refine Ex.step (by assumption) (by decide) ?_)); done)
      | with_reducible refine sp_X6_leastWaiting (T := T) ?_ (fun _ _ => ?_)
      | with_reducible refine sp_X6_faultAt (T := T) ?_ ?_ (hv_ex (S := S) (L := [103, 110, 270]) hv (by (repeat (first | with_reducible exact Ex.rf | with_reducible assumption | with_reducible refine Ex.cs (by decide) ?_ | with_reducible refine Ex.step (by assumption) (by decide) ?_)); done) rfl) (fun _ _ _ _ => ?_)
      | with_reducible assumption
      | with_reducible exact cin_0
      | with_reducible exact cin_1
      | with_reducible exact cin_2
      | with_reducible exact cin_3
      | with_reducible exact cin_4
      | with_reducible exact cin_5
      | with_reducible exact cin_6
      | with_reducible exact cin_7
      | with_reducible exact cin_8
      | with_reducible exact cin_9
      | with_reducible exact cin_10
      | with_reducible exact cin_11
      | with_reducible exact cin_12
      | with_reducible exact cin_13
      | with_reducible exact cin_14
      | with_reducible exact cin_15
      | with_reducible exact cin_16
      | with_reducible exact cin_17
      | with_reducible exact cin_18
      | with_reducible exact cin_19
      | with_reducible exact cin_20
      | with_reducible exact cin_21
      | with_reducible refine cin_22 ?_
      | with_reducible refine cin_23 ?_
      | with_reducible refine cin_24 (T := T) ?_ ?_
      | with_reducible refine cin_25 (T := T) ?_ ?_
      | with_reducible refine cin_26 (T := T) ?_ ?_
      | with_reducible refine cin_27 (T := T) ?_ ?_
      | with_reducible refine cin_28 (T := T) ?_ ?_
      | with_reducible refine cin_29 (T := T) ?_ ?_
      | with_reducible refine cin_30 (T := T) ?_ ?_
      | with_reducible refine cin_31 (T := T) ?_ ?_
      | with_reducible refine cin_32 (T := T) ?_ ?_
      | with_reducible refine cin_33 (T := T) ?_ ?_
      | with_reducible refine cin_34 (T := T) ?_ ?_
      | with_reducible refine cs_2 ?_
      | with_reducible exact vid_lt (by assumption) (by assumption)
      | with_reducible exact vp_c0
      | with_reducible exact vp_c1
      | with_reducible exact vp_c2
      | with_reducible exact vp_item (by assumption) (by assumption) (by assumption) (by assumption)
      | with_reducible exact has_vp (by assumption) (by assumption)
      | with_reducible exact dead_vp (by assumption) (by assumption)
      | with_reducible exact lw_vp (by assumption) (by assumption)
      | with_reducible refine vp_3 ?_ ?_
      | with_reducible refine vp_4 ?_ ?_
      | with_reducible refine vp_8 ?_ ?_
      | with_reducible refine vp_11 ?_ ?_
      | with_reducible refine vp_15 ?_ ?_
      | with_reducible refine vp_16 ?_ ?_
      | with_reducible refine vp_20 ?_ ?_
      | with_reducible refine vp_60 ?_ ?_
      | with_reducible refine vp_80 ?_ ?_
      | contradiction))
  | succ n ih =>
    intro j S' hj s0 s1
    have hneg : ¬ nI j < 0 := nI_nn j (by omega)
    unfold wl_X6_goOver_61
    repeat (any_goals (first
      | with_reducible refine ⟨?_, ?_⟩
      | with_reducible rintro _ rfl
      | with_reducible intro _
      | (rw [nI_1]; refine ih (j + 1) _ (by omega) ?_ ?_)
      | (refine hK1 _ ?_ (by (repeat (first | with_reducible exact Ex.rf | with_reducible assumption | with_reducible refine Ex.cs (by decide) ?_ | with_reducible refine Ex.step (by assumption) (by decide) ?_)); done))
      | (refine hK2 _ ?_ (by (repeat (first | with_reducible exact Ex.rf | with_reducible assumption | with_reducible refine Ex.cs (by decide) ?_ | with_reducible refine Ex.step (by assumption) (by decide) ?_)); done))
      | (refine hK3 _ _ ?_ (by (repeat (first | with_reducible exact Ex.rf | with_reducible assumption | with_reducible refine Ex.cs (by decide) ?_ | with_reducible refine Ex.step (by assumption) (by decide) ?_)); done))
      | ((repeat (first | with_reducible exact Ex.rf | with_reducible assumption | with_reducible refine Ex.cs (by decide) ?_ | with_reducible refine Ex.step (by assumption) (by decide) ?_)); done)
      | with_reducible refine sp_X6_leastWaiting (T := T) ?_ (fun _ _ => ?_)
      | with_reducible refine sp_X6_faultAt (T := T) ?_ ?_ (hv_ex (S := S) (L := [103, 110, 270]) hv (by (repeat (first | with_reducible exact Ex.rf | with_reducible assumption | with_reducible refine Ex.cs (by decide) ?_ | with_reducible refine Ex.step (by assumption) (by decide) ?_)); done) rfl) (fun _ _ _ _ => ?_)
      | with_reducible assumption
      | with_reducible exact cin_0
      | with_reducible exact cin_1
      | with_reducible exact cin_2
      | with_reducible exact cin_3
      | with_reducible exact cin_4
      | with_reducible exact cin_5
      | with_reducible exact cin_6
      | with_reducible exact cin_7
      | with_reducible exact cin_8
      | with_reducible exact cin_9
      | with_reducible exact cin_10
      | with_reducible exact cin_11
      | with_reducible exact cin_12
      | with_reducible exact cin_13
      | with_reducible exact cin_14
      | with_reducible exact cin_15
      | with_reducible exact cin_16
      | with_reducible exact cin_17
      | with_reducible exact cin_18
      | with_reducible exact cin_19
      | with_reducible exact cin_20
      | with_reducible exact cin_21
      | with_reducible refine cin_22 ?_
      | with_reducible refine cin_23 ?_
      | with_reducible refine cin_24 (T := T) ?_ ?_
      | with_reducible refine cin_25 (T := T) ?_ ?_
      | with_reducible refine cin_26 (T := T) ?_ ?_
      | with_reducible refine cin_27 (T := T) ?_ ?_
      | with_reducible refine cin_28 (T := T) ?_ ?_
      | with_reducible refine cin_29 (T := T) ?_ ?_
      | with_reducible refine cin_30 (T := T) ?_ ?_
      | with_reducible refine cin_31 (T := T) ?_ ?_
      | with_reducible refine cin_32 (T := T) ?_ ?_
      | with_reducible refine cin_33 (T := T) ?_ ?_
      | with_reducible refine cin_34 (T := T) ?_ ?_
      | with_reducible refine cs_2 ?_
      | with_reducible exact vid_lt (by assumption) (by assumption)
      | with_reducible exact vp_c0
      | with_reducible exact vp_c1
      | with_reducible exact vp_c2
      | with_reducible exact vp_item (by assumption) (by assumption) (by assumption) (by assumption)
      | with_reducible exact has_vp (by assumption) (by assumption)
      | with_reducible exact dead_vp (by assumption) (by assumption)
      | with_reducible exact lw_vp (by assumption) (by assumption)
      | with_reducible refine vp_3 ?_ ?_
      | with_reducible refine vp_4 ?_ ?_
      | with_reducible refine vp_8 ?_ ?_
      | with_reducible refine vp_11 ?_ ?_
      | with_reducible refine vp_15 ?_ ?_
      | with_reducible refine vp_16 ?_ ?_
      | with_reducible refine vp_20 ?_ ?_
      | with_reducible refine vp_60 ?_ ?_
      | with_reducible refine vp_80 ?_ ?_
      | contradiction))

