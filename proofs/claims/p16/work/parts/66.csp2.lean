theorem sp_X4_put {S : CST} {i : Nat} {a1 : Int32} {a2 : Int32} {T : Nat × Nat} {Post : CST → Prop} (hT : S.2 = T) (hi : i < 16) (h : ∀ (S' : CST), S'.2 = T → Ex [230] S S' → Post S') : wp_X4_put S i a1 a2 Post := by
  unfold wp_X4_put
  repeat (any_goals (first
    | with_reducible refine ⟨?_, ?_⟩
    | with_reducible rintro _ rfl
    | with_reducible intro _
    | (refine h _ (by assumption) (by (repeat (first | with_reducible exact Ex.rf | with_reducible assumption | with_reducible refine Ex.cs (by decide) ?_ | with_reducible refine Ex.step (by assumption) (by decide) ?_)); done))
    | with_reducible assumption
    | with_reducible exact cin_0
    | with_reducible exact cin_1
    | with_reducible exact cin_2
    | with_reducible exact cin_3
    | with_reducible exact cin_4
    | with_reducible exact cin_5
    | with_reducible exact cin_6
    | with_reducible exact cin_7
    | with_reducible exact cin_8
    | with_reducible exact cin_9
    | with_reducible exact cin_10
    | with_reducible exact cin_11
    | with_reducible exact cin_12
    | with_reducible exact cin_13
    | with_reducible exact cin_14
    | with_reducible exact cin_15
    | with_reducible exact cin_16
    | with_reducible exact cin_17
    | with_reducible exact cin_18
    | with_reducible exact cin_19
    | with_reducible exact cin_20
    | with_reducible exact cin_21
    | with_reducible refine cin_22 ?_
    | with_reducible refine cin_23 ?_
    | with_reducible refine cin_24 (T := T) ?_ ?_
    | with_reducible refine cin_25 (T := T) ?_ ?_
    | with_reducible refine cin_26 (T := T) ?_ ?_
    | with_reducible refine cin_27 (T := T) ?_ ?_
    | with_reducible refine cin_28 (T := T) ?_ ?_
    | with_reducible refine cin_29 (T := T) ?_ ?_
    | with_reducible refine cin_30 (T := T) ?_ ?_
    | with_reducible refine cin_31 (T := T) ?_ ?_
    | with_reducible refine cin_32 (T := T) ?_ ?_
    | with_reducible refine cin_33 (T := T) ?_ ?_
    | with_reducible refine cin_34 (T := T) ?_ ?_
    | with_reducible refine cs_2 ?_
    | with_reducible exact vid_lt (by assumption) (by assumption)
    | with_reducible exact vp_c0
    | with_reducible exact vp_c1
    | with_reducible exact vp_c2
    | with_reducible exact vp_item (by assumption) (by assumption) (by assumption) (by assumption)
    | with_reducible exact has_vp (by assumption) (by assumption)
    | with_reducible exact dead_vp (by assumption) (by assumption)
    | with_reducible exact lw_vp (by assumption) (by assumption)
    | with_reducible refine vp_3 ?_ ?_
    | with_reducible refine vp_4 ?_ ?_
    | with_reducible refine vp_8 ?_ ?_
    | with_reducible refine vp_11 ?_ ?_
    | with_reducible refine vp_15 ?_ ?_
    | with_reducible refine vp_16 ?_ ?_
    | with_reducible refine vp_20 ?_ ?_
    | with_reducible refine vp_60 ?_ ?_
    | with_reducible refine vp_80 ?_ ?_
    | contradiction))

theorem sp_X9_forget {S : CST} {a1 : Int32} {T : Nat × Nat} {Post : CST → Prop} (hT : S.2 = T) (h : ∀ (S' : CST), S'.2 = T → Ex [160] S S' → Post S') : wp_X9_forget S a1 Post := by
  unfold wp_X9_forget
  repeat (any_goals (first
    | with_reducible refine ⟨?_, ?_⟩
    | with_reducible rintro _ rfl
    | with_reducible intro _
    | (refine h _ (by assumption) (by (repeat (first | with_reducible exact Ex.rf | with_reducible assumption | with_reducible refine Ex.cs (by decide) ?_ | with_reducible refine Ex.step (by assumption) (by decide) ?_)); done))
    | with_reducible assumption
    | with_reducible exact cin_0
    | with_reducible exact cin_1
    | with_reducible exact cin_2
    | with_reducible exact cin_3
    | with_reducible exact cin_4
    | with_reducible exact cin_5
    | with_reducible exact cin_6
    | with_reducible exact cin_7
    | with_reducible exact cin_8
    | with_reducible exact cin_9
    | with_reducible exact cin_10
    | with_reducible exact cin_11
    | with_reducible exact cin_12
    | with_reducible exact cin_13
    | with_reducible exact cin_14
    | with_reducible exact cin_15
    | with_reducible exact cin_16
    | with_reducible exact cin_17
    | with_reducible exact cin_18
    | with_reducible exact cin_19
    | with_reducible exact cin_20
    | with_reducible exact cin_21
    | with_reducible refine cin_22 ?_
    | with_reducible refine cin_23 ?_
    | with_reducible refine cin_24 (T := T) ?_ ?_
    | with_reducible refine cin_25 (T := T) ?_ ?_
    | with_reducible refine cin_26 (T := T) ?_ ?_
    | with_reducible refine cin_27 (T := T) ?_ ?_
    | with_reducible refine cin_28 (T := T) ?_ ?_
    | with_reducible refine cin_29 (T := T) ?_ ?_
    | with_reducible refine cin_30 (T := T) ?_ ?_
    | with_reducible refine cin_31 (T := T) ?_ ?_
    | with_reducible refine cin_32 (T := T) ?_ ?_
    | with_reducible refine cin_33 (T := T) ?_ ?_
    | with_reducible refine cin_34 (T := T) ?_ ?_
    | with_reducible refine cs_2 ?_
    | with_reducible exact vid_lt (by assumption) (by assumption)
    | with_reducible exact vp_c0
    | with_reducible exact vp_c1
    | with_reducible exact vp_c2
    | with_reducible exact vp_item (by assumption) (by assumption) (by assumption) (by assumption)
    | with_reducible exact has_vp (by assumption) (by assumption)
    | with_reducible exact dead_vp (by assumption) (by assumption)
    | with_reducible exact lw_vp (by assumption) (by assumption)
    | with_reducible refine vp_3 ?_ ?_
    | with_reducible refine vp_4 ?_ ?_
    | with_reducible refine vp_8 ?_ ?_
    | with_reducible refine vp_11 ?_ ?_
    | with_reducible refine vp_15 ?_ ?_
    | with_reducible refine vp_16 ?_ ?_
    | with_reducible refine vp_20 ?_ ?_
    | with_reducible refine vp_60 ?_ ?_
    | with_reducible refine vp_80 ?_ ?_
    | contradiction))

theorem sp_X9_know {S : CST} {a1 : Int32} {a2 : Int32} {T : Nat × Nat} {Post : CST → Prop} (hT : S.2 = T) (h : ∀ (S' : CST), S'.2 = T → Ex [160, 170] S S' → Post S') : wp_X9_know S a1 a2 Post := by
  unfold wp_X9_know
  repeat (any_goals (first
    | with_reducible refine ⟨?_, ?_⟩
    | with_reducible rintro _ rfl
    | with_reducible intro _
    | (refine h _ (by assumption) (by (repeat (first | with_reducible exact Ex.rf | with_reducible assumption | with_reducible refine Ex.cs (by decide) ?_ | with_reducible refine Ex.step (by assumption) (by decide) ?_)); done))
    | with_reducible assumption
    | with_reducible exact cin_0
    | with_reducible exact cin_1
    | with_reducible exact cin_2
    | with_reducible exact cin_3
    | with_reducible exact cin_4
    | with_reducible exact cin_5
    | with_reducible exact cin_6
    | with_reducible exact cin_7
    | with_reducible exact cin_8
    | with_reducible exact cin_9
    | with_reducible exact cin_10
    | with_reducible exact cin_11
    | with_reducible exact cin_12
    | with_reducible exact cin_13
    | with_reducible exact cin_14
    | with_reducible exact cin_15
    | with_reducible exact cin_16
    | with_reducible exact cin_17
    | with_reducible exact cin_18
    | with_reducible exact cin_19
    | with_reducible exact cin_20
    | with_reducible exact cin_21
    | with_reducible refine cin_22 ?_
    | with_reducible refine cin_23 ?_
    | with_reducible refine cin_24 (T := T) ?_ ?_
    | with_reducible refine cin_25 (T := T) ?_ ?_
    | with_reducible refine cin_26 (T := T) ?_ ?_
    | with_reducible refine cin_27 (T := T) ?_ ?_
    | with_reducible refine cin_28 (T := T) ?_ ?_
    | with_reducible refine cin_29 (T := T) ?_ ?_
    | with_reducible refine cin_30 (T := T) ?_ ?_
    | with_reducible refine cin_31 (T := T) ?_ ?_
    | with_reducible refine cin_32 (T := T) ?_ ?_
    | with_reducible refine cin_33 (T := T) ?_ ?_
    | with_reducible refine cin_34 (T := T) ?_ ?_
    | with_reducible refine cs_2 ?_
    | with_reducible exact vid_lt (by assumption) (by assumption)
    | with_reducible exact vp_c0
    | with_reducible exact vp_c1
    | with_reducible exact vp_c2
    | with_reducible exact vp_item (by assumption) (by assumption) (by assumption) (by assumption)
    | with_reducible exact has_vp (by assumption) (by assumption)
    | with_reducible exact dead_vp (by assumption) (by assumption)
    | with_reducible exact lw_vp (by assumption) (by assumption)
    | with_reducible refine vp_3 ?_ ?_
    | with_reducible refine vp_4 ?_ ?_
    | with_reducible refine vp_8 ?_ ?_
    | with_reducible refine vp_11 ?_ ?_
    | with_reducible refine vp_15 ?_ ?_
    | with_reducible refine vp_16 ?_ ?_
    | with_reducible refine vp_20 ?_ ?_
    | with_reducible refine vp_60 ?_ ?_
    | with_reducible refine vp_80 ?_ ?_
    | contradiction))

theorem sp_X2_put {S : CST} {a1 : Int32} {a2 : Int32} {T : Nat × Nat} {Post : CST → Prop} (hT : S.2 = T) (h : ∀ (S' : CST), S'.2 = T → Ex [40] S S' → Post S') : wp_X2_put S a1 a2 Post := by
  unfold wp_X2_put
  repeat (any_goals (first
    | with_reducible refine ⟨?_, ?_⟩
    | with_reducible rintro _ rfl
    | with_reducible intro _
    | (refine h _ (by assumption) (by (repeat (first | with_reducible exact Ex.rf | with_reducible assumption | with_reducible refine Ex.cs (by decide) ?_ | with_reducible refine Ex.step (by assumption) (by decide) ?_)); done))
    | with_reducible assumption
    | with_reducible exact cin_0
    | with_reducible exact cin_1
    | with_reducible exact cin_2
    | with_reducible exact cin_3
    | with_reducible exact cin_4
    | with_reducible exact cin_5
    | with_reducible exact cin_6
    | with_reducible exact cin_7
    | with_reducible exact cin_8
    | with_reducible exact cin_9
    | with_reducible exact cin_10
    | with_reducible exact cin_11
    | with_reducible exact cin_12
    | with_reducible exact cin_13
    | with_reducible exact cin_14
    | with_reducible exact cin_15
    | with_reducible exact cin_16
    | with_reducible exact cin_17
    | with_reducible exact cin_18
    | with_reducible exact cin_19
    | with_reducible exact cin_20
    | with_reducible exact cin_21
    | with_reducible refine cin_22 ?_
    | with_reducible refine cin_23 ?_
    | with_reducible refine cin_24 (T := T) ?_ ?_
    | with_reducible refine cin_25 (T := T) ?_ ?_
    | with_reducible refine cin_26 (T := T) ?_ ?_
    | with_reducible refine cin_27 (T := T) ?_ ?_
    | with_reducible refine cin_28 (T := T) ?_ ?_
    | with_reducible refine cin_29 (T := T) ?_ ?_
    | with_reducible refine cin_30 (T := T) ?_ ?_
    | with_reducible refine cin_31 (T := T) ?_ ?_
    | with_reducible refine cin_32 (T := T) ?_ ?_
    | with_reducible refine cin_33 (T := T) ?_ ?_
    | with_reducible refine cin_34 (T := T) ?_ ?_
    | with_reducible refine cs_2 ?_
    | with_reducible exact vid_lt (by assumption) (by assumption)
    | with_reducible exact vp_c0
    | with_reducible exact vp_c1
    | with_reducible exact vp_c2
    | with_reducible exact vp_item (by assumption) (by assumption) (by assumption) (by assumption)
    | with_reducible exact has_vp (by assumption) (by assumption)
    | with_reducible exact dead_vp (by assumption) (by assumption)
    | with_reducible exact lw_vp (by assumption) (by assumption)
    | with_reducible refine vp_3 ?_ ?_
    | with_reducible refine vp_4 ?_ ?_
    | with_reducible refine vp_8 ?_ ?_
    | with_reducible refine vp_11 ?_ ?_
    | with_reducible refine vp_15 ?_ ?_
    | with_reducible refine vp_16 ?_ ?_
    | with_reducible refine vp_20 ?_ ?_
    | with_reducible refine vp_60 ?_ ?_
    | with_reducible refine vp_80 ?_ ?_
    | contradiction))

theorem sp_X2_putItem {S : CST} {a1 : Int32} {a2 : Int32} {a3 : Int32} {T : Nat × Nat} {Post : CST → Prop} (hT : S.2 = T) (h : ∀ (S' : CST), S'.2 = T → Ex [60] S S' → Post S') : wp_X2_putItem S a1 a2 a3 Post := by
  unfold wp_X2_putItem
  repeat (any_goals (first
    | with_reducible refine ⟨?_, ?_⟩
    | with_reducible rintro _ rfl
    | with_reducible intro _
    | (refine h _ (by assumption) (by (repeat (first | with_reducible exact Ex.rf | with_reducible assumption | with_reducible refine Ex.cs (by decide) ?_ | with_reducible refine Ex.step (by assumption) (by decide) ?_)); done))
    | with_reducible refine sp_X2_lengthOf (fun _ _ => ?_)
    | with_reducible assumption
    | with_reducible exact cin_0
    | with_reducible exact cin_1
    | with_reducible exact cin_2
    | with_reducible exact cin_3
    | with_reducible exact cin_4
    | with_reducible exact cin_5
    | with_reducible exact cin_6
    | with_reducible exact cin_7
    | with_reducible exact cin_8
    | with_reducible exact cin_9
    | with_reducible exact cin_10
    | with_reducible exact cin_11
    | with_reducible exact cin_12
    | with_reducible exact cin_13
    | with_reducible exact cin_14
    | with_reducible exact cin_15
    | with_reducible exact cin_16
    | with_reducible exact cin_17
    | with_reducible exact cin_18
    | with_reducible exact cin_19
    | with_reducible exact cin_20
    | with_reducible exact cin_21
    | with_reducible refine cin_22 ?_
    | with_reducible refine cin_23 ?_
    | with_reducible refine cin_24 (T := T) ?_ ?_
    | with_reducible refine cin_25 (T := T) ?_ ?_
    | with_reducible refine cin_26 (T := T) ?_ ?_
    | with_reducible refine cin_27 (T := T) ?_ ?_
    | with_reducible refine cin_28 (T := T) ?_ ?_
    | with_reducible refine cin_29 (T := T) ?_ ?_
    | with_reducible refine cin_30 (T := T) ?_ ?_
    | with_reducible refine cin_31 (T := T) ?_ ?_
    | with_reducible refine cin_32 (T := T) ?_ ?_
    | with_reducible refine cin_33 (T := T) ?_ ?_
    | with_reducible refine cin_34 (T := T) ?_ ?_
    | with_reducible refine cs_2 ?_
    | with_reducible exact vid_lt (by assumption) (by assumption)
    | with_reducible exact vp_c0
    | with_reducible exact vp_c1
    | with_reducible exact vp_c2
    | with_reducible exact vp_item (by assumption) (by assumption) (by assumption) (by assumption)
    | with_reducible exact has_vp (by assumption) (by assumption)
    | with_reducible exact dead_vp (by assumption) (by assumption)
    | with_reducible exact lw_vp (by assumption) (by assumption)
    | with_reducible refine vp_3 ?_ ?_
    | with_reducible refine vp_4 ?_ ?_
    | with_reducible refine vp_8 ?_ ?_
    | with_reducible refine vp_11 ?_ ?_
    | with_reducible refine vp_15 ?_ ?_
    | with_reducible refine vp_16 ?_ ?_
    | with_reducible refine vp_20 ?_ ?_
    | with_reducible refine vp_60 ?_ ?_
    | with_reducible refine vp_80 ?_ ?_
    | contradiction))

theorem sp_X3_begin {S : CST} {a1 : Int32} {T : Nat × Nat} {Post : CST → Prop} (hT : S.2 = T) (h : ∀ (S' : CST), S'.2 = T → Ex [90] S S' → Post S') : wp_X3_begin S a1 Post := by
  unfold wp_X3_begin
  repeat (any_goals (first
    | with_reducible refine ⟨?_, ?_⟩
    | with_reducible rintro _ rfl
    | with_reducible intro _
    | (refine h _ (by assumption) (by (repeat (first | with_reducible exact Ex.rf | with_reducible assumption | with_reducible refine Ex.cs (by decide) ?_ | with_reducible refine Ex.step (by assumption) (by decide) ?_)); done))
    | with_reducible assumption
    | with_reducible exact cin_0
    | with_reducible exact cin_1
    | with_reducible exact cin_2
    | with_reducible exact cin_3
    | with_reducible exact cin_4
    | with_reducible exact cin_5
    | with_reducible exact cin_6
    | with_reducible exact cin_7
    | with_reducible exact cin_8
    | with_reducible exact cin_9
    | with_reducible exact cin_10
    | with_reducible exact cin_11
    | with_reducible exact cin_12
    | with_reducible exact cin_13
    | with_reducible exact cin_14
    | with_reducible exact cin_15
    | with_reducible exact cin_16
    | with_reducible exact cin_17
    | with_reducible exact cin_18
    | with_reducible exact cin_19
    | with_reducible exact cin_20
    | with_reducible exact cin_21
    | with_reducible refine cin_22 ?_
    | with_reducible refine cin_23 ?_
    | with_reducible refine cin_24 (T := T) ?_ ?_
    | with_reducible refine cin_25 (T := T) ?_ ?_
    | with_reducible refine cin_26 (T := T) ?_ ?_
    | with_reducible refine cin_27 (T := T) ?_ ?_
    | with_reducible refine cin_28 (T := T) ?_ ?_
    | with_reducible refine cin_29 (T := T) ?_ ?_
    | with_reducible refine cin_30 (T := T) ?_ ?_
    | with_reducible refine cin_31 (T := T) ?_ ?_
    | with_reducible refine cin_32 (T := T) ?_ ?_
    | with_reducible refine cin_33 (T := T) ?_ ?_
    | with_reducible refine cin_34 (T := T) ?_ ?_
    | with_reducible refine cs_2 ?_
    | with_reducible exact vid_lt (by assumption) (by assumption)
    | with_reducible exact vp_c0
    | with_reducible exact vp_c1
    | with_reducible exact vp_c2
    | with_reducible exact vp_item (by assumption) (by assumption) (by assumption) (by assumption)
    | with_reducible exact has_vp (by assumption) (by assumption)
    | with_reducible exact dead_vp (by assumption) (by assumption)
    | with_reducible exact lw_vp (by assumption) (by assumption)
    | with_reducible refine vp_3 ?_ ?_
    | with_reducible refine vp_4 ?_ ?_
    | with_reducible refine vp_8 ?_ ?_
    | with_reducible refine vp_11 ?_ ?_
    | with_reducible refine vp_15 ?_ ?_
    | with_reducible refine vp_16 ?_ ?_
    | with_reducible refine vp_20 ?_ ?_
    | with_reducible refine vp_60 ?_ ?_
    | with_reducible refine vp_80 ?_ ?_
    | contradiction))

theorem sp_X8_comeTo {S : CST} {i : Nat} {a1 : Int32} {a2 : Int32} {T : Nat × Nat} {Post : CST → Prop} (hT : S.2 = T) (hi : i < T.1) (h : ∀ (S' : CST), S'.2 = T → Ex [270] S S' → Post S') : wp_X8_comeTo S i a1 a2 Post := by
  unfold wp_X8_comeTo
  repeat (any_goals (first
    | with_reducible refine ⟨?_, ?_⟩
    | with_reducible rintro _ rfl
    | with_reducible intro _
    | (refine h _ (by assumption) (by (repeat (first | with_reducible exact Ex.rf | with_reducible assumption | with_reducible refine Ex.cs (by decide) ?_ | with_reducible refine Ex.step (by assumption) (by decide) ?_)); done))
    | with_reducible refine sp_X8_has (T := T) ?_ ?_ (fun _ _ => ?_)
    | with_reducible assumption
    | with_reducible exact cin_0
    | with_reducible exact cin_1
    | with_reducible exact cin_2
    | with_reducible exact cin_3
    | with_reducible exact cin_4
    | with_reducible exact cin_5
    | with_reducible exact cin_6
    | with_reducible exact cin_7
    | with_reducible exact cin_8
    | with_reducible exact cin_9
    | with_reducible exact cin_10
    | with_reducible exact cin_11
    | with_reducible exact cin_12
    | with_reducible exact cin_13
    | with_reducible exact cin_14
    | with_reducible exact cin_15
    | with_reducible exact cin_16
    | with_reducible exact cin_17
    | with_reducible exact cin_18
    | with_reducible exact cin_19
    | with_reducible exact cin_20
    | with_reducible exact cin_21
    | with_reducible refine cin_22 ?_
    | with_reducible refine cin_23 ?_
    | with_reducible refine cin_24 (T := T) ?_ ?_
    | with_reducible refine cin_25 (T := T) ?_ ?_
    | with_reducible refine cin_26 (T := T) ?_ ?_
    | with_reducible refine cin_27 (T := T) ?_ ?_
    | with_reducible refine cin_28 (T := T) ?_ ?_
    | with_reducible refine cin_29 (T := T) ?_ ?_
    | with_reducible refine cin_30 (T := T) ?_ ?_
    | with_reducible refine cin_31 (T := T) ?_ ?_
    | with_reducible refine cin_32 (T := T) ?_ ?_
    | with_reducible refine cin_33 (T := T) ?_ ?_
    | with_reducible refine cin_34 (T := T) ?_ ?_
    | with_reducible refine cs_2 ?_
    | with_reducible exact vid_lt (by assumption) (by assumption)
    | with_reducible exact vp_c0
    | with_reducible exact vp_c1
    | with_reducible exact vp_c2
    | with_reducible exact vp_item (by assumption) (by assumption) (by assumption) (by assumption)
    | with_reducible exact has_vp (by assumption) (by assumption)
    | with_reducible exact dead_vp (by assumption) (by assumption)
    | with_reducible exact lw_vp (by assumption) (by assumption)
    | with_reducible refine vp_3 ?_ ?_
    | with_reducible refine vp_4 ?_ ?_
    | with_reducible refine vp_8 ?_ ?_
    | with_reducible refine vp_11 ?_ ?_
    | with_reducible refine vp_15 ?_ ?_
    | with_reducible refine vp_16 ?_ ?_
    | with_reducible refine vp_20 ?_ ?_
    | with_reducible refine vp_60 ?_ ?_
    | with_reducible refine vp_80 ?_ ?_
    | contradiction))

theorem sp_X9_isCopyKnown {S : CST} {a1 : Int32} {a2 : Int32} {T : Nat × Nat} {Post : CST → Int32 → Prop} (hT : S.2 = T) (h : ∀ (S' : CST) (r : Int32), S'.2 = T → Ex [160, 170] S S' → Post S' r) : wp_X9_isCopyKnown S a1 a2 Post := by
  unfold wp_X9_isCopyKnown
  repeat (any_goals (first
    | with_reducible refine ⟨?_, ?_⟩
    | with_reducible rintro _ rfl
    | with_reducible intro _
    | (refine h _ _ (by assumption) (by (repeat (first | with_reducible exact Ex.rf | with_reducible assumption | with_reducible refine Ex.cs (by decide) ?_ | with_reducible refine Ex.step (by assumption) (by decide) ?_)); done))
    | with_reducible refine sp_X9_isKnown  (fun _ => ?_)
    | with_reducible refine sp_X9_worthOf  (fun _ => ?_)
    | with_reducible refine sp_X9_know (T := T) ?_ (fun _ _ _ => ?_)
    | with_reducible assumption
    | with_reducible exact cin_0
    | with_reducible exact cin_1
    | with_reducible exact cin_2
    | with_reducible exact cin_3
    | with_reducible exact cin_4
    | with_reducible exact cin_5
    | with_reducible exact cin_6
    | with_reducible exact cin_7
    | with_reducible exact cin_8
    | with_reducible exact cin_9
    | with_reducible exact cin_10
    | with_reducible exact cin_11
    | with_reducible exact cin_12
    | with_reducible exact cin_13
    | with_reducible exact cin_14
    | with_reducible exact cin_15
    | with_reducible exact cin_16
    | with_reducible exact cin_17
    | with_reducible exact cin_18
    | with_reducible exact cin_19
    | with_reducible exact cin_20
    | with_reducible exact cin_21
    | with_reducible refine cin_22 ?_
    | with_reducible refine cin_23 ?_
    | with_reducible refine cin_24 (T := T) ?_ ?_
    | with_reducible refine cin_25 (T := T) ?_ ?_
    | with_reducible refine cin_26 (T := T) ?_ ?_
    | with_reducible refine cin_27 (T := T) ?_ ?_
    | with_reducible refine cin_28 (T := T) ?_ ?_
    | with_reducible refine cin_29 (T := T) ?_ ?_
    | with_reducible refine cin_30 (T := T) ?_ ?_
    | with_reducible refine cin_31 (T := T) ?_ ?_
    | with_reducible refine cin_32 (T := T) ?_ ?_
    | with_reducible refine cin_33 (T := T) ?_ ?_
    | with_reducible refine cin_34 (T := T) ?_ ?_
    | with_reducible refine cs_2 ?_
    | with_reducible exact vid_lt (by assumption) (by assumption)
    | with_reducible exact vp_c0
    | with_reducible exact vp_c1
    | with_reducible exact vp_c2
    | with_reducible exact vp_item (by assumption) (by assumption) (by assumption) (by assumption)
    | with_reducible exact has_vp (by assumption) (by assumption)
    | with_reducible exact dead_vp (by assumption) (by assumption)
    | with_reducible exact lw_vp (by assumption) (by assumption)
    | with_reducible refine vp_3 ?_ ?_
    | with_reducible refine vp_4 ?_ ?_
    | with_reducible refine vp_8 ?_ ?_
    | with_reducible refine vp_11 ?_ ?_
    | with_reducible refine vp_15 ?_ ?_
    | with_reducible refine vp_16 ?_ ?_
    | with_reducible refine vp_20 ?_ ?_
    | with_reducible refine vp_60 ?_ ?_
    | with_reducible refine vp_80 ?_ ?_
    | contradiction))

theorem sp_X10_noteTrap {S : CST} {a1 : Int32} {a2 : Int32} {a3 : Int32} {a4 : Int32} {T : Nat × Nat} {Post : CST → Prop} (hT : S.2 = T) (h : ∀ (S' : CST), S'.2 = T → Ex [210] S S' → Post S') : wp_X10_noteTrap S a1 a2 a3 a4 Post := by
  unfold wp_X10_noteTrap
  repeat (any_goals (first
    | with_reducible refine ⟨?_, ?_⟩
    | with_reducible rintro _ rfl
    | with_reducible intro _
    | (refine h _ (by assumption) (by (repeat (first | with_reducible exact Ex.rf | with_reducible assumption | with_reducible refine Ex.cs (by decide) ?_ | with_reducible refine Ex.step (by assumption) (by decide) ?_)); done))
    | (exact (by unfold vp_in; decide))
    | with_reducible assumption
    | with_reducible exact cin_0
    | with_reducible exact cin_1
    | with_reducible exact cin_2
    | with_reducible exact cin_3
    | with_reducible exact cin_4
    | with_reducible exact cin_5
    | with_reducible exact cin_6
    | with_reducible exact cin_7
    | with_reducible exact cin_8
    | with_reducible exact cin_9
    | with_reducible exact cin_10
    | with_reducible exact cin_11
    | with_reducible exact cin_12
    | with_reducible exact cin_13
    | with_reducible exact cin_14
    | with_reducible exact cin_15
    | with_reducible exact cin_16
    | with_reducible exact cin_17
    | with_reducible exact cin_18
    | with_reducible exact cin_19
    | with_reducible exact cin_20
    | with_reducible exact cin_21
    | with_reducible refine cin_22 ?_
    | with_reducible refine cin_23 ?_
    | with_reducible refine cin_24 (T := T) ?_ ?_
    | with_reducible refine cin_25 (T := T) ?_ ?_
    | with_reducible refine cin_26 (T := T) ?_ ?_
    | with_reducible refine cin_27 (T := T) ?_ ?_
    | with_reducible refine cin_28 (T := T) ?_ ?_
    | with_reducible refine cin_29 (T := T) ?_ ?_
    | with_reducible refine cin_30 (T := T) ?_ ?_
    | with_reducible refine cin_31 (T := T) ?_ ?_
    | with_reducible refine cin_32 (T := T) ?_ ?_
    | with_reducible refine cin_33 (T := T) ?_ ?_
    | with_reducible refine cin_34 (T := T) ?_ ?_
    | with_reducible refine cs_2 ?_
    | with_reducible exact vid_lt (by assumption) (by assumption)
    | with_reducible exact vp_c0
    | with_reducible exact vp_c1
    | with_reducible exact vp_c2
    | with_reducible exact vp_item (by assumption) (by assumption) (by assumption) (by assumption)
    | with_reducible exact has_vp (by assumption) (by assumption)
    | with_reducible exact dead_vp (by assumption) (by assumption)
    | with_reducible exact lw_vp (by assumption) (by assumption)
    | with_reducible refine vp_3 ?_ ?_
    | with_reducible refine vp_4 ?_ ?_
    | with_reducible refine vp_8 ?_ ?_
    | with_reducible refine vp_11 ?_ ?_
    | with_reducible refine vp_15 ?_ ?_
    | with_reducible refine vp_16 ?_ ?_
    | with_reducible refine vp_20 ?_ ?_
    | with_reducible refine vp_60 ?_ ?_
    | with_reducible refine vp_80 ?_ ?_
    | contradiction))

theorem sp_X10_beginRun {S : CST}  {T : Nat × Nat} {Post : CST → Prop} (hT : S.2 = T) (h : ∀ (S' : CST), S'.2 = T → Ex [200, 201, 202, 203, 204, 205, 210] S S' → Post S') : wp_X10_beginRun S  Post := by
  unfold wp_X10_beginRun
  repeat (any_goals (first
    | with_reducible refine ⟨?_, ?_⟩
    | with_reducible rintro _ rfl
    | with_reducible intro _
    | (refine h _ (by assumption) (by (repeat (first | with_reducible exact Ex.rf | with_reducible assumption | with_reducible refine Ex.cs (by decide) ?_ | with_reducible refine Ex.step (by assumption) (by decide) ?_)); done))
    | with_reducible refine sp_X10_noteTrap (T := T) ?_ (fun _ _ _ => ?_)
    | with_reducible assumption
    | with_reducible exact cin_0
    | with_reducible exact cin_1
    | with_reducible exact cin_2
    | with_reducible exact cin_3
    | with_reducible exact cin_4
    | with_reducible exact cin_5
    | with_reducible exact cin_6
    | with_reducible exact cin_7
    | with_reducible exact cin_8
    | with_reducible exact cin_9
    | with_reducible exact cin_10
    | with_reducible exact cin_11
    | with_reducible exact cin_12
    | with_reducible exact cin_13
    | with_reducible exact cin_14
    | with_reducible exact cin_15
    | with_reducible exact cin_16
    | with_reducible exact cin_17
    | with_reducible exact cin_18
    | with_reducible exact cin_19
    | with_reducible exact cin_20
    | with_reducible exact cin_21
    | with_reducible refine cin_22 ?_
    | with_reducible refine cin_23 ?_
    | with_reducible refine cin_24 (T := T) ?_ ?_
    | with_reducible refine cin_25 (T := T) ?_ ?_
    | with_reducible refine cin_26 (T := T) ?_ ?_
    | with_reducible refine cin_27 (T := T) ?_ ?_
    | with_reducible refine cin_28 (T := T) ?_ ?_
    | with_reducible refine cin_29 (T := T) ?_ ?_
    | with_reducible refine cin_30 (T := T) ?_ ?_
    | with_reducible refine cin_31 (T := T) ?_ ?_
    | with_reducible refine cin_32 (T := T) ?_ ?_
    | with_reducible refine cin_33 (T := T) ?_ ?_
    | with_reducible refine cin_34 (T := T) ?_ ?_
    | with_reducible refine cs_2 ?_
    | with_reducible exact vid_lt (by assumption) (by assumption)
    | with_reducible exact vp_c0
    | with_reducible exact vp_c1
    | with_reducible exact vp_c2
    | with_reducible exact vp_item (by assumption) (by assumption) (by assumption) (by assumption)
    | with_reducible exact has_vp (by assumption) (by assumption)
    | with_reducible exact dead_vp (by assumption) (by assumption)
    | with_reducible exact lw_vp (by assumption) (by assumption)
    | with_reducible refine vp_3 ?_ ?_
    | with_reducible refine vp_4 ?_ ?_
    | with_reducible refine vp_8 ?_ ?_
    | with_reducible refine vp_11 ?_ ?_
    | with_reducible refine vp_15 ?_ ?_
    | with_reducible refine vp_16 ?_ ?_
    | with_reducible refine vp_20 ?_ ?_
    | with_reducible refine vp_60 ?_ ?_
    | with_reducible refine vp_80 ?_ ?_
    | contradiction))

theorem sp_X7_stepOn {S : CST}  {T : Nat × Nat} {Post : CST → Prop} (hT : S.2 = T) (h : ∀ (S' : CST), S'.2 = T → Ex [201, 127] S S' → Post S') : wp_X7_stepOn S  Post := by
  unfold wp_X7_stepOn
  repeat (any_goals (first
    | with_reducible refine ⟨?_, ?_⟩
    | with_reducible rintro _ rfl
    | with_reducible intro _
    | (refine h _ (by assumption) (by (repeat (first | with_reducible exact Ex.rf | with_reducible assumption | with_reducible refine Ex.cs (by decide) ?_ | with_reducible refine Ex.step (by assumption) (by decide) ?_)); done))
    | with_reducible assumption
    | with_reducible exact cin_0
    | with_reducible exact cin_1
    | with_reducible exact cin_2
    | with_reducible exact cin_3
    | with_reducible exact cin_4
    | with_reducible exact cin_5
    | with_reducible exact cin_6
    | with_reducible exact cin_7
    | with_reducible exact cin_8
    | with_reducible exact cin_9
    | with_reducible exact cin_10
    | with_reducible exact cin_11
    | with_reducible exact cin_12
    | with_reducible exact cin_13
    | with_reducible exact cin_14
    | with_reducible exact cin_15
    | with_reducible exact cin_16
    | with_reducible exact cin_17
    | with_reducible exact cin_18
    | with_reducible exact cin_19
    | with_reducible exact cin_20
    | with_reducible exact cin_21
    | with_reducible refine cin_22 ?_
    | with_reducible refine cin_23 ?_
    | with_reducible refine cin_24 (T := T) ?_ ?_
    | with_reducible refine cin_25 (T := T) ?_ ?_
    | with_reducible refine cin_26 (T := T) ?_ ?_
    | with_reducible refine cin_27 (T := T) ?_ ?_
    | with_reducible refine cin_28 (T := T) ?_ ?_
    | with_reducible refine cin_29 (T := T) ?_ ?_
    | with_reducible refine cin_30 (T := T) ?_ ?_
    | with_reducible refine cin_31 (T := T) ?_ ?_
    | with_reducible refine cin_32 (T := T) ?_ ?_
    | with_reducible refine cin_33 (T := T) ?_ ?_
    | with_reducible refine cin_34 (T := T) ?_ ?_
    | with_reducible refine cs_2 ?_
    | with_reducible exact vid_lt (by assumption) (by assumption)
    | with_reducible exact vp_c0
    | with_reducible exact vp_c1
    | with_reducible exact vp_c2
    | with_reducible exact vp_item (by assumption) (by assumption) (by assumption) (by assumption)
    | with_reducible exact has_vp (by assumption) (by assumption)
    | with_reducible exact dead_vp (by assumption) (by assumption)
    | with_reducible exact lw_vp (by assumption) (by assumption)
    | with_reducible refine vp_3 ?_ ?_
    | with_reducible refine vp_4 ?_ ?_
    | with_reducible refine vp_8 ?_ ?_
    | with_reducible refine vp_11 ?_ ?_
    | with_reducible refine vp_15 ?_ ?_
    | with_reducible refine vp_16 ?_ ?_
    | with_reducible refine vp_20 ?_ ?_
    | with_reducible refine vp_60 ?_ ?_
    | with_reducible refine vp_80 ?_ ?_
    | contradiction))

theorem sp_X6_comes {S : CST} {i1 : Nat} {a2 : Int32} {a3 : Int32} {T : Nat × Nat} {Post : CST → Int32 → Prop} (hT : S.2 = T) (hi : i1 < T.1) (h : ∀ (S' : CST) (r : Int32), S'.2 = T → Ex [270, 110] S S' → Post S' r) : wp_X6_comes S i1 a2 a3 Post := by
  unfold wp_X6_comes
  repeat (any_goals (first
    | with_reducible refine ⟨?_, ?_⟩
    | with_reducible rintro _ rfl
    | with_reducible intro _
    | (refine h _ _ (by assumption) (by (repeat (first | with_reducible exact Ex.rf | with_reducible assumption | with_reducible refine Ex.cs (by decide) ?_ | with_reducible refine Ex.step (by assumption) (by decide) ?_)); done))
    | with_reducible refine sp_X8_isDead (T := T) ?_ ?_ (fun _ _ => ?_)
    | with_reducible refine sp_X8_depthAt (T := T) ?_ ?_ (fun _ => ?_)
    | with_reducible refine sp_X8_comeTo (T := T) ?_ ?_ (fun _ _ _ => ?_)
    | with_reducible assumption
    | with_reducible exact cin_0
    | with_reducible exact cin_1
    | with_reducible exact cin_2
    | with_reducible exact cin_3
    | with_reducible exact cin_4
    | with_reducible exact cin_5
    | with_reducible exact cin_6
    | with_reducible exact cin_7
    | with_reducible exact cin_8
    | with_reducible exact cin_9
    | with_reducible exact cin_10
    | with_reducible exact cin_11
    | with_reducible exact cin_12
    | with_reducible exact cin_13
    | with_reducible exact cin_14
    | with_reducible exact cin_15
    | with_reducible exact cin_16
    | with_reducible exact cin_17
    | with_reducible exact cin_18
    | with_reducible exact cin_19
    | with_reducible exact cin_20
    | with_reducible exact cin_21
    | with_reducible refine cin_22 ?_
    | with_reducible refine cin_23 ?_
    | with_reducible refine cin_24 (T := T) ?_ ?_
    | with_reducible refine cin_25 (T := T) ?_ ?_
    | with_reducible refine cin_26 (T := T) ?_ ?_
    | with_reducible refine cin_27 (T := T) ?_ ?_
    | with_reducible refine cin_28 (T := T) ?_ ?_
    | with_reducible refine cin_29 (T := T) ?_ ?_
    | with_reducible refine cin_30 (T := T) ?_ ?_
    | with_reducible refine cin_31 (T := T) ?_ ?_
    | with_reducible refine cin_32 (T := T) ?_ ?_
    | with_reducible refine cin_33 (T := T) ?_ ?_
    | with_reducible refine cin_34 (T := T) ?_ ?_
    | with_reducible refine cs_2 ?_
    | with_reducible exact vid_lt (by assumption) (by assumption)
    | with_reducible exact vp_c0
    | with_reducible exact vp_c1
    | with_reducible exact vp_c2
    | with_reducible exact vp_item (by assumption) (by assumption) (by assumption) (by assumption)
    | with_reducible exact has_vp (by assumption) (by assumption)
    | with_reducible exact dead_vp (by assumption) (by assumption)
    | with_reducible exact lw_vp (by assumption) (by assumption)
    | with_reducible refine vp_3 ?_ ?_
    | with_reducible refine vp_4 ?_ ?_
    | with_reducible refine vp_8 ?_ ?_
    | with_reducible refine vp_11 ?_ ?_
    | with_reducible refine vp_15 ?_ ?_
    | with_reducible refine vp_16 ?_ ?_
    | with_reducible refine vp_20 ?_ ?_
    | with_reducible refine vp_60 ?_ ?_
    | with_reducible refine vp_80 ?_ ?_
    | contradiction))

theorem sp_X4_clear {S : CST} {i : Nat} {T : Nat × Nat} {Post : CST → Prop} (hT : S.2 = T) (hi : i < 16) (h : ∀ (S' : CST), S'.2 = T → Ex [230] S S' → Post S') : wp_X4_clear S i Post := by
  unfold wp_X4_clear
  repeat (any_goals (first
    | with_reducible refine ⟨?_, ?_⟩
    | with_reducible rintro _ rfl
    | with_reducible intro _
    | (refine h _ (by assumption) (by (repeat (first | with_reducible exact Ex.rf | with_reducible assumption | with_reducible refine Ex.cs (by decide) ?_ | with_reducible refine Ex.step (by assumption) (by decide) ?_)); done))
    | with_reducible refine sp_J7_fill_53178_k23 (T := T) ?_ ?_ (fun _ _ _ => ?_)
    | with_reducible assumption
    | with_reducible exact cin_0
    | with_reducible exact cin_1
    | with_reducible exact cin_2
    | with_reducible exact cin_3
    | with_reducible exact cin_4
    | with_reducible exact cin_5
    | with_reducible exact cin_6
    | with_reducible exact cin_7
    | with_reducible exact cin_8
    | with_reducible exact cin_9
    | with_reducible exact cin_10
    | with_reducible exact cin_11
    | with_reducible exact cin_12
    | with_reducible exact cin_13
    | with_reducible exact cin_14
    | with_reducible exact cin_15
    | with_reducible exact cin_16
    | with_reducible exact cin_17
    | with_reducible exact cin_18
    | with_reducible exact cin_19
    | with_reducible exact cin_20
    | with_reducible exact cin_21
    | with_reducible refine cin_22 ?_
    | with_reducible refine cin_23 ?_
    | with_reducible refine cin_24 (T := T) ?_ ?_
    | with_reducible refine cin_25 (T := T) ?_ ?_
    | with_reducible refine cin_26 (T := T) ?_ ?_
    | with_reducible refine cin_27 (T := T) ?_ ?_
    | with_reducible refine cin_28 (T := T) ?_ ?_
    | with_reducible refine cin_29 (T := T) ?_ ?_
    | with_reducible refine cin_30 (T := T) ?_ ?_
    | with_reducible refine cin_31 (T := T) ?_ ?_
    | with_reducible refine cin_32 (T := T) ?_ ?_
    | with_reducible refine cin_33 (T := T) ?_ ?_
    | with_reducible refine cin_34 (T := T) ?_ ?_
    | with_reducible refine cs_2 ?_
    | with_reducible exact vid_lt (by assumption) (by assumption)
    | with_reducible exact vp_c0
    | with_reducible exact vp_c1
    | with_reducible exact vp_c2
    | with_reducible exact vp_item (by assumption) (by assumption) (by assumption) (by assumption)
    | with_reducible exact has_vp (by assumption) (by assumption)
    | with_reducible exact dead_vp (by assumption) (by assumption)
    | with_reducible exact lw_vp (by assumption) (by assumption)
    | with_reducible refine vp_3 ?_ ?_
    | with_reducible refine vp_4 ?_ ?_
    | with_reducible refine vp_8 ?_ ?_
    | with_reducible refine vp_11 ?_ ?_
    | with_reducible refine vp_15 ?_ ?_
    | with_reducible refine vp_16 ?_ ?_
    | with_reducible refine vp_20 ?_ ?_
    | with_reducible refine vp_60 ?_ ?_
    | with_reducible refine vp_80 ?_ ?_
    | contradiction))

theorem sp_X8_forgetDepths {S : CST} {i : Nat} {T : Nat × Nat} {Post : CST → Prop} (hT : S.2 = T) (hi : i < T.1) (h : ∀ (S' : CST), S'.2 = T → Ex [270] S S' → Post S') : wp_X8_forgetDepths S i Post := by
  unfold wp_X8_forgetDepths
  repeat (any_goals (first
    | with_reducible refine ⟨?_, ?_⟩
    | with_reducible rintro _ rfl
    | with_reducible intro _
    | (refine h _ (by assumption) (by (repeat (first | with_reducible exact Ex.rf | with_reducible assumption | with_reducible refine Ex.cs (by decide) ?_ | with_reducible refine Ex.step (by assumption) (by decide) ?_)); done))
    | with_reducible refine sp_J7_fill_53178_k27 (T := T) ?_ ?_ (fun _ _ _ => ?_)
    | with_reducible assumption
    | with_reducible exact cin_0
    | with_reducible exact cin_1
    | with_reducible exact cin_2
    | with_reducible exact cin_3
    | with_reducible exact cin_4
    | with_reducible exact cin_5
    | with_reducible exact cin_6
    | with_reducible exact cin_7
    | with_reducible exact cin_8
    | with_reducible exact cin_9
    | with_reducible exact cin_10
    | with_reducible exact cin_11
    | with_reducible exact cin_12
    | with_reducible exact cin_13
    | with_reducible exact cin_14
    | with_reducible exact cin_15
    | with_reducible exact cin_16
    | with_reducible exact cin_17
    | with_reducible exact cin_18
    | with_reducible exact cin_19
    | with_reducible exact cin_20
    | with_reducible exact cin_21
    | with_reducible refine cin_22 ?_
    | with_reducible refine cin_23 ?_
    | with_reducible refine cin_24 (T := T) ?_ ?_
    | with_reducible refine cin_25 (T := T) ?_ ?_
    | with_reducible refine cin_26 (T := T) ?_ ?_
    | with_reducible refine cin_27 (T := T) ?_ ?_
    | with_reducible refine cin_28 (T := T) ?_ ?_
    | with_reducible refine cin_29 (T := T) ?_ ?_
    | with_reducible refine cin_30 (T := T) ?_ ?_
    | with_reducible refine cin_31 (T := T) ?_ ?_
    | with_reducible refine cin_32 (T := T) ?_ ?_
    | with_reducible refine cin_33 (T := T) ?_ ?_
    | with_reducible refine cin_34 (T := T) ?_ ?_
    | with_reducible refine cs_2 ?_
    | with_reducible exact vid_lt (by assumption) (by assumption)
    | with_reducible exact vp_c0
    | with_reducible exact vp_c1
    | with_reducible exact vp_c2
    | with_reducible exact vp_item (by assumption) (by assumption) (by assumption) (by assumption)
    | with_reducible exact has_vp (by assumption) (by assumption)
    | with_reducible exact dead_vp (by assumption) (by assumption)
    | with_reducible exact lw_vp (by assumption) (by assumption)
    | with_reducible refine vp_3 ?_ ?_
    | with_reducible refine vp_4 ?_ ?_
    | with_reducible refine vp_8 ?_ ?_
    | with_reducible refine vp_11 ?_ ?_
    | with_reducible refine vp_15 ?_ ?_
    | with_reducible refine vp_16 ?_ ?_
    | with_reducible refine vp_20 ?_ ?_
    | with_reducible refine vp_60 ?_ ?_
    | with_reducible refine vp_80 ?_ ?_
    | contradiction))

theorem sp_X3_clear {S : CST} {A : Nat → Prop} {T : Nat × Nat} {Post : CST → Prop} (hT : S.2 = T) (h : ∀ S' : CST, S'.2 = T → Ex [72, 90] S S' → DrO A S' → Post S') : wp_X3_clear S Post := by
  unfold wp_X3_clear
  rintro _ rfl
  refine sp_J7_fill_53178_k9 hT (fun S' hT' e => h S' hT' (Ex.step e (by decide) (Ex.cs (by decide) Ex.rf)) ?_)
  refine ⟨0, ?_, by omega, fun j hj => absurd hj (by omega)⟩
  rw [e.2 72 rfl, cs_s]
  rfl

theorem lp_J7_fill_fda19_k6_10 {S : CST} {K : CST → Prop} {x2 : Int32} {Post : CST → Prop} {T : Nat × Nat} (hK : ∀ S' : CST, S'.2 = T → Ex [60] S S' → K S') (h80 : x2 ≤ 80)  : ∀ (n j : Nat) (S' : CST) (x : Int32), j + n = 2147483647 → S'.2 = T → Ex [60] S S' → wl_J7_fill_fda19_k6_10 K Post (n + 1) S' x2 x (nI j) := by
  intro n
  induction n with
  | zero =>
    intro j S' x hj s0 s1
    have hneg : ¬ nI j < 0 := nI_nn j (by omega)
    have hz : ∀ r : Int32, r ≤ nI j := by
      obtain rfl : j = 2147483647 := by omega
      exact z_max
    unfold wl_J7_fill_fda19_k6_10
    repeat (any_goals (first
      | with_reducible refine ⟨?_, ?_⟩
      | with_reducible rintro _ rfl
      | with_reducible intro _
      | exact absurd (hz _) (by assumption)
      | (refine hK _ (by assumption) (by (repeat (first | with_reducible exact Ex.rf | with_reducible assumption | with_reducible refine Ex.cs (by decide) ?_ | with_reducible refine Ex.step (by assumption) (by decide) ?_)); done))
      | with_reducible exact vp_80 (by assumption) (fun q => absurd (Int32.le_trans h80 q) (by assumption))
      | exact Ex.cs (by decide) (by assumption)
      | with_reducible assumption
      | with_reducible exact cin_0
      | with_reducible exact cin_1
      | with_reducible exact cin_2
      | with_reducible exact cin_3
      | with_reducible exact cin_4
      | with_reducible exact cin_5
      | with_reducible exact cin_6
      | with_reducible exact cin_7
      | with_reducible exact cin_8
      | with_reducible exact cin_9
      | with_reducible exact cin_10
      | with_reducible exact cin_11
      | with_reducible exact cin_12
      | with_reducible exact cin_13
      | with_reducible exact cin_14
      | with_reducible exact cin_15
      | with_reducible exact cin_16
      | with_reducible exact cin_17
      | with_reducible exact cin_18
      | with_reducible exact cin_19
      | with_reducible exact cin_20
      | with_reducible exact cin_21
      | with_reducible refine cin_22 ?_
      | with_reducible refine cin_23 ?_
      | with_reducible refine cin_24 (T := T) ?_ ?_
      | with_reducible refine cin_25 (T := T) ?_ ?_
      | with_reducible refine cin_26 (T := T) ?_ ?_
      | with_reducible refine cin_27 (T := T) ?_ ?_
      | with_reducible refine cin_28 (T := T) ?_ ?_
      | with_reducible refine cin_29 (T := T) ?_ ?_
      | with_reducible refine cin_30 (T := T) ?_ ?_
      | with_reducible refine cin_31 (T := T) ?_ ?_
      | with_reducible refine cin_32 (T := T) ?_ ?_
      | with_reducible refine cin_33 (T := T) ?_ ?_
      | with_reducible refine cin_34 (T := T) ?_ ?_
      | with_reducible refine cs_2 ?_
      | with_reducible exact vid_lt (by assumption) (by assumption)
      | with_reducible exact vp_c0
      | with_reducible exact vp_c1
      | with_reducible exact vp_c2
      | with_reducible exact vp_item (by assumption) (by assumption) (by assumption) (by assumption)
      | with_reducible exact has_vp (by assumption) (by assumption)
      | with_reducible exact dead_vp (by assumption) (by assumption)
      | with_reducible exact lw_vp (by assumption) (by assumption)
      | with_reducible refine vp_3 ?_ ?_
      | with_reducible refine vp_4 ?_ ?_
      | with_reducible refine vp_8 ?_ ?_
      | with_reducible refine vp_11 ?_ ?_
      | with_reducible refine vp_15 ?_ ?_
      | with_reducible refine vp_16 ?_ ?_
      | with_reducible refine vp_20 ?_ ?_
      | with_reducible refine vp_60 ?_ ?_
      | with_reducible refine vp_80 ?_ ?_
      | contradiction))
  | succ n ih =>
    intro j S' x hj s0 s1
    have hneg : ¬ nI j < 0 := nI_nn j (by omega)
    unfold wl_J7_fill_fda19_k6_10
    repeat (any_goals (first
      | with_reducible refine ⟨?_, ?_⟩
      | with_reducible rintro _ rfl
      | with_reducible intro _
      | (rw [nI_1]; refine ih (j + 1) _ _ (by omega) ?_ ?_)
      | (refine hK _ (by assumption) (by (repeat (first | with_reducible exact Ex.rf | with_reducible assumption | with_reducible refine Ex.cs (by decide) ?_ | with_reducible refine Ex.step (by assumption) (by decide) ?_)); done))
      | with_reducible exact vp_80 (by assumption) (fun q => absurd (Int32.le_trans h80 q) (by assumption))
      | exact Ex.cs (by decide) (by assumption)
      | with_reducible assumption
      | with_reducible exact cin_0
      | with_reducible exact cin_1
      | with_reducible exact cin_2
      | with_reducible exact cin_3
      | with_reducible exact cin_4
      | with_reducible exact cin_5
      | with_reducible exact cin_6
      | with_reducible exact cin_7
      | with_reducible exact cin_8
      | with_reducible exact cin_9
      | with_reducible exact cin_10
      | with_reducible exact cin_11
      | with_reducible exact cin_12
      | with_reducible exact cin_13
      | with_reducible exact cin_14
      | with_reducible exact cin_15
      | with_reducible exact cin_16
      | with_reducible exact cin_17
      | with_reducible exact cin_18
      | with_reducible exact cin_19
      | with_reducible exact cin_20
      | with_reducible exact cin_21
      | with_reducible refine cin_22 ?_
      | with_reducible refine cin_23 ?_
      | with_reducible refine cin_24 (T := T) ?_ ?_
      | with_reducible refine cin_25 (T := T) ?_ ?_
      | with_reducible refine cin_26 (T := T) ?_ ?_
      | with_reducible refine cin_27 (T := T) ?_ ?_
      | with_reducible refine cin_28 (T := T) ?_ ?_
      | with_reducible refine cin_29 (T := T) ?_ ?_
      | with_reducible refine cin_30 (T := T) ?_ ?_
      | with_reducible refine cin_31 (T := T) ?_ ?_
      | with_reducible refine cin_32 (T := T) ?_ ?_
      | with_reducible refine cin_33 (T := T) ?_ ?_
      | with_reducible refine cin_34 (T := T) ?_ ?_
      | with_reducible refine cs_2 ?_
      | with_reducible exact vid_lt (by assumption) (by assumption)
      | with_reducible exact vp_c0
      | with_reducible exact vp_c1
      | with_reducible exact vp_c2
      | with_reducible exact vp_item (by assumption) (by assumption) (by assumption) (by assumption)
      | with_reducible exact has_vp (by assumption) (by assumption)
      | with_reducible exact dead_vp (by assumption) (by assumption)
      | with_reducible exact lw_vp (by assumption) (by assumption)
      | with_reducible refine vp_3 ?_ ?_
      | with_reducible refine vp_4 ?_ ?_
      | with_reducible refine vp_8 ?_ ?_
      | with_reducible refine vp_11 ?_ ?_
      | with_reducible refine vp_15 ?_ ?_
      | with_reducible refine vp_16 ?_ ?_
      | with_reducible refine vp_20 ?_ ?_
      | with_reducible refine vp_60 ?_ ?_
      | with_reducible refine vp_80 ?_ ?_
      | contradiction))

theorem sp_X2_renew {S : CST} {a1 a2 : Int32} {T : Nat × Nat} {Post : CST → Prop} (hT : S.2 = T) (h : ∀ S' : CST, S'.2 = T → Ex [50, 60] S S' → Post S') : wp_X2_renew S a1 a2 Post := by
  unfold wp_X2_renew
  refine ⟨fun _ => h S hT Ex.rf, fun c1 => ⟨fun _ => h S hT Ex.rf, fun c2 => ⟨fun _ => h S hT Ex.rf, fun _ => ⟨fun _ => h S hT Ex.rf, fun _ => ⟨vp_4 c1 c2, ?_⟩⟩⟩⟩⟩
  intro S1 e1
  have hT1 : S1.2 = T := by rw [e1]; exact hT
  have hE1 : Ex [50, 60] S S1 := by rw [e1]; exact Ex.cs (by decide) Ex.rf
  obtain ⟨j1, rfl, h1⟩ := nI_ofc c1
  have b1 : j1 < 4 := Nat.not_le.mp (fun q => c2 (nI_le (a := 4) q (by omega)))
  rw [show (20 : Int32) * nI j1 = nI (20 * j1) from nI_mul 20 j1, nI_1, show (20 : Int32) * nI (j1 + 1) = nI (20 * (j1 + 1)) from nI_mul 20 (j1 + 1)]
  unfold wp_J7_fill_fda19_k6 wp_J7_rangeCheck_23922
  refine ⟨fun _ => ⟨fun _ => ⟨fun _ => ?_, fun q => absurd (nI_le (b := 80) (by omega) (by omega)) q⟩, fun q => absurd (nI_pos' (by omega)) q⟩, fun q => absurd (nI_le (by omega) (by omega)) q⟩
  exact ⟨2147483647 - 20 * j1 + 1, lp_J7_fill_fda19_k6_10 (S := S1) (T := T) (K := fun S_27 => Post S_27) (fun S' hT' e => h S' hT' (Ex.step e (by decide) hE1)) (nI_le (b := 80) (by omega) (by omega)) _ _ S1 0 (by omega) hT1 Ex.rf⟩

theorem lp_X5_remember_2 {S : CST} {K : CST → Nat → Prop} {i i1 : Nat} {Post : CST → Prop} {T : Nat × Nat} (hi : i < T.1) (hi1 : i1 < 16) (hK : ∀ S' : CST, S'.2 = T → Ex [290, 300] S S' → K S' i)  : ∀ (n j : Nat) (S' : CST), j + n = 2147483647 → S'.2 = T → Ex [290, 300] S S' → wl_X5_remember_2 K Post (n + 1) S' i i1 (nI j) := by
  intro n
  induction n with
  | zero =>
    intro j S' hj s0 s1
    have hneg : ¬ nI j < 0 := nI_nn j (by omega)
    have hz : ∀ r : Int32, r ≤ nI j := by
      obtain rfl : j = 2147483647 := by omega
      exact z_max
    unfold wl_X5_remember_2
    repeat (any_goals (first
      | with_reducible refine ⟨?_, ?_⟩
      | with_reducible rintro _ rfl
      | with_reducible intro _
      | exact absurd (hz _) (by assumption)
      | (refine hK _ ?_ (by (repeat (first | with_reducible exact Ex.rf | with_reducible assumption | with_reducible refine Ex.cs (by decide) ?_ | with_reducible refine Ex.step (by assumption) (by decide) ?_)); done))
      | ((repeat (first | with_reducible exact Ex.rf | with_reducible assumption | with_reducible refine Ex.cs (by decide) ?_ | with_reducible refine Ex.step (by assumption) (by decide) ?_)); done)
      | with_reducible refine sp_X2_valueOf  (fun _ => ?_)
      | with_reducible refine sp_X4_valueOf (T := T) ?_ ?_ (fun _ => ?_)
      | with_reducible assumption
      | with_reducible exact cin_0
      | with_reducible exact cin_1
      | with_reducible exact cin_2
      | with_reducible exact cin_3
      | with_reducible exact cin_4
      | with_reducible exact cin_5
      | with_reducible exact cin_6
      | with_reducible exact cin_7
      | with_reducible exact cin_8
      | with_reducible exact cin_9
      | with_reducible exact cin_10
      | with_reducible exact cin_11
      | with_reducible exact cin_12
      | with_reducible exact cin_13
      | with_reducible exact cin_14
      | with_reducible exact cin_15
      | with_reducible exact cin_16
      | with_reducible exact cin_17
      | with_reducible exact cin_18
      | with_reducible exact cin_19
      | with_reducible exact cin_20
      | with_reducible exact cin_21
      | with_reducible refine cin_22 ?_
      | with_reducible refine cin_23 ?_
      | with_reducible refine cin_24 (T := T) ?_ ?_
      | with_reducible refine cin_25 (T := T) ?_ ?_
      | with_reducible refine cin_26 (T := T) ?_ ?_
      | with_reducible refine cin_27 (T := T) ?_ ?_
      | with_reducible refine cin_28 (T := T) ?_ ?_
      | with_reducible refine cin_29 (T := T) ?_ ?_
      | with_reducible refine cin_30 (T := T) ?_ ?_
      | with_reducible refine cin_31 (T := T) ?_ ?_
      | with_reducible refine cin_32 (T := T) ?_ ?_
      | with_reducible refine cin_33 (T := T) ?_ ?_
      | with_reducible refine cin_34 (T := T) ?_ ?_
      | with_reducible refine cs_2 ?_
      | with_reducible exact vid_lt (by assumption) (by assumption)
      | with_reducible exact vp_c0
      | with_reducible exact vp_c1
      | with_reducible exact vp_c2
      | with_reducible exact vp_item (by assumption) (by assumption) (by assumption) (by assumption)
      | with_reducible exact has_vp (by assumption) (by assumption)
      | with_reducible exact dead_vp (by assumption) (by assumption)
      | with_reducible exact lw_vp (by assumption) (by assumption)
      | with_reducible refine vp_3 ?_ ?_
      | with_reducible refine vp_4 ?_ ?_
      | with_reducible refine vp_8 ?_ ?_
      | with_reducible refine vp_11 ?_ ?_
      | with_reducible refine vp_15 ?_ ?_
      | with_reducible refine vp_16 ?_ ?_
      | with_reducible refine vp_20 ?_ ?_
      | with_reducible refine vp_60 ?_ ?_
      | with_reducible refine vp_80 ?_ ?_
      | contradiction))
  | succ n ih =>
    intro j S' hj s0 s1
    have hneg : ¬ nI j < 0 := nI_nn j (by omega)
    unfold wl_X5_remember_2
    repeat (any_goals (first
      | with_reducible refine ⟨?_, ?_⟩
      | with_reducible rintro _ rfl
      | with_reducible intro _
      | (rw [nI_1]; refine ih (j + 1) _ (by omega) ?_ ?_)
      | (refine hK _ ?_ (by (repeat (first | with_reducible exact Ex.rf | with_reducible assumption | with_reducible refine Ex.cs (by decide) ?_ | with_reducible refine Ex.step (by assumption) (by decide) ?_)); done))
      | ((repeat (first | with_reducible exact Ex.rf | with_reducible assumption | with_reducible refine Ex.cs (by decide) ?_ | with_reducible refine Ex.step (by assumption) (by decide) ?_)); done)
      | with_reducible refine sp_X2_valueOf  (fun _ => ?_)
      | with_reducible refine sp_X4_valueOf (T := T) ?_ ?_ (fun _ => ?_)
      | with_reducible assumption
      | with_reducible exact cin_0
      | with_reducible exact cin_1
      | with_reducible exact cin_2
      | with_reducible exact cin_3
      | with_reducible exact cin_4
      | with_reducible exact cin_5
      | with_reducible exact cin_6
      | with_reducible exact cin_7
      | with_reducible exact cin_8
      | with_reducible exact cin_9
      | with_reducible exact cin_10
      | with_reducible exact cin_11
      | with_reducible exact cin_12
      | with_reducible exact cin_13
      | with_reducible exact cin_14
      | with_reducible exact cin_15
      | with_reducible exact cin_16
      | with_reducible exact cin_17
      | with_reducible exact cin_18
      | with_reducible exact cin_19
      | with_reducible exact cin_20
      | with_reducible exact cin_21
      | with_reducible refine cin_22 ?_
      | with_reducible refine cin_23 ?_
      | with_reducible refine cin_24 (T := T) ?_ ?_
      | with_reducible refine cin_25 (T := T) ?_ ?_
      | with_reducible refine cin_26 (T := T) ?_ ?_
      | with_reducible refine cin_27 (T := T) ?_ ?_
      | with_reducible refine cin_28 (T := T) ?_ ?_
      | with_reducible refine cin_29 (T := T) ?_ ?_
      | with_reducible refine cin_30 (T := T) ?_ ?_
      | with_reducible refine cin_31 (T := T) ?_ ?_
      | with_reducible refine cin_32 (T := T) ?_ ?_
      | with_reducible refine cin_33 (T := T) ?_ ?_
      | with_reducible refine cin_34 (T := T) ?_ ?_
      | with_reducible refine cs_2 ?_
      | with_reducible exact vid_lt (by assumption) (by assumption)
      | with_reducible exact vp_c0
      | with_reducible exact vp_c1
      | with_reducible exact vp_c2
      | with_reducible exact vp_item (by assumption) (by assumption) (by assumption) (by assumption)
      | with_reducible exact has_vp (by assumption) (by assumption)
      | with_reducible exact dead_vp (by assumption) (by assumption)
      | with_reducible exact lw_vp (by assumption) (by assumption)
      | with_reducible refine vp_3 ?_ ?_
      | with_reducible refine vp_4 ?_ ?_
      | with_reducible refine vp_8 ?_ ?_
      | with_reducible refine vp_11 ?_ ?_
      | with_reducible refine vp_15 ?_ ?_
      | with_reducible refine vp_16 ?_ ?_
      | with_reducible refine vp_20 ?_ ?_
      | with_reducible refine vp_60 ?_ ?_
      | with_reducible refine vp_80 ?_ ?_
      | contradiction))

theorem sp_X5_remember {S : CST} {i i1 : Nat} {T : Nat × Nat} {Post : CST → Prop} (hT : S.2 = T) (hi : i < T.1) (hi1 : i1 < 16) (h : ∀ S' : CST, S'.2 = T → Ex [282, 290, 300] S S' → Post S') : wp_X5_remember S i i1 Post :=
  ⟨2147483647 + 1, lp_X5_remember_2 hi hi1 (fun S' hT' e => ⟨cin_28 hT' hi, cin_28 hT' hi, fun S3 e3 => h S3 (by rw [e3]; exact hT') (by rw [e3]; exact Ex.cs (by decide) (Ex.step e (by decide) Ex.rf))⟩) 2147483647 0 S rfl hT Ex.rf⟩

theorem sp_X6_faultAt {S : CST} {i1 : Nat} {a2 : Int32} {T : Nat × Nat} {Post : CST → Int32 → Prop} (hT : S.2 = T) (hi : i1 < T.1) (hv : ∀ j : Nat, vid (cv S 20 0 j) T.1) (h : ∀ (S' : CST) (r : Int32), S'.2 = T → Ex [270, 110] S S' → Post S' r) : wp_X6_faultAt S i1 a2 Post := by
  unfold wp_X6_faultAt
  repeat (any_goals (first
    | with_reducible refine ⟨?_, ?_⟩
    | with_reducible rintro _ rfl
    | with_reducible intro _
    | (refine h _ _ (by assumption) (by (repeat (first | with_reducible exact Ex.rf | with_reducible assumption | with_reducible refine Ex.cs (by decide) ?_ | with_reducible refine Ex.step (by assumption) (by decide) ?_)); done))
    | with_reducible exact hv _
    | with_reducible refine sp_X8_opAt (T := T) ?_ ?_ (fun _ => ?_)
    | with_reducible refine sp_X8_xAt (T := T) ?_ ?_ (fun _ => ?_)
    | with_reducible refine sp_X0_taken (T := T) ?_ ?_ (fun _ => ?_)
    | with_reducible refine sp_X6_isRightX (T := T) ?_ ?_ ?_ (fun _ => ?_)
    | with_reducible refine sp_X8_depthAt (T := T) ?_ ?_ (fun _ => ?_)
    | with_reducible refine sp_X8_has (T := T) ?_ ?_ (fun _ _ => ?_)
    | with_reducible refine sp_X6_comes (T := T) ?_ ?_ (fun _ _ _ _ => ?_)
    | with_reducible assumption
    | with_reducible exact cin_0
    | with_reducible exact cin_1
    | with_reducible exact cin_2
    | with_reducible exact cin_3
    | with_reducible exact cin_4
    | with_reducible exact cin_5
    | with_reducible exact cin_6
    | with_reducible exact cin_7
    | with_reducible exact cin_8
    | with_reducible exact cin_9
    | with_reducible exact cin_10
    | with_reducible exact cin_11
    | with_reducible exact cin_12
    | with_reducible exact cin_13
    | with_reducible exact cin_14
    | with_reducible exact cin_15
    | with_reducible exact cin_16
    | with_reducible exact cin_17
    | with_reducible exact cin_18
    | with_reducible exact cin_19
    | with_reducible exact cin_20
    | with_reducible exact cin_21
    | with_reducible refine cin_22 ?_
    | with_reducible refine cin_23 ?_
    | with_reducible refine cin_24 (T := T) ?_ ?_
    | with_reducible refine cin_25 (T := T) ?_ ?_
    | with_reducible refine cin_26 (T := T) ?_ ?_
    | with_reducible refine cin_27 (T := T) ?_ ?_
    | with_reducible refine cin_28 (T := T) ?_ ?_
    | with_reducible refine cin_29 (T := T) ?_ ?_
    | with_reducible refine cin_30 (T := T) ?_ ?_
    | with_reducible refine cin_31 (T := T) ?_ ?_
    | with_reducible refine cin_32 (T := T) ?_ ?_
    | with_reducible refine cin_33 (T := T) ?_ ?_
    | with_reducible refine cin_34 (T := T) ?_ ?_
    | with_reducible refine cs_2 ?_
    | with_reducible exact vid_lt (by assumption) (by assumption)
    | with_reducible exact vp_c0
    | with_reducible exact vp_c1
    | with_reducible exact vp_c2
    | with_reducible exact vp_item (by assumption) (by assumption) (by assumption) (by assumption)
    | with_reducible exact has_vp (by assumption) (by assumption)
    | with_reducible exact dead_vp (by assumption) (by assumption)
    | with_reducible exact lw_vp (by assumption) (by assumption)
    | with_reducible refine vp_3 ?_ ?_
    | with_reducible refine vp_4 ?_ ?_
    | with_reducible refine vp_8 ?_ ?_
    | with_reducible refine vp_11 ?_ ?_
    | with_reducible refine vp_15 ?_ ?_
    | with_reducible refine vp_16 ?_ ?_
    | with_reducible refine vp_20 ?_ ?_
    | with_reducible refine vp_60 ?_ ?_
    | with_reducible refine vp_80 ?_ ?_
    | contradiction))

theorem lp_X9_findTargets_23 {S : CST} {K : CST → Prop} {i : Nat} {Post : CST → Prop} {T : Nat × Nat} (hi : i < T.1) (hK : ∀ S' : CST, S'.2 = T → Ex [180] S S' → K S')  : ∀ (n j : Nat) (S' : CST), j + n = 2147483647 → S'.2 = T → Ex [180] S S' → wl_X9_findTargets_23 K Post (n + 1) S' i (nI j) := by
  intro n
  induction n with
  | zero =>
    intro j S' hj s0 s1
    have hneg : ¬ nI j < 0 := nI_nn j (by omega)
    have hz : ∀ r : Int32, r ≤ nI j := by
      obtain rfl : j = 2147483647 := by omega
      exact z_max
    unfold wl_X9_findTargets_23
    repeat (any_goals (first
      | with_reducible refine ⟨?_, ?_⟩
      | with_reducible rintro _ rfl
      | with_reducible intro _
      | exact absurd (hz _) (by assumption)
      | (refine hK _ ?_ (by (repeat (first | with_reducible exact Ex.rf | with_reducible assumption | with_reducible refine Ex.cs (by decide) ?_ | with_reducible refine Ex.step (by assumption) (by decide) ?_)); done))
      | ((repeat (first | with_reducible exact Ex.rf | with_reducible assumption | with_reducible refine Ex.cs (by decide) ?_ | with_reducible refine Ex.step (by assumption) (by decide) ?_)); done)
      | with_reducible refine sp_X8_opAt (T := T) ?_ ?_ (fun _ => ?_)
      | with_reducible refine sp_X8_xAt (T := T) ?_ ?_ (fun _ => ?_)
      | with_reducible refine sp_X8_isDead (T := T) ?_ ?_ (fun _ _ => ?_)
      | with_reducible assumption
      | with_reducible exact cin_0
      | with_reducible exact cin_1
      | with_reducible exact cin_2
      | with_reducible exact cin_3
      | with_reducible exact cin_4
      | with_reducible exact cin_5
      | with_reducible exact cin_6
      | with_reducible exact cin_7
      | with_reducible exact cin_8
      | with_reducible exact cin_9
      | with_reducible exact cin_10
      | with_reducible exact cin_11
      | with_reducible exact cin_12
      | with_reducible exact cin_13
      | with_reducible exact cin_14
      | with_reducible exact cin_15
      | with_reducible exact cin_16
      | with_reducible exact cin_17
      | with_reducible exact cin_18
      | with_reducible exact cin_19
      | with_reducible exact cin_20
      | with_reducible exact cin_21
      | with_reducible refine cin_22 ?_
      | with_reducible refine cin_23 ?_
      | with_reducible refine cin_24 (T := T) ?_ ?_
      | with_reducible refine cin_25 (T := T) ?_ ?_
      | with_reducible refine cin_26 (T := T) ?_ ?_
      | with_reducible refine cin_27 (T := T) ?_ ?_
      | with_reducible refine cin_28 (T := T) ?_ ?_
      | with_reducible refine cin_29 (T := T) ?_ ?_
      | with_reducible refine cin_30 (T := T) ?_ ?_
      | with_reducible refine cin_31 (T := T) ?_ ?_
      | with_reducible refine cin_32 (T := T) ?_ ?_
      | with_reducible refine cin_33 (T := T) ?_ ?_
      | with_reducible refine cin_34 (T := T) ?_ ?_
      | with_reducible refine cs_2 ?_
      | with_reducible exact vid_lt (by assumption) (by assumption)
      | with_reducible exact vp_c0
      | with_reducible exact vp_c1
      | with_reducible exact vp_c2
      | with_reducible exact vp_item (by assumption) (by assumption) (by assumption) (by assumption)
      | with_reducible exact has_vp (by assumption) (by assumption)
      | with_reducible exact dead_vp (by assumption) (by assumption)
      | with_reducible exact lw_vp (by assumption) (by assumption)
      | with_reducible refine vp_3 ?_ ?_
      | with_reducible refine vp_4 ?_ ?_
      | with_reducible refine vp_8 ?_ ?_
      | with_reducible refine vp_11 ?_ ?_
      | with_reducible refine vp_15 ?_ ?_
      | with_reducible refine vp_16 ?_ ?_
      | with_reducible refine vp_20 ?_ ?_
      | with_reducible refine vp_60 ?_ ?_
      | with_reducible refine vp_80 ?_ ?_
      | contradiction))
  | succ n ih =>
    intro j S' hj s0 s1
    have hneg : ¬ nI j < 0 := nI_nn j (by omega)
    unfold wl_X9_findTargets_23
    repeat (any_goals (first
      | with_reducible refine ⟨?_, ?_⟩
      | with_reducible rintro _ rfl
      | with_reducible intro _
      | (rw [nI_1]; refine ih (j + 1) _ (by omega) ?_ ?_)
      | (refine hK _ ?_ (by (repeat (first | with_reducible exact Ex.rf | with_reducible assumption | with_reducible refine Ex.cs (by decide) ?_ | with_reducible refine Ex.step (by assumption) (by decide) ?_)); done))
      | ((repeat (first | with_reducible exact Ex.rf | with_reducible assumption | with_reducible refine Ex.cs (by decide) ?_ | with_reducible refine Ex.step (by assumption) (by decide) ?_)); done)
      | with_reducible refine sp_X8_opAt (T := T) ?_ ?_ (fun _ => ?_)
      | with_reducible refine sp_X8_xAt (T := T) ?_ ?_ (fun _ => ?_)
      | with_reducible refine sp_X8_isDead (T := T) ?_ ?_ (fun _ _ => ?_)
      | with_reducible assumption
      | with_reducible exact cin_0
      | with_reducible exact cin_1
      | with_reducible exact cin_2
      | with_reducible exact cin_3
      | with_reducible exact cin_4
      | with_reducible exact cin_5
      | with_reducible exact cin_6
      | with_reducible exact cin_7
      | with_reducible exact cin_8
      | with_reducible exact cin_9
      | with_reducible exact cin_10
      | with_reducible exact cin_11
      | with_reducible exact cin_12
      | with_reducible exact cin_13
      | with_reducible exact cin_14
      | with_reducible exact cin_15
      | with_reducible exact cin_16
      | with_reducible exact cin_17
      | with_reducible exact cin_18
      | with_reducible exact cin_19
      | with_reducible exact cin_20
      | with_reducible exact cin_21
      | with_reducible refine cin_22 ?_
      | with_reducible refine cin_23 ?_
      | with_reducible refine cin_24 (T := T) ?_ ?_
      | with_reducible refine cin_25 (T := T) ?_ ?_
      | with_reducible refine cin_26 (T := T) ?_ ?_
      | with_reducible refine cin_27 (T := T) ?_ ?_
      | with_reducible refine cin_28 (T := T) ?_ ?_
      | with_reducible refine cin_29 (T := T) ?_ ?_
      | with_reducible refine cin_30 (T := T) ?_ ?_
      | with_reducible refine cin_31 (T := T) ?_ ?_
      | with_reducible refine cin_32 (T := T) ?_ ?_
      | with_reducible refine cin_33 (T := T) ?_ ?_
      | with_reducible refine cin_34 (T := T) ?_ ?_
      | with_reducible refine cs_2 ?_
      | with_reducible exact vid_lt (by assumption) (by assumption)
      | with_reducible exact vp_c0
      | with_reducible exact vp_c1
      | with_reducible exact vp_c2
      | with_reducible exact vp_item (by assumption) (by assumption) (by assumption) (by assumption)
      | with_reducible exact has_vp (by assumption) (by assumption)
      | with_reducible exact dead_vp (by assumption) (by assumption)
      | with_reducible exact lw_vp (by assumption) (by assumption)
      | with_reducible refine vp_3 ?_ ?_
      | with_reducible refine vp_4 ?_ ?_
      | with_reducible refine vp_8 ?_ ?_
      | with_reducible refine vp_11 ?_ ?_
      | with_reducible refine vp_15 ?_ ?_
      | with_reducible refine vp_16 ?_ ?_
      | with_reducible refine vp_20 ?_ ?_
      | with_reducible refine vp_60 ?_ ?_
      | with_reducible refine vp_80 ?_ ?_
      | contradiction))

theorem lp_X9_findTargets_2 {S : CST} {K : CST → Nat → Prop} {i : Nat} {Post : CST → Prop} {T : Nat × Nat} (hi : i < T.1) (hK : ∀ S' : CST, S'.2 = T → Ex [180] S S' → K S' i)  : ∀ (n j : Nat) (S' : CST), j + n = 2147483647 → S'.2 = T → Ex [180] S S' → wl_X9_findTargets_2 K Post (n + 1) S' i (nI j) := by
  intro n
  induction n with
  | zero =>
    intro j S' hj s0 s1
    have hneg : ¬ nI j < 0 := nI_nn j (by omega)
    have hz : ∀ r : Int32, r ≤ nI j := by
      obtain rfl : j = 2147483647 := by omega
      exact z_max
    unfold wl_X9_findTargets_2
    repeat (any_goals (first
      | with_reducible refine ⟨?_, ?_⟩
      | with_reducible rintro _ rfl
      | with_reducible intro _
      | exact absurd (hz _) (by assumption)
      | (refine hK _ ?_ (by (repeat (first | with_reducible exact Ex.rf | with_reducible assumption | with_reducible refine Ex.cs (by decide) ?_ | with_reducible refine Ex.step (by assumption) (by decide) ?_)); done))
      | ((repeat (first | with_reducible exact Ex.rf | with_reducible assumption | with_reducible refine Ex.cs (by decide) ?_ | with_reducible refine Ex.step (by assumption) (by decide) ?_)); done)
      | with_reducible assumption
      | with_reducible exact cin_0
      | with_reducible exact cin_1
      | with_reducible exact cin_2
      | with_reducible exact cin_3
      | with_reducible exact cin_4
      | with_reducible exact cin_5
      | with_reducible exact cin_6
      | with_reducible exact cin_7
      | with_reducible exact cin_8
      | with_reducible exact cin_9
      | with_reducible exact cin_10
      | with_reducible exact cin_11
      | with_reducible exact cin_12
      | with_reducible exact cin_13
      | with_reducible exact cin_14
      | with_reducible exact cin_15
      | with_reducible exact cin_16
      | with_reducible exact cin_17
      | with_reducible exact cin_18
      | with_reducible exact cin_19
      | with_reducible exact cin_20
      | with_reducible exact cin_21
      | with_reducible refine cin_22 ?_
      | with_reducible refine cin_23 ?_
      | with_reducible refine cin_24 (T := T) ?_ ?_
      | with_reducible refine cin_25 (T := T) ?_ ?_
      | with_reducible refine cin_26 (T := T) ?_ ?_
      | with_reducible refine cin_27 (T := T) ?_ ?_
      | with_reducible refine cin_28 (T := T) ?_ ?_
      | with_reducible refine cin_29 (T := T) ?_ ?_
      | with_reducible refine cin_30 (T := T) ?_ ?_
      | with_reducible refine cin_31 (T := T) ?_ ?_
      | with_reducible refine cin_32 (T := T) ?_ ?_
      | with_reducible refine cin_33 (T := T) ?_ ?_
      | with_reducible refine cin_34 (T := T) ?_ ?_
      | with_reducible refine cs_2 ?_
      | with_reducible exact vid_lt (by assumption) (by assumption)
      | with_reducible exact vp_c0
      | with_reducible exact vp_c1
      | with_reducible exact vp_c2
      | with_reducible exact vp_item (by assumption) (by assumption) (by assumption) (by assumption)
      | with_reducible exact has_vp (by assumption) (by assumption)
      | with_reducible exact dead_vp (by assumption) (by assumption)
      | with_reducible exact lw_vp (by assumption) (by assumption)
      | with_reducible refine vp_3 ?_ ?_
      | with_reducible refine vp_4 ?_ ?_
      | with_reducible refine vp_8 ?_ ?_
      | with_reducible refine vp_11 ?_ ?_
      | with_reducible refine vp_15 ?_ ?_
      | with_reducible refine vp_16 ?_ ?_
      | with_reducible refine vp_20 ?_ ?_
      | with_reducible refine vp_60 ?_ ?_
      | with_reducible refine vp_80 ?_ ?_
      | contradiction))
  | succ n ih =>
    intro j S' hj s0 s1
    have hneg : ¬ nI j < 0 := nI_nn j (by omega)
    unfold wl_X9_findTargets_2
    repeat (any_goals (first
      | with_reducible refine ⟨?_, ?_⟩
      | with_reducible rintro _ rfl
      | with_reducible intro _
      | (rw [nI_1]; refine ih (j + 1) _ (by omega) ?_ ?_)
      | (refine hK _ ?_ (by (repeat (first | with_reducible exact Ex.rf | with_reducible assumption | with_reducible refine Ex.cs (by decide) ?_ | with_reducible refine Ex.step (by assumption) (by decide) ?_)); done))
      | ((repeat (first | with_reducible exact Ex.rf | with_reducible assumption | with_reducible refine Ex.cs (by decide) ?_ | with_reducible refine Ex.step (by assumption) (by decide) ?_)); done)
      | with_reducible assumption
      | with_reducible exact cin_0
      | with_reducible exact cin_1
      | with_reducible exact cin_2
      | with_reducible exact cin_3
      | with_reducible exact cin_4
      | with_reducible exact cin_5
      | with_reducible exact cin_6
      | with_reducible exact cin_7
      | with_reducible exact cin_8
      | with_reducible exact cin_9
      | with_reducible exact cin_10
      | with_reducible exact cin_11
      | with_reducible exact cin_12
      | with_reducible exact cin_13
      | with_reducible exact cin_14
      | with_reducible exact cin_15
      | with_reducible exact cin_16
      | with_reducible exact cin_17
      | with_reducible exact cin_18
      | with_reducible exact cin_19
      | with_reducible exact cin_20
      | with_reducible exact cin_21
      | with_reducible refine cin_22 ?_
      | with_reducible refine cin_23 ?_
      | with_reducible refine cin_24 (T := T) ?_ ?_
      | with_reducible refine cin_25 (T := T) ?_ ?_
      | with_reducible refine cin_26 (T := T) ?_ ?_
      | with_reducible refine cin_27 (T := T) ?_ ?_
      | with_reducible refine cin_28 (T := T) ?_ ?_
      | with_reducible refine cin_29 (T := T) ?_ ?_
      | with_reducible refine cin_30 (T := T) ?_ ?_
      | with_reducible refine cin_31 (T := T) ?_ ?_
      | with_reducible refine cin_32 (T := T) ?_ ?_
      | with_reducible refine cin_33 (T := T) ?_ ?_
      | with_reducible refine cin_34 (T := T) ?_ ?_
      | with_reducible refine cs_2 ?_
      | with_reducible exact vid_lt (by assumption) (by assumption)
      | with_reducible exact vp_c0
      | with_reducible exact vp_c1
      | with_reducible exact vp_c2
      | with_reducible exact vp_item (by assumption) (by assumption) (by assumption) (by assumption)
      | with_reducible exact has_vp (by assumption) (by assumption)
      | with_reducible exact dead_vp (by assumption) (by assumption)
      | with_reducible exact lw_vp (by assumption) (by assumption)
      | with_reducible refine vp_3 ?_ ?_
      | with_reducible refine vp_4 ?_ ?_
      | with_reducible refine vp_8 ?_ ?_
      | with_reducible refine vp_11 ?_ ?_
      | with_reducible refine vp_15 ?_ ?_
      | with_reducible refine vp_16 ?_ ?_
      | with_reducible refine vp_20 ?_ ?_
      | with_reducible refine vp_60 ?_ ?_
      | with_reducible refine vp_80 ?_ ?_
      | contradiction))

theorem sp_X9_findTargets {S : CST} {i1 : Nat} {T : Nat × Nat} {Post : CST → Prop} (hT : S.2 = T) (hi : i1 < T.1) (h : ∀ S' : CST, S'.2 = T → Ex [180] S S' → Post S') : wp_X9_findTargets S i1 Post :=
  ⟨2147483647 + 1, lp_X9_findTargets_2 hi (fun S1 hT1 e1 => ⟨2147483647 + 1, lp_X9_findTargets_23 hi (fun S2 hT2 e2 => h S2 hT2 (Ex.step e2 (by decide) e1)) 2147483647 0 S1 rfl hT1 Ex.rf⟩) 2147483647 0 S rfl hT Ex.rf⟩

theorem lp_X9_knowArgsAlone_23 {S : CST} {K : CST → Prop} {i : Nat} {Post : CST → Prop} {T : Nat × Nat} (hi : i < T.1) (hK : ∀ S' : CST, S'.2 = T → Ex [160, 170] S S' → K S')  : ∀ (n j : Nat) (S' : CST), j + n = 2147483647 → S'.2 = T → Ex [160, 170] S S' → wl_X9_knowArgsAlone_23 K Post (n + 1) S' i (nI j) := by
  intro n
  induction n with
  | zero =>
    intro j S' hj s0 s1
    have hneg : ¬ nI j < 0 := nI_nn j (by omega)
    have hz : ∀ r : Int32, r ≤ nI j := by
      obtain rfl : j = 2147483647 := by omega
      exact z_max
    unfold wl_X9_knowArgsAlone_23
    repeat (any_goals (first
      | with_reducible refine ⟨?_, ?_⟩
      | with_reducible rintro _ rfl
      | with_reducible intro _
      | exact absurd (hz _) (by assumption)
      | (refine hK _ ?_ (by (repeat (first | with_reducible exact Ex.rf | with_reducible assumption | with_reducible refine Ex.cs (by decide) ?_ | with_reducible refine Ex.step (by assumption) (by decide) ?_)); done))
      | with_reducible exact vp_11 (by assumption) (fun q => absurd (Int32.le_trans (show (3 : Int32) ≤ 11 by decide) q) (by assumption))
      | ((repeat (first | with_reducible exact Ex.rf | with_reducible assumption | with_reducible refine Ex.cs (by decide) ?_ | with_reducible refine Ex.step (by assumption) (by decide) ?_)); done)
      | with_reducible refine sp_X5_valueOf (T := T) ?_ ?_ (fun _ => ?_)
      | with_reducible refine sp_X9_know (T := T) ?_ (fun _ _ _ => ?_)
      | with_reducible assumption
      | with_reducible exact cin_0
      | with_reducible exact cin_1
      | with_reducible exact cin_2
      | with_reducible exact cin_3
      | with_reducible exact cin_4
      | with_reducible exact cin_5
      | with_reducible exact cin_6
      | with_reducible exact cin_7
      | with_reducible exact cin_8
      | with_reducible exact cin_9
      | with_reducible exact cin_10
      | with_reducible exact cin_11
      | with_reducible exact cin_12
      | with_reducible exact cin_13
      | with_reducible exact cin_14
      | with_reducible exact cin_15
      | with_reducible exact cin_16
      | with_reducible exact cin_17
      | with_reducible exact cin_18
      | with_reducible exact cin_19
      | with_reducible exact cin_20
      | with_reducible exact cin_21
      | with_reducible refine cin_22 ?_
      | with_reducible refine cin_23 ?_
      | with_reducible refine cin_24 (T := T) ?_ ?_
      | with_reducible refine cin_25 (T := T) ?_ ?_
      | with_reducible refine cin_26 (T := T) ?_ ?_
      | with_reducible refine cin_27 (T := T) ?_ ?_
      | with_reducible refine cin_28 (T := T) ?_ ?_
      | with_reducible refine cin_29 (T := T) ?_ ?_
      | with_reducible refine cin_30 (T := T) ?_ ?_
      | with_reducible refine cin_31 (T := T) ?_ ?_
      | with_reducible refine cin_32 (T := T) ?_ ?_
      | with_reducible refine cin_33 (T := T) ?_ ?_
      | with_reducible refine cin_34 (T := T) ?_ ?_
      | with_reducible refine cs_2 ?_
      | with_reducible exact vid_lt (by assumption) (by assumption)
      | with_reducible exact vp_c0
      | with_reducible exact vp_c1
      | with_reducible exact vp_c2
      | with_reducible exact vp_item (by assumption) (by assumption) (by assumption) (by assumption)
      | with_reducible exact has_vp (by assumption) (by assumption)
      | with_reducible exact dead_vp (by assumption) (by assumption)
      | with_reducible exact lw_vp (by assumption) (by assumption)
      | with_reducible refine vp_3 ?_ ?_
      | with_reducible refine vp_4 ?_ ?_
      | with_reducible refine vp_8 ?_ ?_
      | with_reducible refine vp_11 ?_ ?_
      | with_reducible refine vp_15 ?_ ?_
      | with_reducible refine vp_16 ?_ ?_
      | with_reducible refine vp_20 ?_ ?_
      | with_reducible refine vp_60 ?_ ?_
      | with_reducible refine vp_80 ?_ ?_
      | contradiction))
  | succ n ih =>
    intro j S' hj s0 s1
    have hneg : ¬ nI j < 0 := nI_nn j (by omega)
    unfold wl_X9_knowArgsAlone_23
    repeat (any_goals (first
      | with_reducible refine ⟨?_, ?_⟩
      | with_reducible rintro _ rfl
      | with_reducible intro _
      | (rw [nI_1]; refine ih (j + 1) _ (by omega) ?_ ?_)
      | (refine hK _ ?_ (by (repeat (first | with_reducible exact Ex.rf | with_reducible assumption | with_reducible refine Ex.cs (by decide) ?_ | with_reducible refine Ex.step (by assumption) (by decide) ?_)); done))
      | with_reducible exact vp_11 (by assumption) (fun q => absurd (Int32.le_trans (show (3 : Int32) ≤ 11 by decide) q) (by assumption))
      | ((repeat (first | with_reducible exact Ex.rf | with_reducible assumption | with_reducible refine Ex.cs (by decide) ?_ | with_reducible refine Ex.step (by assumption) (by decide) ?_)); done)
      | with_reducible refine sp_X5_valueOf (T := T) ?_ ?_ (fun _ => ?_)
      | with_reducible refine sp_X9_know (T := T) ?_ (fun _ _ _ => ?_)
      | with_reducible assumption
      | with_reducible exact cin_0
      | with_reducible exact cin_1
      | with_reducible exact cin_2
      | with_reducible exact cin_3
      | with_reducible exact cin_4
      | with_reducible exact cin_5
      | with_reducible exact cin_6
      | with_reducible exact cin_7
      | with_reducible exact cin_8
      | with_reducible exact cin_9
      | with_reducible exact cin_10
      | with_reducible exact cin_11
      | with_reducible exact cin_12
      | with_reducible exact cin_13
      | with_reducible exact cin_14
      | with_reducible exact cin_15
      | with_reducible exact cin_16
      | with_reducible exact cin_17
      | with_reducible exact cin_18
      | with_reducible exact cin_19
      | with_reducible exact cin_20
      | with_reducible exact cin_21
      | with_reducible refine cin_22 ?_
      | with_reducible refine cin_23 ?_
      | with_reducible refine cin_24 (T := T) ?_ ?_
      | with_reducible refine cin_25 (T := T) ?_ ?_
      | with_reducible refine cin_26 (T := T) ?_ ?_
      | with_reducible refine cin_27 (T := T) ?_ ?_
      | with_reducible refine cin_28 (T := T) ?_ ?_
      | with_reducible refine cin_29 (T := T) ?_ ?_
      | with_reducible refine cin_30 (T := T) ?_ ?_
      | with_reducible refine cin_31 (T := T) ?_ ?_
      | with_reducible refine cin_32 (T := T) ?_ ?_
      | with_reducible refine cin_33 (T := T) ?_ ?_
      | with_reducible refine cin_34 (T := T) ?_ ?_
      | with_reducible refine cs_2 ?_
      | with_reducible exact vid_lt (by assumption) (by assumption)
      | with_reducible exact vp_c0
      | with_reducible exact vp_c1
      | with_reducible exact vp_c2
      | with_reducible exact vp_item (by assumption) (by assumption) (by assumption) (by assumption)
      | with_reducible exact has_vp (by assumption) (by assumption)
      | with_reducible exact dead_vp (by assumption) (by assumption)
      | with_reducible exact lw_vp (by assumption) (by assumption)
      | with_reducible refine vp_3 ?_ ?_
      | with_reducible refine vp_4 ?_ ?_
      | with_reducible refine vp_8 ?_ ?_
      | with_reducible refine vp_11 ?_ ?_
      | with_reducible refine vp_15 ?_ ?_
      | with_reducible refine vp_16 ?_ ?_
      | with_reducible refine vp_20 ?_ ?_
      | with_reducible refine vp_60 ?_ ?_
      | with_reducible refine vp_80 ?_ ?_
      | contradiction))

theorem lp_X9_knowArgsAlone_2 {S : CST} {K : CST → Nat → Prop} {i : Nat} {Post : CST → Prop} {T : Nat × Nat} (hi : i < T.1) (hK : ∀ S' : CST, S'.2 = T → Ex [160, 170] S S' → K S' i)  : ∀ (n j : Nat) (S' : CST), j + n = 2147483647 → S'.2 = T → Ex [160, 170] S S' → wl_X9_knowArgsAlone_2 K Post (n + 1) S' i (nI j) := by
  intro n
  induction n with
  | zero =>
    intro j S' hj s0 s1
    have hneg : ¬ nI j < 0 := nI_nn j (by omega)
    have hz : ∀ r : Int32, r ≤ nI j := by
      obtain rfl : j = 2147483647 := by omega
      exact z_max
    unfold wl_X9_knowArgsAlone_2
    repeat (any_goals (first
      | with_reducible refine ⟨?_, ?_⟩
      | with_reducible rintro _ rfl
      | with_reducible intro _
      | exact absurd (hz _) (by assumption)
      | (refine hK _ ?_ (by (repeat (first | with_reducible exact Ex.rf | with_reducible assumption | with_reducible refine Ex.cs (by decide) ?_ | with_reducible refine Ex.step (by assumption) (by decide) ?_)); done))
      | ((repeat (first | with_reducible exact Ex.rf | with_reducible assumption | with_reducible refine Ex.cs (by decide) ?_ | with_reducible refine Ex.step (by assumption) (by decide) ?_)); done)
      | with_reducible assumption
      | with_reducible exact cin_0
      | with_reducible exact cin_1
      | with_reducible exact cin_2
      | with_reducible exact cin_3
      | with_reducible exact cin_4
      | with_reducible exact cin_5
      | with_reducible exact cin_6
      | with_reducible exact cin_7
      | with_reducible exact cin_8
      | with_reducible exact cin_9
      | with_reducible exact cin_10
      | with_reducible exact cin_11
      | with_reducible exact cin_12
      | with_reducible exact cin_13
      | with_reducible exact cin_14
      | with_reducible exact cin_15
      | with_reducible exact cin_16
      | with_reducible exact cin_17
      | with_reducible exact cin_18
      | with_reducible exact cin_19
      | with_reducible exact cin_20
      | with_reducible exact cin_21
      | with_reducible refine cin_22 ?_
      | with_reducible refine cin_23 ?_
      | with_reducible refine cin_24 (T := T) ?_ ?_
      | with_reducible refine cin_25 (T := T) ?_ ?_
      | with_reducible refine cin_26 (T := T) ?_ ?_
      | with_reducible refine cin_27 (T := T) ?_ ?_
      | with_reducible refine cin_28 (T := T) ?_ ?_
      | with_reducible refine cin_29 (T := T) ?_ ?_
      | with_reducible refine cin_30 (T := T) ?_ ?_
      | with_reducible refine cin_31 (T := T) ?_ ?_
      | with_reducible refine cin_32 (T := T) ?_ ?_
      | with_reducible refine cin_33 (T := T) ?_ ?_
      | with_reducible refine cin_34 (T := T) ?_ ?_
      | with_reducible refine cs_2 ?_
      | with_reducible exact vid_lt (by assumption) (by assumption)
      | with_reducible exact vp_c0
      | with_reducible exact vp_c1
      | with_reducible exact vp_c2
      | with_reducible exact vp_item (by assumption) (by assumption) (by assumption) (by assumption)
      | with_reducible exact has_vp (by assumption) (by assumption)
      | with_reducible exact dead_vp (by assumption) (by assumption)
      | with_reducible exact lw_vp (by assumption) (by assumption)
      | with_reducible refine vp_3 ?_ ?_
      | with_reducible refine vp_4 ?_ ?_
      | with_reducible refine vp_8 ?_ ?_
      | with_reducible refine vp_11 ?_ ?_
      | with_reducible refine vp_15 ?_ ?_
      | with_reducible refine vp_16 ?_ ?_
      | with_reducible refine vp_20 ?_ ?_
      | with_reducible refine vp_60 ?_ ?_
      | with_reducible refine vp_80 ?_ ?_
      | contradiction))
  | succ n ih =>
    intro j S' hj s0 s1
    have hneg : ¬ nI j < 0 := nI_nn j (by omega)
    unfold wl_X9_knowArgsAlone_2
    repeat (any_goals (first
      | with_reducible refine ⟨?_, ?_⟩
      | with_reducible rintro _ rfl
      | with_reducible intro _
      | (rw [nI_1]; refine ih (j + 1) _ (by omega) ?_ ?_)
      | (refine hK _ ?_ (by (repeat (first | with_reducible exact Ex.rf | with_reducible assumption | with_reducible refine Ex.cs (by decide) ?_ | with_reducible refine Ex.step (by assumption) (by decide) ?_)); done))
      | ((repeat (first | with_reducible exact Ex.rf | with_reducible assumption | with_reducible refine Ex.cs (by decide) ?_ | with_reducible refine Ex.step (by assumption) (by decide) ?_)); done)
      | with_reducible assumption
      | with_reducible exact cin_0
      | with_reducible exact cin_1
      | with_reducible exact cin_2
      | with_reducible exact cin_3
      | with_reducible exact cin_4
      | with_reducible exact cin_5
      | with_reducible exact cin_6
      | with_reducible exact cin_7
      | with_reducible exact cin_8
      | with_reducible exact cin_9
      | with_reducible exact cin_10
      | with_reducible exact cin_11
      | with_reducible exact cin_12
      | with_reducible exact cin_13
      | with_reducible exact cin_14
      | with_reducible exact cin_15
      | with_reducible exact cin_16
      | with_reducible exact cin_17
      | with_reducible exact cin_18
      | with_reducible exact cin_19
      | with_reducible exact cin_20
      | with_reducible exact cin_21
      | with_reducible refine cin_22 ?_
      | with_reducible refine cin_23 ?_
      | with_reducible refine cin_24 (T := T) ?_ ?_
      | with_reducible refine cin_25 (T := T) ?_ ?_
      | with_reducible refine cin_26 (T := T) ?_ ?_
      | with_reducible refine cin_27 (T := T) ?_ ?_
      | with_reducible refine cin_28 (T := T) ?_ ?_
      | with_reducible refine cin_29 (T := T) ?_ ?_
      | with_reducible refine cin_30 (T := T) ?_ ?_
      | with_reducible refine cin_31 (T := T) ?_ ?_
      | with_reducible refine cin_32 (T := T) ?_ ?_
      | with_reducible refine cin_33 (T := T) ?_ ?_
      | with_reducible refine cin_34 (T := T) ?_ ?_
      | with_reducible refine cs_2 ?_
      | with_reducible exact vid_lt (by assumption) (by assumption)
      | with_reducible exact vp_c0
      | with_reducible exact vp_c1
      | with_reducible exact vp_c2
      | with_reducible exact vp_item (by assumption) (by assumption) (by assumption) (by assumption)
      | with_reducible exact has_vp (by assumption) (by assumption)
      | with_reducible exact dead_vp (by assumption) (by assumption)
      | with_reducible exact lw_vp (by assumption) (by assumption)
      | with_reducible refine vp_3 ?_ ?_
      | with_reducible refine vp_4 ?_ ?_
      | with_reducible refine vp_8 ?_ ?_
      | with_reducible refine vp_11 ?_ ?_
      | with_reducible refine vp_15 ?_ ?_
      | with_reducible refine vp_16 ?_ ?_
      | with_reducible refine vp_20 ?_ ?_
      | with_reducible refine vp_60 ?_ ?_
      | with_reducible refine vp_80 ?_ ?_
      | contradiction))

theorem sp_X9_knowArgsAlone {S : CST} {i1 : Nat} {T : Nat × Nat} {Post : CST → Prop} (hT : S.2 = T) (hi : i1 < T.1) (h : ∀ S' : CST, S'.2 = T → Ex [160, 170] S S' → Post S') : wp_X9_knowArgsAlone S i1 Post :=
  ⟨2147483647 + 1, lp_X9_knowArgsAlone_2 hi (fun S1 hT1 e1 => ⟨2147483647 + 1, lp_X9_knowArgsAlone_23 hi (fun S2 hT2 e2 => h S2 hT2 (Ex.step e2 (by decide) e1)) 2147483647 0 S1 rfl hT1 Ex.rf⟩) 2147483647 0 S rfl hT Ex.rf⟩

theorem sp_X9_isFieldKnown {S : CST} {i1 : Nat} {a2 : Int32} {a3 : Int32} {T : Nat × Nat} {Post : CST → Int32 → Prop} (hT : S.2 = T) (hi : i1 < T.1) (h : ∀ (S' : CST) (r : Int32), S'.2 = T → Ex [160, 170] S S' → Post S' r) : wp_X9_isFieldKnown S i1 a2 a3 Post := by
  unfold wp_X9_isFieldKnown
  repeat (any_goals (first
    | with_reducible refine ⟨?_, ?_⟩
    | with_reducible rintro _ rfl
    | with_reducible intro _
    | with_reducible exact vp_11 (fun q => absurd (Int32.lt_trans q (show (0 : Int32) < 3 by decide)) (by assumption)) (by assumption)
    | (refine h _ _ (by assumption) (by (repeat (first | with_reducible exact Ex.rf | with_reducible assumption | with_reducible refine Ex.cs (by decide) ?_ | with_reducible refine Ex.step (by assumption) (by decide) ?_)); done))
    | with_reducible refine sp_X5_valueOf (T := T) ?_ ?_ (fun _ => ?_)
    | with_reducible refine sp_X9_know (T := T) ?_ (fun _ _ _ => ?_)
    | with_reducible assumption
    | with_reducible exact cin_0
    | with_reducible exact cin_1
    | with_reducible exact cin_2
    | with_reducible exact cin_3
    | with_reducible exact cin_4
    | with_reducible exact cin_5
    | with_reducible exact cin_6
    | with_reducible exact cin_7
    | with_reducible exact cin_8
    | with_reducible exact cin_9
    | with_reducible exact cin_10
    | with_reducible exact cin_11
    | with_reducible exact cin_12
    | with_reducible exact cin_13
    | with_reducible exact cin_14
    | with_reducible exact cin_15
    | with_reducible exact cin_16
    | with_reducible exact cin_17
    | with_reducible exact cin_18
    | with_reducible exact cin_19
    | with_reducible exact cin_20
    | with_reducible exact cin_21
    | with_reducible refine cin_22 ?_
    | with_reducible refine cin_23 ?_
    | with_reducible refine cin_24 (T := T) ?_ ?_
    | with_reducible refine cin_25 (T := T) ?_ ?_
    | with_reducible refine cin_26 (T := T) ?_ ?_
    | with_reducible refine cin_27 (T := T) ?_ ?_
    | with_reducible refine cin_28 (T := T) ?_ ?_
    | with_reducible refine cin_29 (T := T) ?_ ?_
    | with_reducible refine cin_30 (T := T) ?_ ?_
    | with_reducible refine cin_31 (T := T) ?_ ?_
    | with_reducible refine cin_32 (T := T) ?_ ?_
    | with_reducible refine cin_33 (T := T) ?_ ?_
    | with_reducible refine cin_34 (T := T) ?_ ?_
    | with_reducible refine cs_2 ?_
    | with_reducible exact vid_lt (by assumption) (by assumption)
    | with_reducible exact vp_c0
    | with_reducible exact vp_c1
    | with_reducible exact vp_c2
    | with_reducible exact vp_item (by assumption) (by assumption) (by assumption) (by assumption)
    | with_reducible exact has_vp (by assumption) (by assumption)
    | with_reducible exact dead_vp (by assumption) (by assumption)
    | with_reducible exact lw_vp (by assumption) (by assumption)
    | with_reducible refine vp_3 ?_ ?_
    | with_reducible refine vp_4 ?_ ?_
    | with_reducible refine vp_8 ?_ ?_
    | with_reducible refine vp_11 ?_ ?_
    | with_reducible refine vp_15 ?_ ?_
    | with_reducible refine vp_16 ?_ ?_
    | with_reducible refine vp_20 ?_ ?_
    | with_reducible refine vp_60 ?_ ?_
    | with_reducible refine vp_80 ?_ ?_
    | contradiction))

theorem lp_X7_call_32 {S : CST} {K : CST → Prop} {i : Nat} {a3 : Int32} {Post : CST → Prop} {T : Nat × Nat} (hi : i < 16) (hK : ∀ S' : CST, S'.2 = T → Ex [140] S S' → K S')  : ∀ (n j : Nat) (S' : CST), j + n = 2147483647 → S'.2 = T → Ex [140] S S' → wl_X7_call_32 K Post (n + 1) S' i a3 (nI j) := by
  intro n
  induction n with
  | zero =>
    intro j S' hj s0 s1
    have hneg : ¬ nI j < 0 := nI_nn j (by omega)
    have hz : ∀ r : Int32, r ≤ nI j := by
      obtain rfl : j = 2147483647 := by omega
      exact z_max
    unfold wl_X7_call_32
    repeat (any_goals (first
      | with_reducible refine ⟨?_, ?_⟩
      | with_reducible rintro _ rfl
      | with_reducible intro _
      | exact absurd (hz _) (by assumption)
      | (refine hK _ ?_ (by (repeat (first | with_reducible exact Ex.rf | with_reducible assumption | with_reducible refine Ex.cs (by decide) ?_ | with_reducible refine Ex.step (by assumption) (by decide) ?_)); done))
      | ((repeat (first | with_reducible exact Ex.rf | with_reducible assumption | with_reducible refine Ex.cs (by decide) ?_ | with_reducible refine Ex.step (by assumption) (by decide) ?_)); done)
      | with_reducible refine sp_X4_valueOf (T := T) ?_ ?_ (fun _ => ?_)
      | with_reducible assumption
      | with_reducible exact cin_0
      | with_reducible exact cin_1
      | with_reducible exact cin_2
      | with_reducible exact cin_3
      | with_reducible exact cin_4
      | with_reducible exact cin_5
      | with_reducible exact cin_6
      | with_reducible exact cin_7
      | with_reducible exact cin_8
      | with_reducible exact cin_9
      | with_reducible exact cin_10
      | with_reducible exact cin_11
      | with_reducible exact cin_12
      | with_reducible exact cin_13
      | with_reducible exact cin_14
      | with_reducible exact cin_15
      | with_reducible exact cin_16
      | with_reducible exact cin_17
      | with_reducible exact cin_18
      | with_reducible exact cin_19
      | with_reducible exact cin_20
      | with_reducible exact cin_21
      | with_reducible refine cin_22 ?_
      | with_reducible refine cin_23 ?_
      | with_reducible refine cin_24 (T := T) ?_ ?_
      | with_reducible refine cin_25 (T := T) ?_ ?_
      | with_reducible refine cin_26 (T := T) ?_ ?_
      | with_reducible refine cin_27 (T := T) ?_ ?_
      | with_reducible refine cin_28 (T := T) ?_ ?_
      | with_reducible refine cin_29 (T := T) ?_ ?_
      | with_reducible refine cin_30 (T := T) ?_ ?_
      | with_reducible refine cin_31 (T := T) ?_ ?_
      | with_reducible refine cin_32 (T := T) ?_ ?_
      | with_reducible refine cin_33 (T := T) ?_ ?_
      | with_reducible refine cin_34 (T := T) ?_ ?_
      | with_reducible refine cs_2 ?_
      | with_reducible exact vid_lt (by assumption) (by assumption)
      | with_reducible exact vp_c0
      | with_reducible exact vp_c1
      | with_reducible exact vp_c2
      | with_reducible exact vp_item (by assumption) (by assumption) (by assumption) (by assumption)
      | with_reducible exact has_vp (by assumption) (by assumption)
      | with_reducible exact dead_vp (by assumption) (by assumption)
      | with_reducible exact lw_vp (by assumption) (by assumption)
      | with_reducible refine vp_3 ?_ ?_
      | with_reducible refine vp_4 ?_ ?_
      | with_reducible refine vp_8 ?_ ?_
      | with_reducible refine vp_11 ?_ ?_
      | with_reducible refine vp_15 ?_ ?_
      | with_reducible refine vp_16 ?_ ?_
      | with_reducible refine vp_20 ?_ ?_
      | with_reducible refine vp_60 ?_ ?_
      | with_reducible refine vp_80 ?_ ?_
      | contradiction))
  | succ n ih =>
    intro j S' hj s0 s1
    have hneg : ¬ nI j < 0 := nI_nn j (by omega)
    unfold wl_X7_call_32
    repeat (any_goals (first
      | with_reducible refine ⟨?_, ?_⟩
      | with_reducible rintro _ rfl
      | with_reducible intro _
      | (rw [nI_1]; refine ih (j + 1) _ (by omega) ?_ ?_)
      | (refine hK _ ?_ (by (repeat (first | with_reducible exact Ex.rf | with_reducible assumption | with_reducible refine Ex.cs (by decide) ?_ | with_reducible refine Ex.step (by assumption) (by decide) ?_)); done))
      | ((repeat (first | with_reducible exact Ex.rf | with_reducible assumption | with_reducible refine Ex.cs (by decide) ?_ | with_reducible refine Ex.step (by assumption) (by decide) ?_)); done)
      | with_reducible refine sp_X4_valueOf (T := T) ?_ ?_ (fun _ => ?_)
      | with_reducible assumption
      | with_reducible exact cin_0
      | with_reducible exact cin_1
      | with_reducible exact cin_2
      | with_reducible exact cin_3
      | with_reducible exact cin_4
      | with_reducible exact cin_5
      | with_reducible exact cin_6
      | with_reducible exact cin_7
      | with_reducible exact cin_8
      | with_reducible exact cin_9
      | with_reducible exact cin_10
      | with_reducible exact cin_11
      | with_reducible exact cin_12
      | with_reducible exact cin_13
      | with_reducible exact cin_14
      | with_reducible exact cin_15
      | with_reducible exact cin_16
      | with_reducible exact cin_17
      | with_reducible exact cin_18
      | with_reducible exact cin_19
      | with_reducible exact cin_20
      | with_reducible exact cin_21
      | with_reducible refine cin_22 ?_
      | with_reducible refine cin_23 ?_
      | with_reducible refine cin_24 (T := T) ?_ ?_
      | with_reducible refine cin_25 (T := T) ?_ ?_
      | with_reducible refine cin_26 (T := T) ?_ ?_
      | with_reducible refine cin_27 (T := T) ?_ ?_
      | with_reducible refine cin_28 (T := T) ?_ ?_
      | with_reducible refine cin_29 (T := T) ?_ ?_
      | with_reducible refine cin_30 (T := T) ?_ ?_
      | with_reducible refine cin_31 (T := T) ?_ ?_
      | with_reducible refine cin_32 (T := T) ?_ ?_
      | with_reducible refine cin_33 (T := T) ?_ ?_
      | with_reducible refine cin_34 (T := T) ?_ ?_
      | with_reducible refine cs_2 ?_
      | with_reducible exact vid_lt (by assumption) (by assumption)
      | with_reducible exact vp_c0
      | with_reducible exact vp_c1
      | with_reducible exact vp_c2
      | with_reducible exact vp_item (by assumption) (by assumption) (by assumption) (by assumption)
      | with_reducible exact has_vp (by assumption) (by assumption)
      | with_reducible exact dead_vp (by assumption) (by assumption)
      | with_reducible exact lw_vp (by assumption) (by assumption)
      | with_reducible refine vp_3 ?_ ?_
      | with_reducible refine vp_4 ?_ ?_
      | with_reducible refine vp_8 ?_ ?_
      | with_reducible refine vp_11 ?_ ?_
      | with_reducible refine vp_15 ?_ ?_
      | with_reducible refine vp_16 ?_ ?_
      | with_reducible refine vp_20 ?_ ?_
      | with_reducible refine vp_60 ?_ ?_
      | with_reducible refine vp_80 ?_ ?_
      | contradiction))

