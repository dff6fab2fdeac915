/-! THE CLASS, pure: its methods end, and change no more than told -/
theorem z_max (r : Int32) : r ≤ nI 2147483647 := by
  rw [Int32.le_iff_toInt_le]
  have h1 := Int32.toInt_lt r
  have h2 : (nI 2147483647).toInt = 2147483647 := by decide
  omega
theorem z_maxlt {r : Int32} (hr : r.toInt < 2147483647) : r < nI 2147483647 := by
  rw [Int32.lt_iff_toInt_lt]
  have h2 : (nI 2147483647).toInt = 2147483647 := by decide
  omega
theorem nI_nn (j : Nat) (hj : j < 2 ^ 31) : ¬ nI j < 0 := Int32.not_lt.mpr (nI_pos' hj)
theorem nI_ofc {x : Int32} (h : ¬ x < 0) : ∃ j : Nat, x = nI j ∧ j ≤ 2147483647 := by
  refine ⟨x.toNatClampNeg, (ofNat_clamp h).symm, ?_⟩
  have h1 := Int32.toInt_lt x
  have h2 : x.toNatClampNeg = x.toInt.toNat := rfl
  omega
theorem z_mx {a b : Int32} (h : ¬ a < 0) : ¬ (if a < b then b else a) < 0 := by
  rw [Int32.lt_iff_toInt_lt] at h ⊢
  have z : (0 : Int32).toInt = 0 := by decide
  by_cases hab : a < b
  · rw [if_pos hab]
    rw [Int32.lt_iff_toInt_lt] at hab
    omega
  · rw [if_neg hab]; exact h
theorem z_mx0 (a : Int32) : ¬ (if a < 0 then 0 else a) < 0 := by
  by_cases h : a < 0
  · rw [if_pos h]; decide
  · rw [if_neg h]; exact h
theorem vp_item {r a1 a2 : Int32} (hr : r = -1 ∨ (¬ a1 < 0 ∧ ¬ 4 ≤ a1)) (h1 : ¬ r ≤ a2) (h2 : ¬ a2 < 0) (h3 : ¬ 20 ≤ a2) : vp_in (20 * a1 + a2) 80 := by
  obtain ⟨j2, rfl, h2j⟩ := nI_ofc h2
  rcases hr with rfl | ⟨h4, h5⟩
  · exact absurd (z_m1 h2) h1
  · obtain ⟨j1, rfl, h1j⟩ := nI_ofc h4
    have b1 : j1 < 4 := Nat.not_le.mp (fun q => h5 (nI_le (a := 4) q (by omega)))
    have b2 : j2 < 20 := Nat.not_le.mp (fun q => h3 (nI_le (a := 20) q (by omega)))
    rw [show (20 : Int32) * nI j1 = nI (20 * j1) from nI_mul 20 j1, nI_add]
    exact vp_in_nI (by omega) (by omega)
theorem tsw_ne {r c : Int32} {lo hi : Int} (h : r.toInt < lo ∨ hi < r.toInt) (hc : lo ≤ c.toInt ∧ c.toInt ≤ hi) : ¬ r = c := by
  rintro rfl
  omega
theorem TH_rk {a d : Int32} {A : Nat → Prop} (h18 : ¬ a = 18) (h19 : ¬ a = 19) : TH (a - 3 + 2) d A := by
  have e : a - 3 + 2 + 1 = a := by
    rw [Int32.sub_eq_add_neg, Int32.add_assoc, Int32.add_assoc, show (-3 + (2 + 1) : Int32) = 0 by decide, Int32.add_zero]
  refine TH_of (fun q => h18 ?_) (fun q => h19 ?_)
  · rw [← e, q]; decide
  · rw [← e, q]; decide
theorem TH_17 {j : Nat} {A : Nat → Prop} (hj : j < 11) (hA : A j) : TH 17 (nI j) A := ⟨fun _ => ⟨j, hj, hA, rfl⟩, fun q => absurd q (by decide)⟩
theorem TH_18 {j : Nat} {A : Nat → Prop} (hj : j < 11) (hA : A j) : TH 18 (nI j - 3) A := by
  refine ⟨fun q => absurd q (by decide), fun _ => ⟨j, hj, hA, ?_⟩⟩
  rw [Int32.sub_eq_add_neg, Int32.add_comm (nI j), ← Int32.add_assoc, show (3 + -3 : Int32) = 0 by decide, Int32.zero_add]
theorem has_vp {r a : Int32} (h : ¬ r = 0 → ¬ a < 0 ∧ ¬ 60 ≤ a) (c : ¬ r = 0) : vp_in a 60 := z_in (M := 60) (by decide) (h c).1 (h c).2
theorem has_l {r a : Int32} (h : ¬ r = 0 → ¬ a < 0 ∧ ¬ 60 ≤ a) (c : ¬ r = 0) : ¬ a < 0 ∧ ¬ 60 ≤ a := h c
theorem dead_vp {r a : Int32} (h : r = 0 → ¬ a < 0 ∧ ¬ 60 ≤ a) (c : r = 0) : vp_in a 60 := z_in (M := 60) (by decide) (h c).1 (h c).2
theorem lw_vp {r : Int32} (h : r = -1 ∨ (¬ r < 0 ∧ ¬ 60 ≤ r)) (c : ¬ r = -1) : vp_in r 60 := z_in (M := 60) (by decide) (h.resolve_left c).1 (h.resolve_left c).2
theorem vp_c0 : vp_in 0 3 := by unfold vp_in; decide
theorem vp_c1 : vp_in 1 3 := by unfold vp_in; decide
theorem vp_c2 : vp_in 2 3 := by unfold vp_in; decide

theorem sp_X4_valueOf {S : CST} {i : Nat} {a1 : Int32} {T : Nat × Nat} {Post : Int32 → Prop} (hT : S.2 = T) (hi : i < 16) (h : ∀ r : Int32, Post r) : wp_X4_valueOf S i a1 Post := by
  unfold wp_X4_valueOf
  repeat (any_goals (first
    | with_reducible refine ⟨?_, ?_⟩
    | with_reducible rintro _ rfl
    | with_reducible intro _
    | exact h _
    | with_reducible assumption
    | with_reducible exact cin_0
    | with_reducible exact cin_1
    | with_reducible exact cin_2
    | with_reducible exact cin_3
    | with_reducible exact cin_4
    | with_reducible exact cin_5
    | with_reducible exact cin_6
    | with_reducible exact cin_7
    | with_reducible exact cin_8
    | with_reducible exact cin_9
    | with_reducible exact cin_10
    | with_reducible exact cin_11
    | with_reducible exact cin_12
    | with_reducible exact cin_13
    | with_reducible exact cin_14
    | with_reducible exact cin_15
    | with_reducible exact cin_16
    | with_reducible exact cin_17
    | with_reducible exact cin_18
    | with_reducible exact cin_19
    | with_reducible exact cin_20
    | with_reducible exact cin_21
    | with_reducible refine cin_22 ?_
    | with_reducible refine cin_23 ?_
    | with_reducible refine cin_24 (T := T) ?_ ?_
    | with_reducible refine cin_25 (T := T) ?_ ?_
    | with_reducible refine cin_26 (T := T) ?_ ?_
    | with_reducible refine cin_27 (T := T) ?_ ?_
    | with_reducible refine cin_28 (T := T) ?_ ?_
    | with_reducible refine cin_29 (T := T) ?_ ?_
    | with_reducible refine cin_30 (T := T) ?_ ?_
    | with_reducible refine cin_31 (T := T) ?_ ?_
    | with_reducible refine cin_32 (T := T) ?_ ?_
    | with_reducible refine cin_33 (T := T) ?_ ?_
    | with_reducible refine cin_34 (T := T) ?_ ?_
    | with_reducible refine cs_2 ?_
    | with_reducible exact vid_lt (by assumption) (by assumption)
    | with_reducible exact vp_c0
    | with_reducible exact vp_c1
    | with_reducible exact vp_c2
    | with_reducible exact vp_item (by assumption) (by assumption) (by assumption) (by assumption)
    | with_reducible exact has_vp (by assumption) (by assumption)
    | with_reducible exact dead_vp (by assumption) (by assumption)
    | with_reducible exact lw_vp (by assumption) (by assumption)
    | with_reducible refine vp_3 ?_ ?_
    | with_reducible refine vp_4 ?_ ?_
    | with_reducible refine vp_8 ?_ ?_
    | with_reducible refine vp_11 ?_ ?_
    | with_reducible refine vp_15 ?_ ?_
    | with_reducible refine vp_16 ?_ ?_
    | with_reducible refine vp_20 ?_ ?_
    | with_reducible refine vp_60 ?_ ?_
    | with_reducible refine vp_80 ?_ ?_
    | contradiction))

theorem sp_X2_valueOf {S : CST} {a1 : Int32} {Post : Int32 → Prop} (h : ∀ r : Int32, Post r) : wp_X2_valueOf S a1 Post := by
  unfold wp_X2_valueOf
  repeat (any_goals (first
    | with_reducible refine ⟨?_, ?_⟩
    | with_reducible rintro _ rfl
    | with_reducible intro _
    | exact h _
    | with_reducible assumption
    | with_reducible exact cin_0
    | with_reducible exact cin_1
    | with_reducible exact cin_2
    | with_reducible exact cin_3
    | with_reducible exact cin_4
    | with_reducible exact cin_5
    | with_reducible exact cin_6
    | with_reducible exact cin_7
    | with_reducible exact cin_8
    | with_reducible exact cin_9
    | with_reducible exact cin_10
    | with_reducible exact cin_11
    | with_reducible exact cin_12
    | with_reducible exact cin_13
    | with_reducible exact cin_14
    | with_reducible exact cin_15
    | with_reducible exact cin_16
    | with_reducible exact cin_17
    | with_reducible exact cin_18
    | with_reducible exact cin_19
    | with_reducible exact cin_20
    | with_reducible exact cin_21
    | with_reducible refine cin_22 ?_
    | with_reducible refine cin_23 ?_
    | with_reducible refine cin_24 (T := T) ?_ ?_
    | with_reducible refine cin_25 (T := T) ?_ ?_
    | with_reducible refine cin_26 (T := T) ?_ ?_
    | with_reducible refine cin_27 (T := T) ?_ ?_
    | with_reducible refine cin_28 (T := T) ?_ ?_
    | with_reducible refine cin_29 (T := T) ?_ ?_
    | with_reducible refine cin_30 (T := T) ?_ ?_
    | with_reducible refine cin_31 (T := T) ?_ ?_
    | with_reducible refine cin_32 (T := T) ?_ ?_
    | with_reducible refine cin_33 (T := T) ?_ ?_
    | with_reducible refine cin_34 (T := T) ?_ ?_
    | with_reducible refine cs_2 ?_
    | with_reducible exact vid_lt (by assumption) (by assumption)
    | with_reducible exact vp_c0
    | with_reducible exact vp_c1
    | with_reducible exact vp_c2
    | with_reducible exact vp_item (by assumption) (by assumption) (by assumption) (by assumption)
    | with_reducible exact has_vp (by assumption) (by assumption)
    | with_reducible exact dead_vp (by assumption) (by assumption)
    | with_reducible exact lw_vp (by assumption) (by assumption)
    | with_reducible refine vp_3 ?_ ?_
    | with_reducible refine vp_4 ?_ ?_
    | with_reducible refine vp_8 ?_ ?_
    | with_reducible refine vp_11 ?_ ?_
    | with_reducible refine vp_15 ?_ ?_
    | with_reducible refine vp_16 ?_ ?_
    | with_reducible refine vp_20 ?_ ?_
    | with_reducible refine vp_60 ?_ ?_
    | with_reducible refine vp_80 ?_ ?_
    | contradiction))

theorem sp_X2_lengthOf {S : CST} {a1 : Int32} {Post : Int32 → Prop} (h : ∀ r : Int32, (r = -1 ∨ (¬ a1 < 0 ∧ ¬ 4 ≤ a1)) → Post r) : wp_X2_lengthOf S a1 Post := by
  unfold wp_X2_lengthOf
  repeat (any_goals (first
    | with_reducible refine ⟨?_, ?_⟩
    | with_reducible rintro _ rfl
    | with_reducible intro _
    | exact h _ (Or.inl rfl)
    | exact h _ (Or.inr ⟨by assumption, by assumption⟩)
    | with_reducible assumption
    | with_reducible exact cin_0
    | with_reducible exact cin_1
    | with_reducible exact cin_2
    | with_reducible exact cin_3
    | with_reducible exact cin_4
    | with_reducible exact cin_5
    | with_reducible exact cin_6
    | with_reducible exact cin_7
    | with_reducible exact cin_8
    | with_reducible exact cin_9
    | with_reducible exact cin_10
    | with_reducible exact cin_11
    | with_reducible exact cin_12
    | with_reducible exact cin_13
    | with_reducible exact cin_14
    | with_reducible exact cin_15
    | with_reducible exact cin_16
    | with_reducible exact cin_17
    | with_reducible exact cin_18
    | with_reducible exact cin_19
    | with_reducible exact cin_20
    | with_reducible exact cin_21
    | with_reducible refine cin_22 ?_
    | with_reducible refine cin_23 ?_
    | with_reducible refine cin_24 (T := T) ?_ ?_
    | with_reducible refine cin_25 (T := T) ?_ ?_
    | with_reducible refine cin_26 (T := T) ?_ ?_
    | with_reducible refine cin_27 (T := T) ?_ ?_
    | with_reducible refine cin_28 (T := T) ?_ ?_
    | with_reducible refine cin_29 (T := T) ?_ ?_
    | with_reducible refine cin_30 (T := T) ?_ ?_
    | with_reducible refine cin_31 (T := T) ?_ ?_
    | with_reducible refine cin_32 (T := T) ?_ ?_
    | with_reducible refine cin_33 (T := T) ?_ ?_
    | with_reducible refine cin_34 (T := T) ?_ ?_
    | with_reducible refine cs_2 ?_
    | with_reducible exact vid_lt (by assumption) (by assumption)
    | with_reducible exact vp_c0
    | with_reducible exact vp_c1
    | with_reducible exact vp_c2
    | with_reducible exact vp_item (by assumption) (by assumption) (by assumption) (by assumption)
    | with_reducible exact has_vp (by assumption) (by assumption)
    | with_reducible exact dead_vp (by assumption) (by assumption)
    | with_reducible exact lw_vp (by assumption) (by assumption)
    | with_reducible refine vp_3 ?_ ?_
    | with_reducible refine vp_4 ?_ ?_
    | with_reducible refine vp_8 ?_ ?_
    | with_reducible refine vp_11 ?_ ?_
    | with_reducible refine vp_15 ?_ ?_
    | with_reducible refine vp_16 ?_ ?_
    | with_reducible refine vp_20 ?_ ?_
    | with_reducible refine vp_60 ?_ ?_
    | with_reducible refine vp_80 ?_ ?_
    | contradiction))

theorem sp_X10_ofTrap {S : CST} {a1 : Int32} {Post : Int32 → Prop} (h : ∀ r : Int32, Post r) : wp_X10_ofTrap S a1 Post := by
  unfold wp_X10_ofTrap
  repeat (any_goals (first
    | with_reducible refine ⟨?_, ?_⟩
    | with_reducible rintro _ rfl
    | with_reducible intro _
    | exact h _
    | with_reducible assumption
    | with_reducible exact cin_0
    | with_reducible exact cin_1
    | with_reducible exact cin_2
    | with_reducible exact cin_3
    | with_reducible exact cin_4
    | with_reducible exact cin_5
    | with_reducible exact cin_6
    | with_reducible exact cin_7
    | with_reducible exact cin_8
    | with_reducible exact cin_9
    | with_reducible exact cin_10
    | with_reducible exact cin_11
    | with_reducible exact cin_12
    | with_reducible exact cin_13
    | with_reducible exact cin_14
    | with_reducible exact cin_15
    | with_reducible exact cin_16
    | with_reducible exact cin_17
    | with_reducible exact cin_18
    | with_reducible exact cin_19
    | with_reducible exact cin_20
    | with_reducible exact cin_21
    | with_reducible refine cin_22 ?_
    | with_reducible refine cin_23 ?_
    | with_reducible refine cin_24 (T := T) ?_ ?_
    | with_reducible refine cin_25 (T := T) ?_ ?_
    | with_reducible refine cin_26 (T := T) ?_ ?_
    | with_reducible refine cin_27 (T := T) ?_ ?_
    | with_reducible refine cin_28 (T := T) ?_ ?_
    | with_reducible refine cin_29 (T := T) ?_ ?_
    | with_reducible refine cin_30 (T := T) ?_ ?_
    | with_reducible refine cin_31 (T := T) ?_ ?_
    | with_reducible refine cin_32 (T := T) ?_ ?_
    | with_reducible refine cin_33 (T := T) ?_ ?_
    | with_reducible refine cin_34 (T := T) ?_ ?_
    | with_reducible refine cs_2 ?_
    | with_reducible exact vid_lt (by assumption) (by assumption)
    | with_reducible exact vp_c0
    | with_reducible exact vp_c1
    | with_reducible exact vp_c2
    | with_reducible exact vp_item (by assumption) (by assumption) (by assumption) (by assumption)
    | with_reducible exact has_vp (by assumption) (by assumption)
    | with_reducible exact dead_vp (by assumption) (by assumption)
    | with_reducible exact lw_vp (by assumption) (by assumption)
    | with_reducible refine vp_3 ?_ ?_
    | with_reducible refine vp_4 ?_ ?_
    | with_reducible refine vp_8 ?_ ?_
    | with_reducible refine vp_11 ?_ ?_
    | with_reducible refine vp_15 ?_ ?_
    | with_reducible refine vp_16 ?_ ?_
    | with_reducible refine vp_20 ?_ ?_
    | with_reducible refine vp_60 ?_ ?_
    | with_reducible refine vp_80 ?_ ?_
    | contradiction))

theorem sp_X8_has {S : CST} {i : Nat} {a1 : Int32} {T : Nat × Nat} {Post : Int32 → Prop} (hT : S.2 = T) (hi : i < T.1) (h : ∀ r : Int32, (¬ r = 0 → ¬ a1 < 0 ∧ ¬ 60 ≤ a1) → Post r) : wp_X8_has S i a1 Post := by
  unfold wp_X8_has
  repeat (any_goals (first
    | with_reducible refine ⟨?_, ?_⟩
    | with_reducible rintro _ rfl
    | with_reducible intro _
    | exact h _ (fun q => absurd rfl q)
    | exact h _ (fun _ => ⟨by assumption, by assumption⟩)
    | with_reducible assumption
    | with_reducible exact cin_0
    | with_reducible exact cin_1
    | with_reducible exact cin_2
    | with_reducible exact cin_3
    | with_reducible exact cin_4
    | with_reducible exact cin_5
    | with_reducible exact cin_6
    | with_reducible exact cin_7
    | with_reducible exact cin_8
    | with_reducible exact cin_9
    | with_reducible exact cin_10
    | with_reducible exact cin_11
    | with_reducible exact cin_12
    | with_reducible exact cin_13
    | with_reducible exact cin_14
    | with_reducible exact cin_15
    | with_reducible exact cin_16
    | with_reducible exact cin_17
    | with_reducible exact cin_18
    | with_reducible exact cin_19
    | with_reducible exact cin_20
    | with_reducible exact cin_21
    | with_reducible refine cin_22 ?_
    | with_reducible refine cin_23 ?_
    | with_reducible refine cin_24 (T := T) ?_ ?_
    | with_reducible refine cin_25 (T := T) ?_ ?_
    | with_reducible refine cin_26 (T := T) ?_ ?_
    | with_reducible refine cin_27 (T := T) ?_ ?_
    | with_reducible refine cin_28 (T := T) ?_ ?_
    | with_reducible refine cin_29 (T := T) ?_ ?_
    | with_reducible refine cin_30 (T := T) ?_ ?_
    | with_reducible refine cin_31 (T := T) ?_ ?_
    | with_reducible refine cin_32 (T := T) ?_ ?_
    | with_reducible refine cin_33 (T := T) ?_ ?_
    | with_reducible refine cin_34 (T := T) ?_ ?_
    | with_reducible refine cs_2 ?_
    | with_reducible exact vid_lt (by assumption) (by assumption)
    | with_reducible exact vp_c0
    | with_reducible exact vp_c1
    | with_reducible exact vp_c2
    | with_reducible exact vp_item (by assumption) (by assumption) (by assumption) (by assumption)
    | with_reducible exact has_vp (by assumption) (by assumption)
    | with_reducible exact dead_vp (by assumption) (by assumption)
    | with_reducible exact lw_vp (by assumption) (by assumption)
    | with_reducible refine vp_3 ?_ ?_
    | with_reducible refine vp_4 ?_ ?_
    | with_reducible refine vp_8 ?_ ?_
    | with_reducible refine vp_11 ?_ ?_
    | with_reducible refine vp_15 ?_ ?_
    | with_reducible refine vp_16 ?_ ?_
    | with_reducible refine vp_20 ?_ ?_
    | with_reducible refine vp_60 ?_ ?_
    | with_reducible refine vp_80 ?_ ?_
    | contradiction))

theorem sp_X3_parts {S : CST} {Post : Int32 → Prop} (h : Post (cv S 72 0 0)) : wp_X3_parts S Post := h

theorem sp_X5_valueOf {S : CST} {i : Nat} {a1 : Int32} {T : Nat × Nat} {Post : Int32 → Prop} (hT : S.2 = T) (hi : i < T.1) (h : ∀ r : Int32, Post r) : wp_X5_valueOf S i a1 Post := by
  unfold wp_X5_valueOf
  repeat (any_goals (first
    | with_reducible refine ⟨?_, ?_⟩
    | with_reducible rintro _ rfl
    | with_reducible intro _
    | exact h _
    | with_reducible assumption
    | with_reducible exact cin_0
    | with_reducible exact cin_1
    | with_reducible exact cin_2
    | with_reducible exact cin_3
    | with_reducible exact cin_4
    | with_reducible exact cin_5
    | with_reducible exact cin_6
    | with_reducible exact cin_7
    | with_reducible exact cin_8
    | with_reducible exact cin_9
    | with_reducible exact cin_10
    | with_reducible exact cin_11
    | with_reducible exact cin_12
    | with_reducible exact cin_13
    | with_reducible exact cin_14
    | with_reducible exact cin_15
    | with_reducible exact cin_16
    | with_reducible exact cin_17
    | with_reducible exact cin_18
    | with_reducible exact cin_19
    | with_reducible exact cin_20
    | with_reducible exact cin_21
    | with_reducible refine cin_22 ?_
    | with_reducible refine cin_23 ?_
    | with_reducible refine cin_24 (T := T) ?_ ?_
    | with_reducible refine cin_25 (T := T) ?_ ?_
    | with_reducible refine cin_26 (T := T) ?_ ?_
    | with_reducible refine cin_27 (T := T) ?_ ?_
    | with_reducible refine cin_28 (T := T) ?_ ?_
    | with_reducible refine cin_29 (T := T) ?_ ?_
    | with_reducible refine cin_30 (T := T) ?_ ?_
    | with_reducible refine cin_31 (T := T) ?_ ?_
    | with_reducible refine cin_32 (T := T) ?_ ?_
    | with_reducible refine cin_33 (T := T) ?_ ?_
    | with_reducible refine cin_34 (T := T) ?_ ?_
    | with_reducible refine cs_2 ?_
    | with_reducible exact vid_lt (by assumption) (by assumption)
    | with_reducible exact vp_c0
    | with_reducible exact vp_c1
    | with_reducible exact vp_c2
    | with_reducible exact vp_item (by assumption) (by assumption) (by assumption) (by assumption)
    | with_reducible exact has_vp (by assumption) (by assumption)
    | with_reducible exact dead_vp (by assumption) (by assumption)
    | with_reducible exact lw_vp (by assumption) (by assumption)
    | with_reducible refine vp_3 ?_ ?_
    | with_reducible refine vp_4 ?_ ?_
    | with_reducible refine vp_8 ?_ ?_
    | with_reducible refine vp_11 ?_ ?_
    | with_reducible refine vp_15 ?_ ?_
    | with_reducible refine vp_16 ?_ ?_
    | with_reducible refine vp_20 ?_ ?_
    | with_reducible refine vp_60 ?_ ?_
    | with_reducible refine vp_80 ?_ ?_
    | contradiction))

theorem sp_X9_isKnown {S : CST} {a1 : Int32} {Post : Int32 → Prop} (h : ∀ r : Int32, Post r) : wp_X9_isKnown S a1 Post := by
  unfold wp_X9_isKnown
  repeat (any_goals (first
    | with_reducible refine ⟨?_, ?_⟩
    | with_reducible rintro _ rfl
    | with_reducible intro _
    | exact h _
    | with_reducible assumption
    | with_reducible exact cin_0
    | with_reducible exact cin_1
    | with_reducible exact cin_2
    | with_reducible exact cin_3
    | with_reducible exact cin_4
    | with_reducible exact cin_5
    | with_reducible exact cin_6
    | with_reducible exact cin_7
    | with_reducible exact cin_8
    | with_reducible exact cin_9
    | with_reducible exact cin_10
    | with_reducible exact cin_11
    | with_reducible exact cin_12
    | with_reducible exact cin_13
    | with_reducible exact cin_14
    | with_reducible exact cin_15
    | with_reducible exact cin_16
    | with_reducible exact cin_17
    | with_reducible exact cin_18
    | with_reducible exact cin_19
    | with_reducible exact cin_20
    | with_reducible exact cin_21
    | with_reducible refine cin_22 ?_
    | with_reducible refine cin_23 ?_
    | with_reducible refine cin_24 (T := T) ?_ ?_
    | with_reducible refine cin_25 (T := T) ?_ ?_
    | with_reducible refine cin_26 (T := T) ?_ ?_
    | with_reducible refine cin_27 (T := T) ?_ ?_
    | with_reducible refine cin_28 (T := T) ?_ ?_
    | with_reducible refine cin_29 (T := T) ?_ ?_
    | with_reducible refine cin_30 (T := T) ?_ ?_
    | with_reducible refine cin_31 (T := T) ?_ ?_
    | with_reducible refine cin_32 (T := T) ?_ ?_
    | with_reducible refine cin_33 (T := T) ?_ ?_
    | with_reducible refine cin_34 (T := T) ?_ ?_
    | with_reducible refine cs_2 ?_
    | with_reducible exact vid_lt (by assumption) (by assumption)
    | with_reducible exact vp_c0
    | with_reducible exact vp_c1
    | with_reducible exact vp_c2
    | with_reducible exact vp_item (by assumption) (by assumption) (by assumption) (by assumption)
    | with_reducible exact has_vp (by assumption) (by assumption)
    | with_reducible exact dead_vp (by assumption) (by assumption)
    | with_reducible exact lw_vp (by assumption) (by assumption)
    | with_reducible refine vp_3 ?_ ?_
    | with_reducible refine vp_4 ?_ ?_
    | with_reducible refine vp_8 ?_ ?_
    | with_reducible refine vp_11 ?_ ?_
    | with_reducible refine vp_15 ?_ ?_
    | with_reducible refine vp_16 ?_ ?_
    | with_reducible refine vp_20 ?_ ?_
    | with_reducible refine vp_60 ?_ ?_
    | with_reducible refine vp_80 ?_ ?_
    | contradiction))

theorem sp_X9_worthOf {S : CST} {a1 : Int32} {Post : Int32 → Prop} (h : ∀ r : Int32, Post r) : wp_X9_worthOf S a1 Post := by
  unfold wp_X9_worthOf
  repeat (any_goals (first
    | with_reducible refine ⟨?_, ?_⟩
    | with_reducible rintro _ rfl
    | with_reducible intro _
    | exact h _
    | with_reducible assumption
    | with_reducible exact cin_0
    | with_reducible exact cin_1
    | with_reducible exact cin_2
    | with_reducible exact cin_3
    | with_reducible exact cin_4
    | with_reducible exact cin_5
    | with_reducible exact cin_6
    | with_reducible exact cin_7
    | with_reducible exact cin_8
    | with_reducible exact cin_9
    | with_reducible exact cin_10
    | with_reducible exact cin_11
    | with_reducible exact cin_12
    | with_reducible exact cin_13
    | with_reducible exact cin_14
    | with_reducible exact cin_15
    | with_reducible exact cin_16
    | with_reducible exact cin_17
    | with_reducible exact cin_18
    | with_reducible exact cin_19
    | with_reducible exact cin_20
    | with_reducible exact cin_21
    | with_reducible refine cin_22 ?_
    | with_reducible refine cin_23 ?_
    | with_reducible refine cin_24 (T := T) ?_ ?_
    | with_reducible refine cin_25 (T := T) ?_ ?_
    | with_reducible refine cin_26 (T := T) ?_ ?_
    | with_reducible refine cin_27 (T := T) ?_ ?_
    | with_reducible refine cin_28 (T := T) ?_ ?_
    | with_reducible refine cin_29 (T := T) ?_ ?_
    | with_reducible refine cin_30 (T := T) ?_ ?_
    | with_reducible refine cin_31 (T := T) ?_ ?_
    | with_reducible refine cin_32 (T := T) ?_ ?_
    | with_reducible refine cin_33 (T := T) ?_ ?_
    | with_reducible refine cin_34 (T := T) ?_ ?_
    | with_reducible refine cs_2 ?_
    | with_reducible exact vid_lt (by assumption) (by assumption)
    | with_reducible exact vp_c0
    | with_reducible exact vp_c1
    | with_reducible exact vp_c2
    | with_reducible exact vp_item (by assumption) (by assumption) (by assumption) (by assumption)
    | with_reducible exact has_vp (by assumption) (by assumption)
    | with_reducible exact dead_vp (by assumption) (by assumption)
    | with_reducible exact lw_vp (by assumption) (by assumption)
    | with_reducible refine vp_3 ?_ ?_
    | with_reducible refine vp_4 ?_ ?_
    | with_reducible refine vp_8 ?_ ?_
    | with_reducible refine vp_11 ?_ ?_
    | with_reducible refine vp_15 ?_ ?_
    | with_reducible refine vp_16 ?_ ?_
    | with_reducible refine vp_20 ?_ ?_
    | with_reducible refine vp_60 ?_ ?_
    | with_reducible refine vp_80 ?_ ?_
    | contradiction))

theorem sp_X5_isVarying {S : CST} {i : Nat} {a1 : Int32} {T : Nat × Nat} {Post : Int32 → Prop} (hT : S.2 = T) (hi : i < T.1) (h : ∀ r : Int32, Post r) : wp_X5_isVarying S i a1 Post := by
  unfold wp_X5_isVarying
  repeat (any_goals (first
    | with_reducible refine ⟨?_, ?_⟩
    | with_reducible rintro _ rfl
    | with_reducible intro _
    | exact h _
    | with_reducible assumption
    | with_reducible exact cin_0
    | with_reducible exact cin_1
    | with_reducible exact cin_2
    | with_reducible exact cin_3
    | with_reducible exact cin_4
    | with_reducible exact cin_5
    | with_reducible exact cin_6
    | with_reducible exact cin_7
    | with_reducible exact cin_8
    | with_reducible exact cin_9
    | with_reducible exact cin_10
    | with_reducible exact cin_11
    | with_reducible exact cin_12
    | with_reducible exact cin_13
    | with_reducible exact cin_14
    | with_reducible exact cin_15
    | with_reducible exact cin_16
    | with_reducible exact cin_17
    | with_reducible exact cin_18
    | with_reducible exact cin_19
    | with_reducible exact cin_20
    | with_reducible exact cin_21
    | with_reducible refine cin_22 ?_
    | with_reducible refine cin_23 ?_
    | with_reducible refine cin_24 (T := T) ?_ ?_
    | with_reducible refine cin_25 (T := T) ?_ ?_
    | with_reducible refine cin_26 (T := T) ?_ ?_
    | with_reducible refine cin_27 (T := T) ?_ ?_
    | with_reducible refine cin_28 (T := T) ?_ ?_
    | with_reducible refine cin_29 (T := T) ?_ ?_
    | with_reducible refine cin_30 (T := T) ?_ ?_
    | with_reducible refine cin_31 (T := T) ?_ ?_
    | with_reducible refine cin_32 (T := T) ?_ ?_
    | with_reducible refine cin_33 (T := T) ?_ ?_
    | with_reducible refine cin_34 (T := T) ?_ ?_
    | with_reducible refine cs_2 ?_
    | with_reducible exact vid_lt (by assumption) (by assumption)
    | with_reducible exact vp_c0
    | with_reducible exact vp_c1
    | with_reducible exact vp_c2
    | with_reducible exact vp_item (by assumption) (by assumption) (by assumption) (by assumption)
    | with_reducible exact has_vp (by assumption) (by assumption)
    | with_reducible exact dead_vp (by assumption) (by assumption)
    | with_reducible exact lw_vp (by assumption) (by assumption)
    | with_reducible refine vp_3 ?_ ?_
    | with_reducible refine vp_4 ?_ ?_
    | with_reducible refine vp_8 ?_ ?_
    | with_reducible refine vp_11 ?_ ?_
    | with_reducible refine vp_15 ?_ ?_
    | with_reducible refine vp_16 ?_ ?_
    | with_reducible refine vp_20 ?_ ?_
    | with_reducible refine vp_60 ?_ ?_
    | with_reducible refine vp_80 ?_ ?_
    | contradiction))

theorem sp_X2_itemOf {S : CST} {a1 : Int32} {a2 : Int32} {Post : Int32 → Prop} (h : ∀ r : Int32, Post r) : wp_X2_itemOf S a1 a2 Post := by
  unfold wp_X2_itemOf
  repeat (any_goals (first
    | with_reducible refine ⟨?_, ?_⟩
    | with_reducible rintro _ rfl
    | with_reducible intro _
    | exact h _
    | with_reducible refine sp_X2_lengthOf (fun _ _ => ?_)
    | with_reducible assumption
    | with_reducible exact cin_0
    | with_reducible exact cin_1
    | with_reducible exact cin_2
    | with_reducible exact cin_3
    | with_reducible exact cin_4
    | with_reducible exact cin_5
    | with_reducible exact cin_6
    | with_reducible exact cin_7
    | with_reducible exact cin_8
    | with_reducible exact cin_9
    | with_reducible exact cin_10
    | with_reducible exact cin_11
    | with_reducible exact cin_12
    | with_reducible exact cin_13
    | with_reducible exact cin_14
    | with_reducible exact cin_15
    | with_reducible exact cin_16
    | with_reducible exact cin_17
    | with_reducible exact cin_18
    | with_reducible exact cin_19
    | with_reducible exact cin_20
    | with_reducible exact cin_21
    | with_reducible refine cin_22 ?_
    | with_reducible refine cin_23 ?_
    | with_reducible refine cin_24 (T := T) ?_ ?_
    | with_reducible refine cin_25 (T := T) ?_ ?_
    | with_reducible refine cin_26 (T := T) ?_ ?_
    | with_reducible refine cin_27 (T := T) ?_ ?_
    | with_reducible refine cin_28 (T := T) ?_ ?_
    | with_reducible refine cin_29 (T := T) ?_ ?_
    | with_reducible refine cin_30 (T := T) ?_ ?_
    | with_reducible refine cin_31 (T := T) ?_ ?_
    | with_reducible refine cin_32 (T := T) ?_ ?_
    | with_reducible refine cin_33 (T := T) ?_ ?_
    | with_reducible refine cin_34 (T := T) ?_ ?_
    | with_reducible refine cs_2 ?_
    | with_reducible exact vid_lt (by assumption) (by assumption)
    | with_reducible exact vp_c0
    | with_reducible exact vp_c1
    | with_reducible exact vp_c2
    | with_reducible exact vp_item (by assumption) (by assumption) (by assumption) (by assumption)
    | with_reducible exact has_vp (by assumption) (by assumption)
    | with_reducible exact dead_vp (by assumption) (by assumption)
    | with_reducible exact lw_vp (by assumption) (by assumption)
    | with_reducible refine vp_3 ?_ ?_
    | with_reducible refine vp_4 ?_ ?_
    | with_reducible refine vp_8 ?_ ?_
    | with_reducible refine vp_11 ?_ ?_
    | with_reducible refine vp_15 ?_ ?_
    | with_reducible refine vp_16 ?_ ?_
    | with_reducible refine vp_20 ?_ ?_
    | with_reducible refine vp_60 ?_ ?_
    | with_reducible refine vp_80 ?_ ?_
    | contradiction))

theorem sp_X5_isHot {S : CST} {i : Nat} {T : Nat × Nat} {Post : Int32 → Prop} (hT : S.2 = T) (hi : i < T.1) (h : ∀ r : Int32, (¬ r = 0 → cv S 280 i 0 = 0) → Post r) : wp_X5_isHot S i Post := by
  unfold wp_X5_isHot
  repeat (any_goals (first
    | with_reducible refine ⟨?_, ?_⟩
    | with_reducible rintro _ rfl
    | with_reducible intro _
    | exact h _ (fun q => absurd rfl q)
    | exact h _ (fun _ => by assumption)
    | with_reducible assumption
    | with_reducible exact cin_0
    | with_reducible exact cin_1
    | with_reducible exact cin_2
    | with_reducible exact cin_3
    | with_reducible exact cin_4
    | with_reducible exact cin_5
    | with_reducible exact cin_6
    | with_reducible exact cin_7
    | with_reducible exact cin_8
    | with_reducible exact cin_9
    | with_reducible exact cin_10
    | with_reducible exact cin_11
    | with_reducible exact cin_12
    | with_reducible exact cin_13
    | with_reducible exact cin_14
    | with_reducible exact cin_15
    | with_reducible exact cin_16
    | with_reducible exact cin_17
    | with_reducible exact cin_18
    | with_reducible exact cin_19
    | with_reducible exact cin_20
    | with_reducible exact cin_21
    | with_reducible refine cin_22 ?_
    | with_reducible refine cin_23 ?_
    | with_reducible refine cin_24 (T := T) ?_ ?_
    | with_reducible refine cin_25 (T := T) ?_ ?_
    | with_reducible refine cin_26 (T := T) ?_ ?_
    | with_reducible refine cin_27 (T := T) ?_ ?_
    | with_reducible refine cin_28 (T := T) ?_ ?_
    | with_reducible refine cin_29 (T := T) ?_ ?_
    | with_reducible refine cin_30 (T := T) ?_ ?_
    | with_reducible refine cin_31 (T := T) ?_ ?_
    | with_reducible refine cin_32 (T := T) ?_ ?_
    | with_reducible refine cin_33 (T := T) ?_ ?_
    | with_reducible refine cin_34 (T := T) ?_ ?_
    | with_reducible refine cs_2 ?_
    | with_reducible exact vid_lt (by assumption) (by assumption)
    | with_reducible exact vp_c0
    | with_reducible exact vp_c1
    | with_reducible exact vp_c2
    | with_reducible exact vp_item (by assumption) (by assumption) (by assumption) (by assumption)
    | with_reducible exact has_vp (by assumption) (by assumption)
    | with_reducible exact dead_vp (by assumption) (by assumption)
    | with_reducible exact lw_vp (by assumption) (by assumption)
    | with_reducible refine vp_3 ?_ ?_
    | with_reducible refine vp_4 ?_ ?_
    | with_reducible refine vp_8 ?_ ?_
    | with_reducible refine vp_11 ?_ ?_
    | with_reducible refine vp_15 ?_ ?_
    | with_reducible refine vp_16 ?_ ?_
    | with_reducible refine vp_20 ?_ ?_
    | with_reducible refine vp_60 ?_ ?_
    | with_reducible refine vp_80 ?_ ?_
    | contradiction))

theorem sp_X5_wasAlways {S : CST} {i : Nat} {a1 : Int32} {T : Nat × Nat} {Post : Int32 → Prop} (hT : S.2 = T) (hi : i < T.1) (h : ∀ r : Int32, (¬ r = 0 → cv S 310 i a1.toNatClampNeg = 0) → Post r) : wp_X5_wasAlways S i a1 Post := by
  unfold wp_X5_wasAlways
  repeat (any_goals (first
    | with_reducible refine ⟨?_, ?_⟩
    | with_reducible rintro _ rfl
    | with_reducible intro _
    | exact h _ (fun q => absurd rfl q)
    | exact h _ (fun _ => by assumption)
    | with_reducible assumption
    | with_reducible exact cin_0
    | with_reducible exact cin_1
    | with_reducible exact cin_2
    | with_reducible exact cin_3
    | with_reducible exact cin_4
    | with_reducible exact cin_5
    | with_reducible exact cin_6
    | with_reducible exact cin_7
    | with_reducible exact cin_8
    | with_reducible exact cin_9
    | with_reducible exact cin_10
    | with_reducible exact cin_11
    | with_reducible exact cin_12
    | with_reducible exact cin_13
    | with_reducible exact cin_14
    | with_reducible exact cin_15
    | with_reducible exact cin_16
    | with_reducible exact cin_17
    | with_reducible exact cin_18
    | with_reducible exact cin_19
    | with_reducible exact cin_20
    | with_reducible exact cin_21
    | with_reducible refine cin_22 ?_
    | with_reducible refine cin_23 ?_
    | with_reducible refine cin_24 (T := T) ?_ ?_
    | with_reducible refine cin_25 (T := T) ?_ ?_
    | with_reducible refine cin_26 (T := T) ?_ ?_
    | with_reducible refine cin_27 (T := T) ?_ ?_
    | with_reducible refine cin_28 (T := T) ?_ ?_
    | with_reducible refine cin_29 (T := T) ?_ ?_
    | with_reducible refine cin_30 (T := T) ?_ ?_
    | with_reducible refine cin_31 (T := T) ?_ ?_
    | with_reducible refine cin_32 (T := T) ?_ ?_
    | with_reducible refine cin_33 (T := T) ?_ ?_
    | with_reducible refine cin_34 (T := T) ?_ ?_
    | with_reducible refine cs_2 ?_
    | with_reducible exact vid_lt (by assumption) (by assumption)
    | with_reducible exact vp_c0
    | with_reducible exact vp_c1
    | with_reducible exact vp_c2
    | with_reducible exact vp_item (by assumption) (by assumption) (by assumption) (by assumption)
    | with_reducible exact has_vp (by assumption) (by assumption)
    | with_reducible exact dead_vp (by assumption) (by assumption)
    | with_reducible exact lw_vp (by assumption) (by assumption)
    | with_reducible refine vp_3 ?_ ?_
    | with_reducible refine vp_4 ?_ ?_
    | with_reducible refine vp_8 ?_ ?_
    | with_reducible refine vp_11 ?_ ?_
    | with_reducible refine vp_15 ?_ ?_
    | with_reducible refine vp_16 ?_ ?_
    | with_reducible refine vp_20 ?_ ?_
    | with_reducible refine vp_60 ?_ ?_
    | with_reducible refine vp_80 ?_ ?_
    | contradiction))

theorem sp_X8_isRight {S : CST} {i : Nat} {T : Nat × Nat} {Post : Int32 → Prop} (hT : S.2 = T) (hi : i < T.1) (h : ∀ r : Int32, (r = 0 → cv S 248 i 0 = -1) → Post r) : wp_X8_isRight S i Post := by
  unfold wp_X8_isRight
  repeat (any_goals (first
    | with_reducible refine ⟨?_, ?_⟩
    | with_reducible rintro _ rfl
    | with_reducible intro _
    | exact h _ (fun _ => by assumption)
    | exact h _ (fun q => absurd q (by decide))
    | with_reducible assumption
    | with_reducible exact cin_0
    | with_reducible exact cin_1
    | with_reducible exact cin_2
    | with_reducible exact cin_3
    | with_reducible exact cin_4
    | with_reducible exact cin_5
    | with_reducible exact cin_6
    | with_reducible exact cin_7
    | with_reducible exact cin_8
    | with_reducible exact cin_9
    | with_reducible exact cin_10
    | with_reducible exact cin_11
    | with_reducible exact cin_12
    | with_reducible exact cin_13
    | with_reducible exact cin_14
    | with_reducible exact cin_15
    | with_reducible exact cin_16
    | with_reducible exact cin_17
    | with_reducible exact cin_18
    | with_reducible exact cin_19
    | with_reducible exact cin_20
    | with_reducible exact cin_21
    | with_reducible refine cin_22 ?_
    | with_reducible refine cin_23 ?_
    | with_reducible refine cin_24 (T := T) ?_ ?_
    | with_reducible refine cin_25 (T := T) ?_ ?_
    | with_reducible refine cin_26 (T := T) ?_ ?_
    | with_reducible refine cin_27 (T := T) ?_ ?_
    | with_reducible refine cin_28 (T := T) ?_ ?_
    | with_reducible refine cin_29 (T := T) ?_ ?_
    | with_reducible refine cin_30 (T := T) ?_ ?_
    | with_reducible refine cin_31 (T := T) ?_ ?_
    | with_reducible refine cin_32 (T := T) ?_ ?_
    | with_reducible refine cin_33 (T := T) ?_ ?_
    | with_reducible refine cin_34 (T := T) ?_ ?_
    | with_reducible refine cs_2 ?_
    | with_reducible exact vid_lt (by assumption) (by assumption)
    | with_reducible exact vp_c0
    | with_reducible exact vp_c1
    | with_reducible exact vp_c2
    | with_reducible exact vp_item (by assumption) (by assumption) (by assumption) (by assumption)
    | with_reducible exact has_vp (by assumption) (by assumption)
    | with_reducible exact dead_vp (by assumption) (by assumption)
    | with_reducible exact lw_vp (by assumption) (by assumption)
    | with_reducible refine vp_3 ?_ ?_
    | with_reducible refine vp_4 ?_ ?_
    | with_reducible refine vp_8 ?_ ?_
    | with_reducible refine vp_11 ?_ ?_
    | with_reducible refine vp_15 ?_ ?_
    | with_reducible refine vp_16 ?_ ?_
    | with_reducible refine vp_20 ?_ ?_
    | with_reducible refine vp_60 ?_ ?_
    | with_reducible refine vp_80 ?_ ?_
    | contradiction))

theorem sp_X8_opAt {S : CST} {i : Nat} {a1 : Int32} {T : Nat × Nat} {Post : Int32 → Prop} (hT : S.2 = T) (hi : i < T.1) (h : ∀ r : Int32, Post r) : wp_X8_opAt S i a1 Post := by
  unfold wp_X8_opAt
  repeat (any_goals (first
    | with_reducible refine ⟨?_, ?_⟩
    | with_reducible rintro _ rfl
    | with_reducible intro _
    | exact h _
    | with_reducible refine sp_X8_has (by assumption) (by assumption) (fun _ _ => ?_)
    | with_reducible assumption
    | with_reducible exact cin_0
    | with_reducible exact cin_1
    | with_reducible exact cin_2
    | with_reducible exact cin_3
    | with_reducible exact cin_4
    | with_reducible exact cin_5
    | with_reducible exact cin_6
    | with_reducible exact cin_7
    | with_reducible exact cin_8
    | with_reducible exact cin_9
    | with_reducible exact cin_10
    | with_reducible exact cin_11
    | with_reducible exact cin_12
    | with_reducible exact cin_13
    | with_reducible exact cin_14
    | with_reducible exact cin_15
    | with_reducible exact cin_16
    | with_reducible exact cin_17
    | with_reducible exact cin_18
    | with_reducible exact cin_19
    | with_reducible exact cin_20
    | with_reducible exact cin_21
    | with_reducible refine cin_22 ?_
    | with_reducible refine cin_23 ?_
    | with_reducible refine cin_24 (T := T) ?_ ?_
    | with_reducible refine cin_25 (T := T) ?_ ?_
    | with_reducible refine cin_26 (T := T) ?_ ?_
    | with_reducible refine cin_27 (T := T) ?_ ?_
    | with_reducible refine cin_28 (T := T) ?_ ?_
    | with_reducible refine cin_29 (T := T) ?_ ?_
    | with_reducible refine cin_30 (T := T) ?_ ?_
    | with_reducible refine cin_31 (T := T) ?_ ?_
    | with_reducible refine cin_32 (T := T) ?_ ?_
    | with_reducible refine cin_33 (T := T) ?_ ?_
    | with_reducible refine cin_34 (T := T) ?_ ?_
    | with_reducible refine cs_2 ?_
    | with_reducible exact vid_lt (by assumption) (by assumption)
    | with_reducible exact vp_c0
    | with_reducible exact vp_c1
    | with_reducible exact vp_c2
    | with_reducible exact vp_item (by assumption) (by assumption) (by assumption) (by assumption)
    | with_reducible exact has_vp (by assumption) (by assumption)
    | with_reducible exact dead_vp (by assumption) (by assumption)
    | with_reducible exact lw_vp (by assumption) (by assumption)
    | with_reducible refine vp_3 ?_ ?_
    | with_reducible refine vp_4 ?_ ?_
    | with_reducible refine vp_8 ?_ ?_
    | with_reducible refine vp_11 ?_ ?_
    | with_reducible refine vp_15 ?_ ?_
    | with_reducible refine vp_16 ?_ ?_
    | with_reducible refine vp_20 ?_ ?_
    | with_reducible refine vp_60 ?_ ?_
    | with_reducible refine vp_80 ?_ ?_
    | contradiction))

theorem sp_X8_xAt {S : CST} {i : Nat} {a1 : Int32} {T : Nat × Nat} {Post : Int32 → Prop} (hT : S.2 = T) (hi : i < T.1) (h : ∀ r : Int32, Post r) : wp_X8_xAt S i a1 Post := by
  unfold wp_X8_xAt
  repeat (any_goals (first
    | with_reducible refine ⟨?_, ?_⟩
    | with_reducible rintro _ rfl
    | with_reducible intro _
    | exact h _
    | with_reducible refine sp_X8_has (by assumption) (by assumption) (fun _ _ => ?_)
    | with_reducible assumption
    | with_reducible exact cin_0
    | with_reducible exact cin_1
    | with_reducible exact cin_2
    | with_reducible exact cin_3
    | with_reducible exact cin_4
    | with_reducible exact cin_5
    | with_reducible exact cin_6
    | with_reducible exact cin_7
    | with_reducible exact cin_8
    | with_reducible exact cin_9
    | with_reducible exact cin_10
    | with_reducible exact cin_11
    | with_reducible exact cin_12
    | with_reducible exact cin_13
    | with_reducible exact cin_14
    | with_reducible exact cin_15
    | with_reducible exact cin_16
    | with_reducible exact cin_17
    | with_reducible exact cin_18
    | with_reducible exact cin_19
    | with_reducible exact cin_20
    | with_reducible exact cin_21
    | with_reducible refine cin_22 ?_
    | with_reducible refine cin_23 ?_
    | with_reducible refine cin_24 (T := T) ?_ ?_
    | with_reducible refine cin_25 (T := T) ?_ ?_
    | with_reducible refine cin_26 (T := T) ?_ ?_
    | with_reducible refine cin_27 (T := T) ?_ ?_
    | with_reducible refine cin_28 (T := T) ?_ ?_
    | with_reducible refine cin_29 (T := T) ?_ ?_
    | with_reducible refine cin_30 (T := T) ?_ ?_
    | with_reducible refine cin_31 (T := T) ?_ ?_
    | with_reducible refine cin_32 (T := T) ?_ ?_
    | with_reducible refine cin_33 (T := T) ?_ ?_
    | with_reducible refine cin_34 (T := T) ?_ ?_
    | with_reducible refine cs_2 ?_
    | with_reducible exact vid_lt (by assumption) (by assumption)
    | with_reducible exact vp_c0
    | with_reducible exact vp_c1
    | with_reducible exact vp_c2
    | with_reducible exact vp_item (by assumption) (by assumption) (by assumption) (by assumption)
    | with_reducible exact has_vp (by assumption) (by assumption)
    | with_reducible exact dead_vp (by assumption) (by assumption)
    | with_reducible exact lw_vp (by assumption) (by assumption)
    | with_reducible refine vp_3 ?_ ?_
    | with_reducible refine vp_4 ?_ ?_
    | with_reducible refine vp_8 ?_ ?_
    | with_reducible refine vp_11 ?_ ?_
    | with_reducible refine vp_15 ?_ ?_
    | with_reducible refine vp_16 ?_ ?_
    | with_reducible refine vp_20 ?_ ?_
    | with_reducible refine vp_60 ?_ ?_
    | with_reducible refine vp_80 ?_ ?_
    | contradiction))

theorem sp_X8_depthAt {S : CST} {i : Nat} {a1 : Int32} {T : Nat × Nat} {Post : Int32 → Prop} (hT : S.2 = T) (hi : i < T.1) (h : ∀ r : Int32, Post r) : wp_X8_depthAt S i a1 Post := by
  unfold wp_X8_depthAt
  repeat (any_goals (first
    | with_reducible refine ⟨?_, ?_⟩
    | with_reducible rintro _ rfl
    | with_reducible intro _
    | exact h _
    | with_reducible refine sp_X8_has (by assumption) (by assumption) (fun _ _ => ?_)
    | with_reducible assumption
    | with_reducible exact cin_0
    | with_reducible exact cin_1
    | with_reducible exact cin_2
    | with_reducible exact cin_3
    | with_reducible exact cin_4
    | with_reducible exact cin_5
    | with_reducible exact cin_6
    | with_reducible exact cin_7
    | with_reducible exact cin_8
    | with_reducible exact cin_9
    | with_reducible exact cin_10
    | with_reducible exact cin_11
    | with_reducible exact cin_12
    | with_reducible exact cin_13
    | with_reducible exact cin_14
    | with_reducible exact cin_15
    | with_reducible exact cin_16
    | with_reducible exact cin_17
    | with_reducible exact cin_18
    | with_reducible exact cin_19
    | with_reducible exact cin_20
    | with_reducible exact cin_21
    | with_reducible refine cin_22 ?_
    | with_reducible refine cin_23 ?_
    | with_reducible refine cin_24 (T := T) ?_ ?_
    | with_reducible refine cin_25 (T := T) ?_ ?_
    | with_reducible refine cin_26 (T := T) ?_ ?_
    | with_reducible refine cin_27 (T := T) ?_ ?_
    | with_reducible refine cin_28 (T := T) ?_ ?_
    | with_reducible refine cin_29 (T := T) ?_ ?_
    | with_reducible refine cin_30 (T := T) ?_ ?_
    | with_reducible refine cin_31 (T := T) ?_ ?_
    | with_reducible refine cin_32 (T := T) ?_ ?_
    | with_reducible refine cin_33 (T := T) ?_ ?_
    | with_reducible refine cin_34 (T := T) ?_ ?_
    | with_reducible refine cs_2 ?_
    | with_reducible exact vid_lt (by assumption) (by assumption)
    | with_reducible exact vp_c0
    | with_reducible exact vp_c1
    | with_reducible exact vp_c2
    | with_reducible exact vp_item (by assumption) (by assumption) (by assumption) (by assumption)
    | with_reducible exact has_vp (by assumption) (by assumption)
    | with_reducible exact dead_vp (by assumption) (by assumption)
    | with_reducible exact lw_vp (by assumption) (by assumption)
    | with_reducible refine vp_3 ?_ ?_
    | with_reducible refine vp_4 ?_ ?_
    | with_reducible refine vp_8 ?_ ?_
    | with_reducible refine vp_11 ?_ ?_
    | with_reducible refine vp_15 ?_ ?_
    | with_reducible refine vp_16 ?_ ?_
    | with_reducible refine vp_20 ?_ ?_
    | with_reducible refine vp_60 ?_ ?_
    | with_reducible refine vp_80 ?_ ?_
    | contradiction))

theorem sp_X8_isDead {S : CST} {i : Nat} {a1 : Int32} {T : Nat × Nat} {Post : Int32 → Prop} (hT : S.2 = T) (hi : i < T.1) (h : ∀ r : Int32, (r = 0 → ¬ a1 < 0 ∧ ¬ 60 ≤ a1) → Post r) : wp_X8_isDead S i a1 Post := by
  unfold wp_X8_isDead
  repeat (any_goals (first
    | with_reducible refine ⟨?_, ?_⟩
    | with_reducible rintro _ rfl
    | with_reducible intro _
    | exact h _ (fun q => absurd q (by decide))
    | exact h _ (fun _ => has_l (by assumption) (by assumption))
    | with_reducible refine sp_X8_has (by assumption) (by assumption) (fun _ _ => ?_)
    | with_reducible assumption
    | with_reducible exact cin_0
    | with_reducible exact cin_1
    | with_reducible exact cin_2
    | with_reducible exact cin_3
    | with_reducible exact cin_4
    | with_reducible exact cin_5
    | with_reducible exact cin_6
    | with_reducible exact cin_7
    | with_reducible exact cin_8
    | with_reducible exact cin_9
    | with_reducible exact cin_10
    | with_reducible exact cin_11
    | with_reducible exact cin_12
    | with_reducible exact cin_13
    | with_reducible exact cin_14
    | with_reducible exact cin_15
    | with_reducible exact cin_16
    | with_reducible exact cin_17
    | with_reducible exact cin_18
    | with_reducible exact cin_19
    | with_reducible exact cin_20
    | with_reducible exact cin_21
    | with_reducible refine cin_22 ?_
    | with_reducible refine cin_23 ?_
    | with_reducible refine cin_24 (T := T) ?_ ?_
    | with_reducible refine cin_25 (T := T) ?_ ?_
    | with_reducible refine cin_26 (T := T) ?_ ?_
    | with_reducible refine cin_27 (T := T) ?_ ?_
    | with_reducible refine cin_28 (T := T) ?_ ?_
    | with_reducible refine cin_29 (T := T) ?_ ?_
    | with_reducible refine cin_30 (T := T) ?_ ?_
    | with_reducible refine cin_31 (T := T) ?_ ?_
    | with_reducible refine cin_32 (T := T) ?_ ?_
    | with_reducible refine cin_33 (T := T) ?_ ?_
    | with_reducible refine cin_34 (T := T) ?_ ?_
    | with_reducible refine cs_2 ?_
    | with_reducible exact vid_lt (by assumption) (by assumption)
    | with_reducible exact vp_c0
    | with_reducible exact vp_c1
    | with_reducible exact vp_c2
    | with_reducible exact vp_item (by assumption) (by assumption) (by assumption) (by assumption)
    | with_reducible exact has_vp (by assumption) (by assumption)
    | with_reducible exact dead_vp (by assumption) (by assumption)
    | with_reducible exact lw_vp (by assumption) (by assumption)
    | with_reducible refine vp_3 ?_ ?_
    | with_reducible refine vp_4 ?_ ?_
    | with_reducible refine vp_8 ?_ ?_
    | with_reducible refine vp_11 ?_ ?_
    | with_reducible refine vp_15 ?_ ?_
    | with_reducible refine vp_16 ?_ ?_
    | with_reducible refine vp_20 ?_ ?_
    | with_reducible refine vp_60 ?_ ?_
    | with_reducible refine vp_80 ?_ ?_
    | contradiction))

theorem sp_X8_goesOnAt {S : CST} {i : Nat} {a1 : Int32} {T : Nat × Nat} {Post : Int32 → Prop} (hT : S.2 = T) (hi : i < T.1) (h : ∀ r : Int32, Post r) : wp_X8_goesOnAt S i a1 Post := by
  unfold wp_X8_goesOnAt
  repeat (any_goals (first
    | with_reducible refine ⟨?_, ?_⟩
    | with_reducible rintro _ rfl
    | with_reducible intro _
    | exact h _
    | with_reducible refine sp_X8_opAt (by assumption) (by assumption) (fun _ => ?_)
    | with_reducible refine sp_X8_isDead (by assumption) (by assumption) (fun _ _ => ?_)
    | with_reducible assumption
    | with_reducible exact cin_0
    | with_reducible exact cin_1
    | with_reducible exact cin_2
    | with_reducible exact cin_3
    | with_reducible exact cin_4
    | with_reducible exact cin_5
    | with_reducible exact cin_6
    | with_reducible exact cin_7
    | with_reducible exact cin_8
    | with_reducible exact cin_9
    | with_reducible exact cin_10
    | with_reducible exact cin_11
    | with_reducible exact cin_12
    | with_reducible exact cin_13
    | with_reducible exact cin_14
    | with_reducible exact cin_15
    | with_reducible exact cin_16
    | with_reducible exact cin_17
    | with_reducible exact cin_18
    | with_reducible exact cin_19
    | with_reducible exact cin_20
    | with_reducible exact cin_21
    | with_reducible refine cin_22 ?_
    | with_reducible refine cin_23 ?_
    | with_reducible refine cin_24 (T := T) ?_ ?_
    | with_reducible refine cin_25 (T := T) ?_ ?_
    | with_reducible refine cin_26 (T := T) ?_ ?_
    | with_reducible refine cin_27 (T := T) ?_ ?_
    | with_reducible refine cin_28 (T := T) ?_ ?_
    | with_reducible refine cin_29 (T := T) ?_ ?_
    | with_reducible refine cin_30 (T := T) ?_ ?_
    | with_reducible refine cin_31 (T := T) ?_ ?_
    | with_reducible refine cin_32 (T := T) ?_ ?_
    | with_reducible refine cin_33 (T := T) ?_ ?_
    | with_reducible refine cin_34 (T := T) ?_ ?_
    | with_reducible refine cs_2 ?_
    | with_reducible exact vid_lt (by assumption) (by assumption)
    | with_reducible exact vp_c0
    | with_reducible exact vp_c1
    | with_reducible exact vp_c2
    | with_reducible exact vp_item (by assumption) (by assumption) (by assumption) (by assumption)
    | with_reducible exact has_vp (by assumption) (by assumption)
    | with_reducible exact dead_vp (by assumption) (by assumption)
    | with_reducible exact lw_vp (by assumption) (by assumption)
    | with_reducible refine vp_3 ?_ ?_
    | with_reducible refine vp_4 ?_ ?_
    | with_reducible refine vp_8 ?_ ?_
    | with_reducible refine vp_11 ?_ ?_
    | with_reducible refine vp_15 ?_ ?_
    | with_reducible refine vp_16 ?_ ?_
    | with_reducible refine vp_20 ?_ ?_
    | with_reducible refine vp_60 ?_ ?_
    | with_reducible refine vp_80 ?_ ?_
    | contradiction))

theorem sp_X11_reckoned {a0 a1 a2 : Int32} {Post : Int32 → Prop} (h : ∀ r : Int32, Post r) : wp_X11_reckoned a0 a1 a2 Post := by
  unfold wp_X11_reckoned
  repeat (any_goals (first
    | with_reducible refine ⟨?_, ?_⟩
    | with_reducible rintro _ rfl
    | with_reducible intro _
    | exact h _
    | with_reducible assumption
    | with_reducible exact cin_0
    | with_reducible exact cin_1
    | with_reducible exact cin_2
    | with_reducible exact cin_3
    | with_reducible exact cin_4
    | with_reducible exact cin_5
    | with_reducible exact cin_6
    | with_reducible exact cin_7
    | with_reducible exact cin_8
    | with_reducible exact cin_9
    | with_reducible exact cin_10
    | with_reducible exact cin_11
    | with_reducible exact cin_12
    | with_reducible exact cin_13
    | with_reducible exact cin_14
    | with_reducible exact cin_15
    | with_reducible exact cin_16
    | with_reducible exact cin_17
    | with_reducible exact cin_18
    | with_reducible exact cin_19
    | with_reducible exact cin_20
    | with_reducible exact cin_21
    | with_reducible refine cin_22 ?_
    | with_reducible refine cin_23 ?_
    | with_reducible refine cin_24 (T := T) ?_ ?_
    | with_reducible refine cin_25 (T := T) ?_ ?_
    | with_reducible refine cin_26 (T := T) ?_ ?_
    | with_reducible refine cin_27 (T := T) ?_ ?_
    | with_reducible refine cin_28 (T := T) ?_ ?_
    | with_reducible refine cin_29 (T := T) ?_ ?_
    | with_reducible refine cin_30 (T := T) ?_ ?_
    | with_reducible refine cin_31 (T := T) ?_ ?_
    | with_reducible refine cin_32 (T := T) ?_ ?_
    | with_reducible refine cin_33 (T := T) ?_ ?_
    | with_reducible refine cin_34 (T := T) ?_ ?_
    | with_reducible refine cs_2 ?_
    | with_reducible exact vid_lt (by assumption) (by assumption)
    | with_reducible exact vp_c0
    | with_reducible exact vp_c1
    | with_reducible exact vp_c2
    | with_reducible exact vp_item (by assumption) (by assumption) (by assumption) (by assumption)
    | with_reducible exact has_vp (by assumption) (by assumption)
    | with_reducible exact dead_vp (by assumption) (by assumption)
    | with_reducible exact lw_vp (by assumption) (by assumption)
    | with_reducible refine vp_3 ?_ ?_
    | with_reducible refine vp_4 ?_ ?_
    | with_reducible refine vp_8 ?_ ?_
    | with_reducible refine vp_11 ?_ ?_
    | with_reducible refine vp_15 ?_ ?_
    | with_reducible refine vp_16 ?_ ?_
    | with_reducible refine vp_20 ?_ ?_
    | with_reducible refine vp_60 ?_ ?_
    | with_reducible refine vp_80 ?_ ?_
    | contradiction))

theorem sp_X0_at {S : CST} {a1 : Int32} {T : Nat × Nat} {Post : Int32 → Prop} (hT : S.2 = T) (hv : ∀ j : Nat, vid (cv S 20 0 j) T.1) (h : ∀ r : Int32, vid r T.1 → Post r) : wp_X0_at S a1 Post := by
  unfold wp_X0_at
  repeat (any_goals (first
    | with_reducible refine ⟨?_, ?_⟩
    | with_reducible rintro _ rfl
    | with_reducible intro _
    | exact h _ (Or.inl (by decide))
    | exact h _ (hv _)
    | with_reducible assumption
    | with_reducible exact cin_0
    | with_reducible exact cin_1
    | with_reducible exact cin_2
    | with_reducible exact cin_3
    | with_reducible exact cin_4
    | with_reducible exact cin_5
    | with_reducible exact cin_6
    | with_reducible exact cin_7
    | with_reducible exact cin_8
    | with_reducible exact cin_9
    | with_reducible exact cin_10
    | with_reducible exact cin_11
    | with_reducible exact cin_12
    | with_reducible exact cin_13
    | with_reducible exact cin_14
    | with_reducible exact cin_15
    | with_reducible exact cin_16
    | with_reducible exact cin_17
    | with_reducible exact cin_18
    | with_reducible exact cin_19
    | with_reducible exact cin_20
    | with_reducible exact cin_21
    | with_reducible refine cin_22 ?_
    | with_reducible refine cin_23 ?_
    | with_reducible refine cin_24 (T := T) ?_ ?_
    | with_reducible refine cin_25 (T := T) ?_ ?_
    | with_reducible refine cin_26 (T := T) ?_ ?_
    | with_reducible refine cin_27 (T := T) ?_ ?_
    | with_reducible refine cin_28 (T := T) ?_ ?_
    | with_reducible refine cin_29 (T := T) ?_ ?_
    | with_reducible refine cin_30 (T := T) ?_ ?_
    | with_reducible refine cin_31 (T := T) ?_ ?_
    | with_reducible refine cin_32 (T := T) ?_ ?_
    | with_reducible refine cin_33 (T := T) ?_ ?_
    | with_reducible refine cin_34 (T := T) ?_ ?_
    | with_reducible refine cs_2 ?_
    | with_reducible exact vid_lt (by assumption) (by assumption)
    | with_reducible exact vp_c0
    | with_reducible exact vp_c1
    | with_reducible exact vp_c2
    | with_reducible exact vp_item (by assumption) (by assumption) (by assumption) (by assumption)
    | with_reducible exact has_vp (by assumption) (by assumption)
    | with_reducible exact dead_vp (by assumption) (by assumption)
    | with_reducible exact lw_vp (by assumption) (by assumption)
    | with_reducible refine vp_3 ?_ ?_
    | with_reducible refine vp_4 ?_ ?_
    | with_reducible refine vp_8 ?_ ?_
    | with_reducible refine vp_11 ?_ ?_
    | with_reducible refine vp_15 ?_ ?_
    | with_reducible refine vp_16 ?_ ?_
    | with_reducible refine vp_20 ?_ ?_
    | with_reducible refine vp_60 ?_ ?_
    | with_reducible refine vp_80 ?_ ?_
    | contradiction))

theorem sp_X7_latestFrame {S : CST} {Post : Int32 → Prop} (h : ∀ r : Int32, vid r 16 → Post r) : wp_X7_latestFrame S Post := by
  unfold wp_X7_latestFrame
  refine ⟨fun _ => h _ (Or.inl (by decide)), fun c1 => ⟨fun _ => h _ (Or.inl (by decide)), fun c2 => ?_⟩⟩
  have hx : ∃ j : Nat, cv S 126 0 0 = nI (j + 1) ∧ j < 16 := by
    rw [Int32.le_iff_toInt_le] at c1
    rw [Int32.lt_iff_toInt_lt] at c2
    have e0 : (0 : Int32).toInt = 0 := by decide
    have e16 : (16 : Int32).toInt = 16 := by decide
    obtain ⟨j, hj, hj2⟩ := nI_ofc (x := cv S 126 0 0) (by rw [Int32.lt_iff_toInt_lt]; omega)
    have hji : (nI j).toInt = j := by
      have h1 : (nI j).toNatClampNeg = j := nI_clamp (by omega)
      have h2 : (nI j).toNatClampNeg = (nI j).toInt.toNat := rfl
      have h3 := nI_pos' (n := j) (by omega)
      rw [Int32.le_iff_toInt_le] at h3
      omega
    rw [hj, hji] at c1 c2
    exact ⟨j - 1, by rw [hj, show j - 1 + 1 = j by omega], by omega⟩
  obtain ⟨j, hj, hj2⟩ := hx
  rw [hj, nI_m1 (by omega)]
  exact ⟨vp_in_nI (by omega) (by omega), h _ (Or.inr (by rw [nI_clamp (by omega)]; omega))⟩
/-- a code's rows have their lengths -/
def CodeL (S : CST) (c : Nat) : Prop := ∃ m m2 : Nat, cv S 339 c 0 = nI m ∧ m ≤ 7555 ∧ cv S 349 c 0 = nI m2 ∧ m2 ≤ 60
theorem nI_d5 {m : Nat} (hm : m < 2 ^ 31) : (nI m : Int32) / 5 = nI (m / 5) := by
  exact (Int32.ofNat_div hm (show 5 < 2 ^ 31 by decide)).symm
theorem sp_X1_parts {S : CST} {i : Nat} {T : Nat × Nat} {m : Nat} {Post : Int32 → Prop} (hT : S.2 = T) (hi : i < T.2) (hm : cv S 339 i 0 = nI m) (hm2 : m ≤ 7555) (h : Post (nI (m / 5))) : wp_X1_parts S i Post := by
  unfold wp_X1_parts
  rw [hm, nI_d5 (by omega)]
  exact ⟨cinC hT hi (by decide) (by decide), cinC hT hi (by decide) (by decide), nI_nn m (by omega), h⟩
theorem sp_X1_cell {S : CST} {i : Nat} {a1 a2 : Int32} {T : Nat × Nat} {Post : Int32 → Prop} (hT : S.2 = T) (hi : i < T.2) (hl : CodeL S i) (h : ∀ r : Int32, Post r) : wp_X1_cell S i a1 a2 Post := by
  obtain ⟨m, m2, hm, hm2, -, -⟩ := hl
  unfold wp_X1_cell
  refine ⟨fun _ => h _, fun c1 => ⟨cinC hT hi (by decide) (by decide), sp_X1_parts hT hi hm hm2 ⟨fun _ => h _, fun c2 => ⟨fun _ => h _, fun c3 => ⟨fun _ => h _, fun c4 => ⟨cinC hT hi (by decide) (by decide), cinC hT hi (by decide) (by decide), ?_, h _⟩⟩⟩⟩⟩⟩
  obtain ⟨j1, rfl, h1⟩ := nI_ofc c1
  obtain ⟨j2, rfl, h2⟩ := nI_ofc c3
  have b1 : j1 < m / 5 := Nat.not_le.mp (fun q => c2 (nI_le q (by omega)))
  have b2 : j2 < 5 := Nat.not_le.mp (fun q => c4 (nI_le (a := 5) q (by omega)))
  rw [nI5, nI_add, hm, nI_clamp (by omega)]
  exact vp_in_nI (by omega) (by omega)
theorem sp_X1_startOf {S : CST} {i : Nat} {a1 : Int32} {T : Nat × Nat} {Post : Int32 → Prop} (hT : S.2 = T) (hi : i < T.2) (hl : CodeL S i) (h : ∀ r : Int32, Post r) : wp_X1_startOf S i a1 Post := by
  obtain ⟨m, m2, hm, hm2, hn, hn2⟩ := hl
  have c32 := cinC (k := 32) hT hi (by decide) (by decide)
  unfold wp_X1_startOf
  refine ⟨fun _ => ⟨c32, sp_X1_parts hT hi hm hm2 (h _)⟩, fun c1 => ⟨c32, cinC hT hi (by decide) (by decide), by rw [hn]; exact nI_nn m2 (by omega), fun _ => ⟨c32, sp_X1_parts hT hi hm hm2 (h _)⟩, fun c2 => ⟨c32, cinC hT hi (by decide) (by decide), ?_, h _⟩⟩⟩
  obtain ⟨j1, rfl, h1⟩ := nI_ofc c1
  rw [hn] at c2 ⊢
  rw [nI_clamp (by omega)]
  exact vp_in_nI (Nat.not_le.mp (fun q => c2 (nI_le q (by omega)))) (by omega)
theorem lp_X1_mixedInto_2 {S : CST} {K : Int64 → Prop} {Post : Int64 → Prop} {T : Nat × Nat} {i : Nat} (hT : S.2 = T) (hi : i < T.2) (hl : CodeL S i) (hK : ∀ x : Int64, K x) : ∀ (n j : Nat) (x : Int64), j + n = 2147483647 → wl_X1_mixedInto_2 S K Post (n + 1) i x (nI j) := by
  obtain ⟨m, m2, hm, hm2, -, -⟩ := hl
  have c32 := cinC (k := 32) hT hi (by decide) (by decide)
  have c33 := cinC (k := 33) hT hi (by decide) (by decide)
  intro n
  induction n with
  | zero =>
    intro j x hj
    unfold wl_X1_mixedInto_2
    obtain rfl : j = 2147483647 := by omega
    exact ⟨c32, c33, by rw [hm]; exact nI_nn m (by omega), fun _ => hK _, fun c => absurd (z_max _) c⟩
  | succ n ih =>
    intro j x hj
    unfold wl_X1_mixedInto_2
    refine ⟨c32, c33, by rw [hm]; exact nI_nn m (by omega), fun _ => hK _, fun c => ⟨c32, c33, ?_, by rw [nI_1]; exact ih (j + 1) _ (by omega)⟩⟩
    rw [hm] at c ⊢
    rw [nI_clamp (by omega)]
    exact vp_in_nI (Nat.not_le.mp (fun q => c (nI_le q (by omega)))) (by omega)
theorem sp_X1_mixedInto {S : CST} {i : Nat} {a1 : Int64} {T : Nat × Nat} {Post : Int64 → Prop} (hT : S.2 = T) (hi : i < T.2) (hl : CodeL S i) (h : ∀ r : Int64, Post r) : wp_X1_mixedInto S i a1 Post := ⟨2147483647 + 1, lp_X1_mixedInto_2 hT hi hl h 2147483647 0 a1 rfl⟩

theorem lp_J7_fill_53178_k9_5 {S : CST} {K : CST → Prop} {Post : CST → Prop} {T : Nat × Nat} (hK : ∀ S' : CST, S'.2 = T → Ex [90] S S' → K S')  : ∀ (n j : Nat) (S' : CST) (x : Int32), j + n = 2147483647 → S'.2 = T → Ex [90] S S' → wl_J7_fill_53178_k9_5 K Post (n + 1) S' x (nI j) 60 := by
  intro n
  induction n with
  | zero =>
    intro j S' x hj s0 s1
    have hneg : ¬ nI j < 0 := nI_nn j (by omega)
    have hz : ∀ r : Int32, r ≤ nI j := by
      obtain rfl : j = 2147483647 := by omega
      exact z_max
    unfold wl_J7_fill_53178_k9_5
    repeat (any_goals (first
      | with_reducible refine ⟨?_, ?_⟩
      | with_reducible rintro _ rfl
      | with_reducible intro _
      | exact absurd (hz _) (by assumption)
      | (refine hK _ (by assumption) (by (repeat (first | with_reducible exact Ex.rf | with_reducible assumption | with_reducible refine Ex.cs (by decide) ?_ | with_reducible refine Ex.step (by assumption) (by decide) ?_)); done))
      | exact Ex.cs (by decide) (by assumption)
      | with_reducible assumption
      | with_reducible exact cin_0
      | with_reducible exact cin_1
      | with_reducible exact cin_2
      | with_reducible exact cin_3
      | with_reducible exact cin_4
      | with_reducible exact cin_5
      | with_reducible exact cin_6
      | with_reducible exact cin_7
      | with_reducible exact cin_8
      | with_reducible exact cin_9
      | with_reducible exact cin_10
      | with_reducible exact cin_11
      | with_reducible exact cin_12
      | with_reducible exact cin_13
      | with_reducible exact cin_14
      | with_reducible exact cin_15
      | with_reducible exact cin_16
      | with_reducible exact cin_17
      | with_reducible exact cin_18
      | with_reducible exact cin_19
      | with_reducible exact cin_20
      | with_reducible exact cin_21
      | with_reducible refine cin_22 ?_
      | with_reducible refine cin_23 ?_
      | with_reducible refine cin_24 (T := T) ?_ ?_
      | with_reducible refine cin_25 (T := T) ?_ ?_
      | with_reducible refine cin_26 (T := T) ?_ ?_
      | with_reducible refine cin_27 (T := T) ?_ ?_
      | with_reducible refine cin_28 (T := T) ?_ ?_
      | with_reducible refine cin_29 (T := T) ?_ ?_
      | with_reducible refine cin_30 (T := T) ?_ ?_
      | with_reducible refine cin_31 (T := T) ?_ ?_
      | with_reducible refine cin_32 (T := T) ?_ ?_
      | with_reducible refine cin_33 (T := T) ?_ ?_
      | with_reducible refine cin_34 (T := T) ?_ ?_
      | with_reducible refine cs_2 ?_
      | with_reducible exact vid_lt (by assumption) (by assumption)
      | with_reducible exact vp_c0
      | with_reducible exact vp_c1
      | with_reducible exact vp_c2
      | with_reducible exact vp_item (by assumption) (by assumption) (by assumption) (by assumption)
      | with_reducible exact has_vp (by assumption) (by assumption)
      | with_reducible exact dead_vp (by assumption) (by assumption)
      | with_reducible exact lw_vp (by assumption) (by assumption)
      | with_reducible refine vp_3 ?_ ?_
      | with_reducible refine vp_4 ?_ ?_
      | with_reducible refine vp_8 ?_ ?_
      | with_reducible refine vp_11 ?_ ?_
      | with_reducible refine vp_15 ?_ ?_
      | with_reducible refine vp_16 ?_ ?_
      | with_reducible refine vp_20 ?_ ?_
      | with_reducible refine vp_60 ?_ ?_
      | with_reducible refine vp_80 ?_ ?_
      | contradiction))
  | succ n ih =>
    intro j S' x hj s0 s1
    have hneg : ¬ nI j < 0 := nI_nn j (by omega)
    unfold wl_J7_fill_53178_k9_5
    repeat (any_goals (first
      | with_reducible refine ⟨?_, ?_⟩
      | with_reducible rintro _ rfl
      | with_reducible intro _
      | (rw [nI_1]; refine ih (j + 1) _ _ (by omega) ?_ ?_)
      | (refine hK _ (by assumption) (by (repeat (first | with_reducible exact Ex.rf | with_reducible assumption | with_reducible refine Ex.cs (by decide) ?_ | with_reducible refine Ex.step (by assumption) (by decide) ?_)); done))
      | exact Ex.cs (by decide) (by assumption)
      | with_reducible assumption
      | with_reducible exact cin_0
      | with_reducible exact cin_1
      | with_reducible exact cin_2
      | with_reducible exact cin_3
      | with_reducible exact cin_4
      | with_reducible exact cin_5
      | with_reducible exact cin_6
      | with_reducible exact cin_7
      | with_reducible exact cin_8
      | with_reducible exact cin_9
      | with_reducible exact cin_10
      | with_reducible exact cin_11
      | with_reducible exact cin_12
      | with_reducible exact cin_13
      | with_reducible exact cin_14
      | with_reducible exact cin_15
      | with_reducible exact cin_16
      | with_reducible exact cin_17
      | with_reducible exact cin_18
      | with_reducible exact cin_19
      | with_reducible exact cin_20
      | with_reducible exact cin_21
      | with_reducible refine cin_22 ?_
      | with_reducible refine cin_23 ?_
      | with_reducible refine cin_24 (T := T) ?_ ?_
      | with_reducible refine cin_25 (T := T) ?_ ?_
      | with_reducible refine cin_26 (T := T) ?_ ?_
      | with_reducible refine cin_27 (T := T) ?_ ?_
      | with_reducible refine cin_28 (T := T) ?_ ?_
      | with_reducible refine cin_29 (T := T) ?_ ?_
      | with_reducible refine cin_30 (T := T) ?_ ?_
      | with_reducible refine cin_31 (T := T) ?_ ?_
      | with_reducible refine cin_32 (T := T) ?_ ?_
      | with_reducible refine cin_33 (T := T) ?_ ?_
      | with_reducible refine cin_34 (T := T) ?_ ?_
      | with_reducible refine cs_2 ?_
      | with_reducible exact vid_lt (by assumption) (by assumption)
      | with_reducible exact vp_c0
      | with_reducible exact vp_c1
      | with_reducible exact vp_c2
      | with_reducible exact vp_item (by assumption) (by assumption) (by assumption) (by assumption)
      | with_reducible exact has_vp (by assumption) (by assumption)
      | with_reducible exact dead_vp (by assumption) (by assumption)
      | with_reducible exact lw_vp (by assumption) (by assumption)
      | with_reducible refine vp_3 ?_ ?_
      | with_reducible refine vp_4 ?_ ?_
      | with_reducible refine vp_8 ?_ ?_
      | with_reducible refine vp_11 ?_ ?_
      | with_reducible refine vp_15 ?_ ?_
      | with_reducible refine vp_16 ?_ ?_
      | with_reducible refine vp_20 ?_ ?_
      | with_reducible refine vp_60 ?_ ?_
      | with_reducible refine vp_80 ?_ ?_
      | contradiction))

theorem sp_J7_fill_53178_k9 {S : CST} {a1 : Int32} {Post : CST → Prop} {T : Nat × Nat} (hT : S.2 = T) (h : ∀ S' : CST, S'.2 = T → Ex [90] S S' → Post S') : wp_J7_fill_53178_k9 S a1 Post := by
  unfold wp_J7_fill_53178_k9
  exact ⟨2147483647 + 1, lp_J7_fill_53178_k9_5 h 2147483647 0 S a1 rfl hT Ex.rf⟩

theorem lp_J7_fill_53178_k23_5 {S : CST} {K : CST → Prop} {i : Nat} {Post : CST → Prop} {T : Nat × Nat} (hi : i < 16) (hK : ∀ S' : CST, S'.2 = T → Ex [230] S S' → K S')  : ∀ (n j : Nat) (S' : CST) (x : Int32), j + n = 2147483647 → S'.2 = T → Ex [230] S S' → wl_J7_fill_53178_k23_5 K Post (n + 1) S' i x (nI j) 15 := by
  intro n
  induction n with
  | zero =>
    intro j S' x hj s0 s1
    have hneg : ¬ nI j < 0 := nI_nn j (by omega)
    have hz : ∀ r : Int32, r ≤ nI j := by
      obtain rfl : j = 2147483647 := by omega
      exact z_max
    unfold wl_J7_fill_53178_k23_5
    repeat (any_goals (first
      | with_reducible refine ⟨?_, ?_⟩
      | with_reducible rintro _ rfl
      | with_reducible intro _
      | exact absurd (hz _) (by assumption)
      | (refine hK _ (by assumption) (by (repeat (first | with_reducible exact Ex.rf | with_reducible assumption | with_reducible refine Ex.cs (by decide) ?_ | with_reducible refine Ex.step (by assumption) (by decide) ?_)); done))
      | exact Ex.cs (by decide) (by assumption)
      | with_reducible assumption
      | with_reducible exact cin_0
      | with_reducible exact cin_1
      | with_reducible exact cin_2
      | with_reducible exact cin_3
      | with_reducible exact cin_4
      | with_reducible exact cin_5
      | with_reducible exact cin_6
      | with_reducible exact cin_7
      | with_reducible exact cin_8
      | with_reducible exact cin_9
      | with_reducible exact cin_10
      | with_reducible exact cin_11
      | with_reducible exact cin_12
      | with_reducible exact cin_13
      | with_reducible exact cin_14
      | with_reducible exact cin_15
      | with_reducible exact cin_16
      | with_reducible exact cin_17
      | with_reducible exact cin_18
      | with_reducible exact cin_19
      | with_reducible exact cin_20
      | with_reducible exact cin_21
      | with_reducible refine cin_22 ?_
      | with_reducible refine cin_23 ?_
      | with_reducible refine cin_24 (T := T) ?_ ?_
      | with_reducible refine cin_25 (T := T) ?_ ?_
      | with_reducible refine cin_26 (T := T) ?_ ?_
      | with_reducible refine cin_27 (T := T) ?_ ?_
      | with_reducible refine cin_28 (T := T) ?_ ?_
      | with_reducible refine cin_29 (T := T) ?_ ?_
      | with_reducible refine cin_30 (T := T) ?_ ?_
      | with_reducible refine cin_31 (T := T) ?_ ?_
      | with_reducible refine cin_32 (T := T) ?_ ?_
      | with_reducible refine cin_33 (T := T) ?_ ?_
      | with_reducible refine cin_34 (T := T) ?_ ?_
      | with_reducible refine cs_2 ?_
      | with_reducible exact vid_lt (by assumption) (by assumption)
      | with_reducible exact vp_c0
      | with_reducible exact vp_c1
      | with_reducible exact vp_c2
      | with_reducible exact vp_item (by assumption) (by assumption) (by assumption) (by assumption)
      | with_reducible exact has_vp (by assumption) (by assumption)
      | with_reducible exact dead_vp (by assumption) (by assumption)
      | with_reducible exact lw_vp (by assumption) (by assumption)
      | with_reducible refine vp_3 ?_ ?_
      | with_reducible refine vp_4 ?_ ?_
      | with_reducible refine vp_8 ?_ ?_
      | with_reducible refine vp_11 ?_ ?_
      | with_reducible refine vp_15 ?_ ?_
      | with_reducible refine vp_16 ?_ ?_
      | with_reducible refine vp_20 ?_ ?_
      | with_reducible refine vp_60 ?_ ?_
      | with_reducible refine vp_80 ?_ ?_
      | contradiction))
  | succ n ih =>
    intro j S' x hj s0 s1
    have hneg : ¬ nI j < 0 := nI_nn j (by omega)
    unfold wl_J7_fill_53178_k23_5
    repeat (any_goals (first
      | with_reducible refine ⟨?_, ?_⟩
      | with_reducible rintro _ rfl
      | with_reducible intro _
      | (rw [nI_1]; refine ih (j + 1) _ _ (by omega) ?_ ?_)
      | (refine hK _ (by assumption) (by (repeat (first | with_reducible exact Ex.rf | with_reducible assumption | with_reducible refine Ex.cs (by decide) ?_ | with_reducible refine Ex.step (by assumption) (by decide) ?_)); done))
      | exact Ex.cs (by decide) (by assumption)
      | with_reducible assumption
      | with_reducible exact cin_0
      | with_reducible exact cin_1
      | with_reducible exact cin_2
      | with_reducible exact cin_3
      | with_reducible exact cin_4
      | with_reducible exact cin_5
      | with_reducible exact cin_6
      | with_reducible exact cin_7
      | with_reducible exact cin_8
      | with_reducible exact cin_9
      | with_reducible exact cin_10
      | with_reducible exact cin_11
      | with_reducible exact cin_12
      | with_reducible exact cin_13
      | with_reducible exact cin_14
      | with_reducible exact cin_15
      | with_reducible exact cin_16
      | with_reducible exact cin_17
      | with_reducible exact cin_18
      | with_reducible exact cin_19
      | with_reducible exact cin_20
      | with_reducible exact cin_21
      | with_reducible refine cin_22 ?_
      | with_reducible refine cin_23 ?_
      | with_reducible refine cin_24 (T := T) ?_ ?_
      | with_reducible refine cin_25 (T := T) ?_ ?_
      | with_reducible refine cin_26 (T := T) ?_ ?_
      | with_reducible refine cin_27 (T := T) ?_ ?_
      | with_reducible refine cin_28 (T := T) ?_ ?_
      | with_reducible refine cin_29 (T := T) ?_ ?_
      | with_reducible refine cin_30 (T := T) ?_ ?_
      | with_reducible refine cin_31 (T := T) ?_ ?_
      | with_reducible refine cin_32 (T := T) ?_ ?_
      | with_reducible refine cin_33 (T := T) ?_ ?_
      | with_reducible refine cin_34 (T := T) ?_ ?_
      | with_reducible refine cs_2 ?_
      | with_reducible exact vid_lt (by assumption) (by assumption)
      | with_reducible exact vp_c0
      | with_reducible exact vp_c1
      | with_reducible exact vp_c2
      | with_reducible exact vp_item (by assumption) (by assumption) (by assumption) (by assumption)
      | with_reducible exact has_vp (by assumption) (by assumption)
      | with_reducible exact dead_vp (by assumption) (by assumption)
      | with_reducible exact lw_vp (by assumption) (by assumption)
      | with_reducible refine vp_3 ?_ ?_
      | with_reducible refine vp_4 ?_ ?_
      | with_reducible refine vp_8 ?_ ?_
      | with_reducible refine vp_11 ?_ ?_
      | with_reducible refine vp_15 ?_ ?_
      | with_reducible refine vp_16 ?_ ?_
      | with_reducible refine vp_20 ?_ ?_
      | with_reducible refine vp_60 ?_ ?_
      | with_reducible refine vp_80 ?_ ?_
      | contradiction))

theorem sp_J7_fill_53178_k23 {S : CST} {i : Nat} {a1 : Int32} {Post : CST → Prop} {T : Nat × Nat} (hT : S.2 = T) (hi : i < 16) (h : ∀ S' : CST, S'.2 = T → Ex [230] S S' → Post S') : wp_J7_fill_53178_k23 S i a1 Post := by
  unfold wp_J7_fill_53178_k23
  refine ⟨?_, ⟨2147483647 + 1, lp_J7_fill_53178_k23_5 hi h 2147483647 0 S a1 rfl hT Ex.rf⟩⟩
  exact cinF hi (by decide) (by decide)

theorem lp_J7_fill_53178_k27_5 {S : CST} {K : CST → Prop} {i : Nat} {Post : CST → Prop} {T : Nat × Nat} (hi : i < T.1) (hK : ∀ S' : CST, S'.2 = T → Ex [270] S S' → K S')  : ∀ (n j : Nat) (S' : CST) (x : Int32), j + n = 2147483647 → S'.2 = T → Ex [270] S S' → wl_J7_fill_53178_k27_5 K Post (n + 1) S' i x (nI j) 60 := by
  intro n
  induction n with
  | zero =>
    intro j S' x hj s0 s1
    have hneg : ¬ nI j < 0 := nI_nn j (by omega)
    have hz : ∀ r : Int32, r ≤ nI j := by
      obtain rfl : j = 2147483647 := by omega
      exact z_max
    unfold wl_J7_fill_53178_k27_5
    repeat (any_goals (first
      | with_reducible refine ⟨?_, ?_⟩
      | with_reducible rintro _ rfl
      | with_reducible intro _
      | exact absurd (hz _) (by assumption)
      | (refine hK _ (by assumption) (by (repeat (first | with_reducible exact Ex.rf | with_reducible assumption | with_reducible refine Ex.cs (by decide) ?_ | with_reducible refine Ex.step (by assumption) (by decide) ?_)); done))
      | exact Ex.cs (by decide) (by assumption)
      | with_reducible assumption
      | with_reducible exact cin_0
      | with_reducible exact cin_1
      | with_reducible exact cin_2
      | with_reducible exact cin_3
      | with_reducible exact cin_4
      | with_reducible exact cin_5
      | with_reducible exact cin_6
      | with_reducible exact cin_7
      | with_reducible exact cin_8
      | with_reducible exact cin_9
      | with_reducible exact cin_10
      | with_reducible exact cin_11
      | with_reducible exact cin_12
      | with_reducible exact cin_13
      | with_reducible exact cin_14
      | with_reducible exact cin_15
      | with_reducible exact cin_16
      | with_reducible exact cin_17
      | with_reducible exact cin_18
      | with_reducible exact cin_19
      | with_reducible exact cin_20
      | with_reducible exact cin_21
      | with_reducible refine cin_22 ?_
      | with_reducible refine cin_23 ?_
      | with_reducible refine cin_24 (T := T) ?_ ?_
      | with_reducible refine cin_25 (T := T) ?_ ?_
      | with_reducible refine cin_26 (T := T) ?_ ?_
      | with_reducible refine cin_27 (T := T) ?_ ?_
      | with_reducible refine cin_28 (T := T) ?_ ?_
      | with_reducible refine cin_29 (T := T) ?_ ?_
      | with_reducible refine cin_30 (T := T) ?_ ?_
      | with_reducible refine cin_31 (T := T) ?_ ?_
      | with_reducible refine cin_32 (T := T) ?_ ?_
      | with_reducible refine cin_33 (T := T) ?_ ?_
      | with_reducible refine cin_34 (T := T) ?_ ?_
      | with_reducible refine cs_2 ?_
      | with_reducible exact vid_lt (by assumption) (by assumption)
      | with_reducible exact vp_c0
      | with_reducible exact vp_c1
      | with_reducible exact vp_c2
      | with_reducible exact vp_item (by assumption) (by assumption) (by assumption) (by assumption)
      | with_reducible exact has_vp (by assumption) (by assumption)
      | with_reducible exact dead_vp (by assumption) (by assumption)
      | with_reducible exact lw_vp (by assumption) (by assumption)
      | with_reducible refine vp_3 ?_ ?_
      | with_reducible refine vp_4 ?_ ?_
      | with_reducible refine vp_8 ?_ ?_
      | with_reducible refine vp_11 ?_ ?_
      | with_reducible refine vp_15 ?_ ?_
      | with_reducible refine vp_16 ?_ ?_
      | with_reducible refine vp_20 ?_ ?_
      | with_reducible refine vp_60 ?_ ?_
      | with_reducible refine vp_80 ?_ ?_
      | contradiction))
  | succ n ih =>
    intro j S' x hj s0 s1
    have hneg : ¬ nI j < 0 := nI_nn j (by omega)
    unfold wl_J7_fill_53178_k27_5
    repeat (any_goals (first
      | with_reducible refine ⟨?_, ?_⟩
      | with_reducible rintro _ rfl
      | with_reducible intro _
      | (rw [nI_1]; refine ih (j + 1) _ _ (by omega) ?_ ?_)
      | (refine hK _ (by assumption) (by (repeat (first | with_reducible exact Ex.rf | with_reducible assumption | with_reducible refine Ex.cs (by decide) ?_ | with_reducible refine Ex.step (by assumption) (by decide) ?_)); done))
      | exact Ex.cs (by decide) (by assumption)
      | with_reducible assumption
      | with_reducible exact cin_0
      | with_reducible exact cin_1
      | with_reducible exact cin_2
      | with_reducible exact cin_3
      | with_reducible exact cin_4
      | with_reducible exact cin_5
      | with_reducible exact cin_6
      | with_reducible exact cin_7
      | with_reducible exact cin_8
      | with_reducible exact cin_9
      | with_reducible exact cin_10
      | with_reducible exact cin_11
      | with_reducible exact cin_12
      | with_reducible exact cin_13
      | with_reducible exact cin_14
      | with_reducible exact cin_15
      | with_reducible exact cin_16
      | with_reducible exact cin_17
      | with_reducible exact cin_18
      | with_reducible exact cin_19
      | with_reducible exact cin_20
      | with_reducible exact cin_21
      | with_reducible refine cin_22 ?_
      | with_reducible refine cin_23 ?_
      | with_reducible refine cin_24 (T := T) ?_ ?_
      | with_reducible refine cin_25 (T := T) ?_ ?_
      | with_reducible refine cin_26 (T := T) ?_ ?_
      | with_reducible refine cin_27 (T := T) ?_ ?_
      | with_reducible refine cin_28 (T := T) ?_ ?_
      | with_reducible refine cin_29 (T := T) ?_ ?_
      | with_reducible refine cin_30 (T := T) ?_ ?_
      | with_reducible refine cin_31 (T := T) ?_ ?_
      | with_reducible refine cin_32 (T := T) ?_ ?_
      | with_reducible refine cin_33 (T := T) ?_ ?_
      | with_reducible refine cin_34 (T := T) ?_ ?_
      | with_reducible refine cs_2 ?_
      | with_reducible exact vid_lt (by assumption) (by assumption)
      | with_reducible exact vp_c0
      | with_reducible exact vp_c1
      | with_reducible exact vp_c2
      | with_reducible exact vp_item (by assumption) (by assumption) (by assumption) (by assumption)
      | with_reducible exact has_vp (by assumption) (by assumption)
      | with_reducible exact dead_vp (by assumption) (by assumption)
      | with_reducible exact lw_vp (by assumption) (by assumption)
      | with_reducible refine vp_3 ?_ ?_
      | with_reducible refine vp_4 ?_ ?_
      | with_reducible refine vp_8 ?_ ?_
      | with_reducible refine vp_11 ?_ ?_
      | with_reducible refine vp_15 ?_ ?_
      | with_reducible refine vp_16 ?_ ?_
      | with_reducible refine vp_20 ?_ ?_
      | with_reducible refine vp_60 ?_ ?_
      | with_reducible refine vp_80 ?_ ?_
      | contradiction))

theorem sp_J7_fill_53178_k27 {S : CST} {i : Nat} {a1 : Int32} {Post : CST → Prop} {T : Nat × Nat} (hT : S.2 = T) (hi : i < T.1) (h : ∀ S' : CST, S'.2 = T → Ex [270] S S' → Post S') : wp_J7_fill_53178_k27 S i a1 Post := by
  unfold wp_J7_fill_53178_k27
  refine ⟨?_, ⟨2147483647 + 1, lp_J7_fill_53178_k27_5 hi h 2147483647 0 S a1 rfl hT Ex.rf⟩⟩
  exact cinP hT hi (by decide) (by decide)

theorem lp_X0_isRight_2 {S : CST} {K1 K2 : Prop} {Post : Int32 → Prop} {T : Nat × Nat} (hT : S.2 = T) (hv : ∀ j : Nat, vid (cv S 20 0 j) T.1) (h1 : K1) (h2 : K2)  : ∀ (n j : Nat), j + n = 2147483647 → wl_X0_isRight_2 S K1 K2 Post (n + 1) (nI j) := by
  intro n
  induction n with
  | zero =>
    intro j  hj 
    have hneg : ¬ nI j < 0 := nI_nn j (by omega)
    have hz : ∀ r : Int32, r ≤ nI j := by
      obtain rfl : j = 2147483647 := by omega
      exact z_max
    unfold wl_X0_isRight_2
    repeat (any_goals (first
      | with_reducible refine ⟨?_, ?_⟩
      | with_reducible rintro _ rfl
      | with_reducible intro _
      | exact absurd (hz _) (by assumption)
      | with_reducible exact h1
      | with_reducible exact h2
      | with_reducible exact hv _
      | with_reducible refine sp_X0_at (T := T) ?_ ?_ (fun _ _ => ?_)
      | with_reducible refine sp_X8_isRight (T := T) ?_ ?_ (fun _ _ => ?_)
      | with_reducible assumption
      | with_reducible exact cin_0
      | with_reducible exact cin_1
      | with_reducible exact cin_2
      | with_reducible exact cin_3
      | with_reducible exact cin_4
      | with_reducible exact cin_5
      | with_reducible exact cin_6
      | with_reducible exact cin_7
      | with_reducible exact cin_8
      | with_reducible exact cin_9
      | with_reducible exact cin_10
      | with_reducible exact cin_11
      | with_reducible exact cin_12
      | with_reducible exact cin_13
      | with_reducible exact cin_14
      | with_reducible exact cin_15
      | with_reducible exact cin_16
      | with_reducible exact cin_17
      | with_reducible exact cin_18
      | with_reducible exact cin_19
      | with_reducible exact cin_20
      | with_reducible exact cin_21
      | with_reducible refine cin_22 ?_
      | with_reducible refine cin_23 ?_
      | with_reducible refine cin_24 (T := T) ?_ ?_
      | with_reducible refine cin_25 (T := T) ?_ ?_
      | with_reducible refine cin_26 (T := T) ?_ ?_
      | with_reducible refine cin_27 (T := T) ?_ ?_
      | with_reducible refine cin_28 (T := T) ?_ ?_
      | with_reducible refine cin_29 (T := T) ?_ ?_
      | with_reducible refine cin_30 (T := T) ?_ ?_
      | with_reducible refine cin_31 (T := T) ?_ ?_
      | with_reducible refine cin_32 (T := T) ?_ ?_
      | with_reducible refine cin_33 (T := T) ?_ ?_
      | with_reducible refine cin_34 (T := T) ?_ ?_
      | with_reducible refine cs_2 ?_
      | with_reducible exact vid_lt (by assumption) (by assumption)
      | with_reducible exact vp_c0
      | with_reducible exact vp_c1
      | with_reducible exact vp_c2
      | with_reducible exact vp_item (by assumption) (by assumption) (by assumption) (by assumption)
      | with_reducible exact has_vp (by assumption) (by assumption)
      | with_reducible exact dead_vp (by assumption) (by assumption)
      | with_reducible exact lw_vp (by assumption) (by assumption)
      | with_reducible refine vp_3 ?_ ?_
      | with_reducible refine vp_4 ?_ ?_
      | with_reducible refine vp_8 ?_ ?_
      | with_reducible refine vp_11 ?_ ?_
      | with_reducible refine vp_15 ?_ ?_
      | with_reducible refine vp_16 ?_ ?_
      | with_reducible refine vp_20 ?_ ?_
      | with_reducible refine vp_60 ?_ ?_
      | with_reducible refine vp_80 ?_ ?_
      | contradiction))
  | succ n ih =>
    intro j  hj 
    have hneg : ¬ nI j < 0 := nI_nn j (by omega)
    unfold wl_X0_isRight_2
    repeat (any_goals (first
      | with_reducible refine ⟨?_, ?_⟩
      | with_reducible rintro _ rfl
      | with_reducible intro _
      | (rw [nI_1]; refine ih (j + 1) (by omega))
      | with_reducible exact h1
      | with_reducible exact h2
      | with_reducible exact hv _
      | with_reducible refine sp_X0_at (T := T) ?_ ?_ (fun _ _ => ?_)
      | with_reducible refine sp_X8_isRight (T := T) ?_ ?_ (fun _ _ => ?_)
      | with_reducible assumption
      | with_reducible exact cin_0
      | with_reducible exact cin_1
      | with_reducible exact cin_2
      | with_reducible exact cin_3
      | with_reducible exact cin_4
      | with_reducible exact cin_5
      | with_reducible exact cin_6
      | with_reducible exact cin_7
      | with_reducible exact cin_8
      | with_reducible exact cin_9
      | with_reducible exact cin_10
      | with_reducible exact cin_11
      | with_reducible exact cin_12
      | with_reducible exact cin_13
      | with_reducible exact cin_14
      | with_reducible exact cin_15
      | with_reducible exact cin_16
      | with_reducible exact cin_17
      | with_reducible exact cin_18
      | with_reducible exact cin_19
      | with_reducible exact cin_20
      | with_reducible exact cin_21
      | with_reducible refine cin_22 ?_
      | with_reducible refine cin_23 ?_
      | with_reducible refine cin_24 (T := T) ?_ ?_
      | with_reducible refine cin_25 (T := T) ?_ ?_
      | with_reducible refine cin_26 (T := T) ?_ ?_
      | with_reducible refine cin_27 (T := T) ?_ ?_
      | with_reducible refine cin_28 (T := T) ?_ ?_
      | with_reducible refine cin_29 (T := T) ?_ ?_
      | with_reducible refine cin_30 (T := T) ?_ ?_
      | with_reducible refine cin_31 (T := T) ?_ ?_
      | with_reducible refine cin_32 (T := T) ?_ ?_
      | with_reducible refine cin_33 (T := T) ?_ ?_
      | with_reducible refine cin_34 (T := T) ?_ ?_
      | with_reducible refine cs_2 ?_
      | with_reducible exact vid_lt (by assumption) (by assumption)
      | with_reducible exact vp_c0
      | with_reducible exact vp_c1
      | with_reducible exact vp_c2
      | with_reducible exact vp_item (by assumption) (by assumption) (by assumption) (by assumption)
      | with_reducible exact has_vp (by assumption) (by assumption)
      | with_reducible exact dead_vp (by assumption) (by assumption)
      | with_reducible exact lw_vp (by assumption) (by assumption)
      | with_reducible refine vp_3 ?_ ?_
      | with_reducible refine vp_4 ?_ ?_
      | with_reducible refine vp_8 ?_ ?_
      | with_reducible refine vp_11 ?_ ?_
      | with_reducible refine vp_15 ?_ ?_
      | with_reducible refine vp_16 ?_ ?_
      | with_reducible refine vp_20 ?_ ?_
      | with_reducible refine vp_60 ?_ ?_
      | with_reducible refine vp_80 ?_ ?_
      | contradiction))

theorem sp_X0_isRight {S : CST}  {T : Nat × Nat} {Post : Int32 → Prop} (hT : S.2 = T) (hv : ∀ j : Nat, vid (cv S 20 0 j) T.1) (h : ∀ r : Int32, Post r) : wp_X0_isRight S  Post := by
  unfold wp_X0_isRight
  exact ⟨2147483647 + 1, lp_X0_isRight_2 hT hv (h _) (h _) 2147483647 0 rfl⟩

theorem sp_X0_taken {S : CST} {a1 : Int32} {a2 : Int32} {T : Nat × Nat} {Post : Int32 → Prop} (hT : S.2 = T) (hv : ∀ j : Nat, vid (cv S 20 0 j) T.1) (h : ∀ r : Int32, Post r) : wp_X0_taken S a1 a2 Post := by
  unfold wp_X0_taken
  repeat (any_goals (first
    | with_reducible refine ⟨?_, ?_⟩
    | with_reducible rintro _ rfl
    | with_reducible intro _
    | exact h _
    | with_reducible exact hv _
    | with_reducible refine sp_X0_at (T := T) ?_ ?_ (fun _ _ => ?_)
    | with_reducible assumption
    | with_reducible exact cin_0
    | with_reducible exact cin_1
    | with_reducible exact cin_2
    | with_reducible exact cin_3
    | with_reducible exact cin_4
    | with_reducible exact cin_5
    | with_reducible exact cin_6
    | with_reducible exact cin_7
    | with_reducible exact cin_8
    | with_reducible exact cin_9
    | with_reducible exact cin_10
    | with_reducible exact cin_11
    | with_reducible exact cin_12
    | with_reducible exact cin_13
    | with_reducible exact cin_14
    | with_reducible exact cin_15
    | with_reducible exact cin_16
    | with_reducible exact cin_17
    | with_reducible exact cin_18
    | with_reducible exact cin_19
    | with_reducible exact cin_20
    | with_reducible exact cin_21
    | with_reducible refine cin_22 ?_
    | with_reducible refine cin_23 ?_
    | with_reducible refine cin_24 (T := T) ?_ ?_
    | with_reducible refine cin_25 (T := T) ?_ ?_
    | with_reducible refine cin_26 (T := T) ?_ ?_
    | with_reducible refine cin_27 (T := T) ?_ ?_
    | with_reducible refine cin_28 (T := T) ?_ ?_
    | with_reducible refine cin_29 (T := T) ?_ ?_
    | with_reducible refine cin_30 (T := T) ?_ ?_
    | with_reducible refine cin_31 (T := T) ?_ ?_
    | with_reducible refine cin_32 (T := T) ?_ ?_
    | with_reducible refine cin_33 (T := T) ?_ ?_
    | with_reducible refine cin_34 (T := T) ?_ ?_
    | with_reducible refine cs_2 ?_
    | with_reducible exact vid_lt (by assumption) (by assumption)
    | with_reducible exact vp_c0
    | with_reducible exact vp_c1
    | with_reducible exact vp_c2
    | with_reducible exact vp_item (by assumption) (by assumption) (by assumption) (by assumption)
    | with_reducible exact has_vp (by assumption) (by assumption)
    | with_reducible exact dead_vp (by assumption) (by assumption)
    | with_reducible exact lw_vp (by assumption) (by assumption)
    | with_reducible refine vp_3 ?_ ?_
    | with_reducible refine vp_4 ?_ ?_
    | with_reducible refine vp_8 ?_ ?_
    | with_reducible refine vp_11 ?_ ?_
    | with_reducible refine vp_15 ?_ ?_
    | with_reducible refine vp_16 ?_ ?_
    | with_reducible refine vp_20 ?_ ?_
    | with_reducible refine vp_60 ?_ ?_
    | with_reducible refine vp_80 ?_ ?_
    | contradiction))

theorem lp_X6_leastWaiting_2 {S : CST} {K1 : Prop} {K2 : Int32 → Prop} {Post : Int32 → Prop} {T : Nat × Nat} (hT : S.2 = T) (h1 : K1) (h2 : ∀ r : Int32, (¬ r < 0 ∧ ¬ 60 ≤ r) → K2 r)  : ∀ (n j : Nat), j + n = 2147483647 → wl_X6_leastWaiting_2 S K1 K2 Post (n + 1) (nI j) := by
  intro n
  induction n with
  | zero =>
    intro j  hj 
    have hneg : ¬ nI j < 0 := nI_nn j (by omega)
    have hz : ∀ r : Int32, r ≤ nI j := by
      obtain rfl : j = 2147483647 := by omega
      exact z_max
    unfold wl_X6_leastWaiting_2
    repeat (any_goals (first
      | with_reducible refine ⟨?_, ?_⟩
      | with_reducible rintro _ rfl
      | with_reducible intro _
      | exact absurd (hz _) (by assumption)
      | with_reducible exact h1
      | with_reducible exact h2 _ ⟨by assumption, by assumption⟩
      | with_reducible assumption
      | with_reducible exact cin_0
      | with_reducible exact cin_1
      | with_reducible exact cin_2
      | with_reducible exact cin_3
      | with_reducible exact cin_4
      | with_reducible exact cin_5
      | with_reducible exact cin_6
      | with_reducible exact cin_7
      | with_reducible exact cin_8
      | with_reducible exact cin_9
      | with_reducible exact cin_10
      | with_reducible exact cin_11
      | with_reducible exact cin_12
      | with_reducible exact cin_13
      | with_reducible exact cin_14
      | with_reducible exact cin_15
      | with_reducible exact cin_16
      | with_reducible exact cin_17
      | with_reducible exact cin_18
      | with_reducible exact cin_19
      | with_reducible exact cin_20
      | with_reducible exact cin_21
      | with_reducible refine cin_22 ?_
      | with_reducible refine cin_23 ?_
      | with_reducible refine cin_24 (T := T) ?_ ?_
      | with_reducible refine cin_25 (T := T) ?_ ?_
      | with_reducible refine cin_26 (T := T) ?_ ?_
      | with_reducible refine cin_27 (T := T) ?_ ?_
      | with_reducible refine cin_28 (T := T) ?_ ?_
      | with_reducible refine cin_29 (T := T) ?_ ?_
      | with_reducible refine cin_30 (T := T) ?_ ?_
      | with_reducible refine cin_31 (T := T) ?_ ?_
      | with_reducible refine cin_32 (T := T) ?_ ?_
      | with_reducible refine cin_33 (T := T) ?_ ?_
      | with_reducible refine cin_34 (T := T) ?_ ?_
      | with_reducible refine cs_2 ?_
      | with_reducible exact vid_lt (by assumption) (by assumption)
      | with_reducible exact vp_c0
      | with_reducible exact vp_c1
      | with_reducible exact vp_c2
      | with_reducible exact vp_item (by assumption) (by assumption) (by assumption) (by assumption)
      | with_reducible exact has_vp (by assumption) (by assumption)
      | with_reducible exact dead_vp (by assumption) (by assumption)
      | with_reducible exact lw_vp (by assumption) (by assumption)
      | with_reducible refine vp_3 ?_ ?_
      | with_reducible refine vp_4 ?_ ?_
      | with_reducible refine vp_8 ?_ ?_
      | with_reducible refine vp_11 ?_ ?_
      | with_reducible refine vp_15 ?_ ?_
      | with_reducible refine vp_16 ?_ ?_
      | with_reducible refine vp_20 ?_ ?_
      | with_reducible refine vp_60 ?_ ?_
      | with_reducible refine vp_80 ?_ ?_
      | contradiction))
  | succ n ih =>
    intro j  hj 
    have hneg : ¬ nI j < 0 := nI_nn j (by omega)
    unfold wl_X6_leastWaiting_2
    repeat (any_goals (first
      | with_reducible refine ⟨?_, ?_⟩
      | with_reducible rintro _ rfl
      | with_reducible intro _
      | (rw [nI_1]; refine ih (j + 1) (by omega))
      | with_reducible exact h1
      | with_reducible exact h2 _ ⟨by assumption, by assumption⟩
      | with_reducible assumption
      | with_reducible exact cin_0
      | with_reducible exact cin_1
      | with_reducible exact cin_2
      | with_reducible exact cin_3
      | with_reducible exact cin_4
      | with_reducible exact cin_5
      | with_reducible exact cin_6
      | with_reducible exact cin_7
      | with_reducible exact cin_8
      | with_reducible exact cin_9
      | with_reducible exact cin_10
      | with_reducible exact cin_11
      | with_reducible exact cin_12
      | with_reducible exact cin_13
      | with_reducible exact cin_14
      | with_reducible exact cin_15
      | with_reducible exact cin_16
      | with_reducible exact cin_17
      | with_reducible exact cin_18
      | with_reducible exact cin_19
      | with_reducible exact cin_20
      | with_reducible exact cin_21
      | with_reducible refine cin_22 ?_
      | with_reducible refine cin_23 ?_
      | with_reducible refine cin_24 (T := T) ?_ ?_
      | with_reducible refine cin_25 (T := T) ?_ ?_
      | with_reducible refine cin_26 (T := T) ?_ ?_
      | with_reducible refine cin_27 (T := T) ?_ ?_
      | with_reducible refine cin_28 (T := T) ?_ ?_
      | with_reducible refine cin_29 (T := T) ?_ ?_
      | with_reducible refine cin_30 (T := T) ?_ ?_
      | with_reducible refine cin_31 (T := T) ?_ ?_
      | with_reducible refine cin_32 (T := T) ?_ ?_
      | with_reducible refine cin_33 (T := T) ?_ ?_
      | with_reducible refine cin_34 (T := T) ?_ ?_
      | with_reducible refine cs_2 ?_
      | with_reducible exact vid_lt (by assumption) (by assumption)
      | with_reducible exact vp_c0
      | with_reducible exact vp_c1
      | with_reducible exact vp_c2
      | with_reducible exact vp_item (by assumption) (by assumption) (by assumption) (by assumption)
      | with_reducible exact has_vp (by assumption) (by assumption)
      | with_reducible exact dead_vp (by assumption) (by assumption)
      | with_reducible exact lw_vp (by assumption) (by assumption)
      | with_reducible refine vp_3 ?_ ?_
      | with_reducible refine vp_4 ?_ ?_
      | with_reducible refine vp_8 ?_ ?_
      | with_reducible refine vp_11 ?_ ?_
      | with_reducible refine vp_15 ?_ ?_
      | with_reducible refine vp_16 ?_ ?_
      | with_reducible refine vp_20 ?_ ?_
      | with_reducible refine vp_60 ?_ ?_
      | with_reducible refine vp_80 ?_ ?_
      | contradiction))

theorem sp_X6_leastWaiting {S : CST} {T : Nat × Nat} {Post : Int32 → Prop} (hT : S.2 = T) (h : ∀ r : Int32, (r = -1 ∨ (¬ r < 0 ∧ ¬ 60 ≤ r)) → Post r) : wp_X6_leastWaiting S Post := ⟨2147483647 + 1, lp_X6_leastWaiting_2 hT (h _ (Or.inl rfl)) (fun r hr => h r (Or.inr hr)) 2147483647 0 rfl⟩

theorem sp_X6_isRightX {S : CST} {i1 : Nat} {a2 : Int32} {a3 : Int32} {T : Nat × Nat} {Post : Int32 → Prop} (hT : S.2 = T) (hi : i1 < T.1) (hv : ∀ j : Nat, vid (cv S 20 0 j) T.1) (h : ∀ r : Int32, Post r) : wp_X6_isRightX S i1 a2 a3 Post := by
  unfold wp_X6_isRightX
  repeat (any_goals (first
    | with_reducible refine ⟨?_, ?_⟩
    | with_reducible rintro _ rfl
    | with_reducible intro _
    | exact h _
    | with_reducible exact hv _
    | with_reducible refine sp_X0_at (T := T) ?_ ?_ (fun _ _ => ?_)
    | with_reducible assumption
    | with_reducible exact cin_0
    | with_reducible exact cin_1
    | with_reducible exact cin_2
    | with_reducible exact cin_3
    | with_reducible exact cin_4
    | with_reducible exact cin_5
    | with_reducible exact cin_6
    | with_reducible exact cin_7
    | with_reducible exact cin_8
    | with_reducible exact cin_9
    | with_reducible exact cin_10
    | with_reducible exact cin_11
    | with_reducible exact cin_12
    | with_reducible exact cin_13
    | with_reducible exact cin_14
    | with_reducible exact cin_15
    | with_reducible exact cin_16
    | with_reducible exact cin_17
    | with_reducible exact cin_18
    | with_reducible exact cin_19
    | with_reducible exact cin_20
    | with_reducible exact cin_21
    | with_reducible refine cin_22 ?_
    | with_reducible refine cin_23 ?_
    | with_reducible refine cin_24 (T := T) ?_ ?_
    | with_reducible refine cin_25 (T := T) ?_ ?_
    | with_reducible refine cin_26 (T := T) ?_ ?_
    | with_reducible refine cin_27 (T := T) ?_ ?_
    | with_reducible refine cin_28 (T := T) ?_ ?_
    | with_reducible refine cin_29 (T := T) ?_ ?_
    | with_reducible refine cin_30 (T := T) ?_ ?_
    | with_reducible refine cin_31 (T := T) ?_ ?_
    | with_reducible refine cin_32 (T := T) ?_ ?_
    | with_reducible refine cin_33 (T := T) ?_ ?_
    | with_reducible refine cin_34 (T := T) ?_ ?_
    | with_reducible refine cs_2 ?_
    | with_reducible exact vid_lt (by assumption) (by assumption)
    | with_reducible exact vp_c0
    | with_reducible exact vp_c1
    | with_reducible exact vp_c2
    | with_reducible exact vp_item (by assumption) (by assumption) (by assumption) (by assumption)
    | with_reducible exact has_vp (by assumption) (by assumption)
    | with_reducible exact dead_vp (by assumption) (by assumption)
    | with_reducible exact lw_vp (by assumption) (by assumption)
    | with_reducible refine vp_3 ?_ ?_
    | with_reducible refine vp_4 ?_ ?_
    | with_reducible refine vp_8 ?_ ?_
    | with_reducible refine vp_11 ?_ ?_
    | with_reducible refine vp_15 ?_ ?_
    | with_reducible refine vp_16 ?_ ?_
    | with_reducible refine vp_20 ?_ ?_
    | with_reducible refine vp_60 ?_ ?_
    | with_reducible refine vp_80 ?_ ?_
    | contradiction))

theorem lp_X6_greatestDepth_4 {S : CST} {K : Int32 → Prop} {i : Nat} {Post : Int32 → Prop} {T : Nat × Nat} (hT : S.2 = T) (hi : i < T.1) (hK : ∀ r : Int32, ¬ r < 0 → K r)  : ∀ (n j : Nat) (x : Int32), j + n = 2147483647 → ¬ x < 0 → wl_X6_greatestDepth_4 S K Post (n + 1) i x (nI j) := by
  intro n
  induction n with
  | zero =>
    intro j x hj s0
    have hneg : ¬ nI j < 0 := nI_nn j (by omega)
    have hz : ∀ r : Int32, r ≤ nI j := by
      obtain rfl : j = 2147483647 := by omega
      exact z_max
    unfold wl_X6_greatestDepth_4
    repeat (any_goals (first
      | with_reducible refine ⟨?_, ?_⟩
      | with_reducible rintro _ rfl
      | with_reducible intro _
      | exact absurd (hz _) (by assumption)
      | with_reducible exact hK _ (by assumption)
      | with_reducible refine sp_X8_depthAt (T := T) ?_ ?_ (fun _ => ?_)
      | with_reducible assumption
      | with_reducible exact cin_0
      | with_reducible exact cin_1
      | with_reducible exact cin_2
      | with_reducible exact cin_3
      | with_reducible exact cin_4
      | with_reducible exact cin_5
      | with_reducible exact cin_6
      | with_reducible exact cin_7
      | with_reducible exact cin_8
      | with_reducible exact cin_9
      | with_reducible exact cin_10
      | with_reducible exact cin_11
      | with_reducible exact cin_12
      | with_reducible exact cin_13
      | with_reducible exact cin_14
      | with_reducible exact cin_15
      | with_reducible exact cin_16
      | with_reducible exact cin_17
      | with_reducible exact cin_18
      | with_reducible exact cin_19
      | with_reducible exact cin_20
      | with_reducible exact cin_21
      | with_reducible refine cin_22 ?_
      | with_reducible refine cin_23 ?_
      | with_reducible refine cin_24 (T := T) ?_ ?_
      | with_reducible refine cin_25 (T := T) ?_ ?_
      | with_reducible refine cin_26 (T := T) ?_ ?_
      | with_reducible refine cin_27 (T := T) ?_ ?_
      | with_reducible refine cin_28 (T := T) ?_ ?_
      | with_reducible refine cin_29 (T := T) ?_ ?_
      | with_reducible refine cin_30 (T := T) ?_ ?_
      | with_reducible refine cin_31 (T := T) ?_ ?_
      | with_reducible refine cin_32 (T := T) ?_ ?_
      | with_reducible refine cin_33 (T := T) ?_ ?_
      | with_reducible refine cin_34 (T := T) ?_ ?_
      | with_reducible refine cs_2 ?_
      | with_reducible exact vid_lt (by assumption) (by assumption)
      | with_reducible exact vp_c0
      | with_reducible exact vp_c1
      | with_reducible exact vp_c2
      | with_reducible exact vp_item (by assumption) (by assumption) (by assumption) (by assumption)
      | with_reducible exact has_vp (by assumption) (by assumption)
      | with_reducible exact dead_vp (by assumption) (by assumption)
      | with_reducible exact lw_vp (by assumption) (by assumption)
      | with_reducible refine vp_3 ?_ ?_
      | with_reducible refine vp_4 ?_ ?_
      | with_reducible refine vp_8 ?_ ?_
      | with_reducible refine vp_11 ?_ ?_
      | with_reducible refine vp_15 ?_ ?_
      | with_reducible refine vp_16 ?_ ?_
      | with_reducible refine vp_20 ?_ ?_
      | with_reducible refine vp_60 ?_ ?_
      | with_reducible refine vp_80 ?_ ?_
      | contradiction))
  | succ n ih =>
    intro j x hj s0
    have hneg : ¬ nI j < 0 := nI_nn j (by omega)
    unfold wl_X6_greatestDepth_4
    repeat (any_goals (first
      | with_reducible refine ⟨?_, ?_⟩
      | with_reducible rintro _ rfl
      | with_reducible intro _
      | (rw [nI_1]; refine ih (j + 1) _ (by omega) (z_mx (by assumption)))
      | with_reducible exact hK _ (by assumption)
      | with_reducible refine sp_X8_depthAt (T := T) ?_ ?_ (fun _ => ?_)
      | with_reducible assumption
      | with_reducible exact cin_0
      | with_reducible exact cin_1
      | with_reducible exact cin_2
      | with_reducible exact cin_3
      | with_reducible exact cin_4
      | with_reducible exact cin_5
      | with_reducible exact cin_6
      | with_reducible exact cin_7
      | with_reducible exact cin_8
      | with_reducible exact cin_9
      | with_reducible exact cin_10
      | with_reducible exact cin_11
      | with_reducible exact cin_12
      | with_reducible exact cin_13
      | with_reducible exact cin_14
      | with_reducible exact cin_15
      | with_reducible exact cin_16
      | with_reducible exact cin_17
      | with_reducible exact cin_18
      | with_reducible exact cin_19
      | with_reducible exact cin_20
      | with_reducible exact cin_21
      | with_reducible refine cin_22 ?_
      | with_reducible refine cin_23 ?_
      | with_reducible refine cin_24 (T := T) ?_ ?_
      | with_reducible refine cin_25 (T := T) ?_ ?_
      | with_reducible refine cin_26 (T := T) ?_ ?_
      | with_reducible refine cin_27 (T := T) ?_ ?_
      | with_reducible refine cin_28 (T := T) ?_ ?_
      | with_reducible refine cin_29 (T := T) ?_ ?_
      | with_reducible refine cin_30 (T := T) ?_ ?_
      | with_reducible refine cin_31 (T := T) ?_ ?_
      | with_reducible refine cin_32 (T := T) ?_ ?_
      | with_reducible refine cin_33 (T := T) ?_ ?_
      | with_reducible refine cin_34 (T := T) ?_ ?_
      | with_reducible refine cs_2 ?_
      | with_reducible exact vid_lt (by assumption) (by assumption)
      | with_reducible exact vp_c0
      | with_reducible exact vp_c1
      | with_reducible exact vp_c2
      | with_reducible exact vp_item (by assumption) (by assumption) (by assumption) (by assumption)
      | with_reducible exact has_vp (by assumption) (by assumption)
      | with_reducible exact dead_vp (by assumption) (by assumption)
      | with_reducible exact lw_vp (by assumption) (by assumption)
      | with_reducible refine vp_3 ?_ ?_
      | with_reducible refine vp_4 ?_ ?_
      | with_reducible refine vp_8 ?_ ?_
      | with_reducible refine vp_11 ?_ ?_
      | with_reducible refine vp_15 ?_ ?_
      | with_reducible refine vp_16 ?_ ?_
      | with_reducible refine vp_20 ?_ ?_
      | with_reducible refine vp_60 ?_ ?_
      | with_reducible refine vp_80 ?_ ?_
      | contradiction))

theorem sp_X6_greatestDepth {S : CST} {i1 : Nat} {T : Nat × Nat} {Post : Int32 → Prop} (hT : S.2 = T) (hi : i1 < T.1) (h : ∀ r : Int32, ¬ r < 0 → Post r) : wp_X6_greatestDepth S i1 Post := ⟨2147483647 + 1, lp_X6_greatestDepth_4 hT hi h 2147483647 0 0 rfl (by decide)⟩

theorem lp_X9_uses_3 {S : CST} {K1 K2 : Prop} {i : Nat} {Post : Int32 → Prop} {T : Nat × Nat} (hT : S.2 = T) (hi : i < T.1) (h1 : K1) (h2 : K2)  : ∀ (n j : Nat) (x : Int32) (y : Int32), j + n = 2147483647 → wl_X9_uses_3 S K1 K2 Post (n + 1) i x y (nI j) := by
  intro n
  induction n with
  | zero =>
    intro j x y hj 
    have hneg : ¬ nI j < 0 := nI_nn j (by omega)
    have hz : ∀ r : Int32, r ≤ nI j := by
      obtain rfl : j = 2147483647 := by omega
      exact z_max
    unfold wl_X9_uses_3
    repeat (any_goals (first
      | with_reducible refine ⟨?_, ?_⟩
      | with_reducible rintro _ rfl
      | with_reducible intro _
      | exact absurd (hz _) (by assumption)
      | with_reducible exact h1
      | with_reducible exact h2
      | with_reducible refine sp_X8_opAt (T := T) ?_ ?_ (fun _ => ?_)
      | with_reducible refine sp_X8_xAt (T := T) ?_ ?_ (fun _ => ?_)
      | with_reducible refine sp_X8_isDead (T := T) ?_ ?_ (fun _ _ => ?_)
      | with_reducible assumption
      | with_reducible exact cin_0
      | with_reducible exact cin_1
      | with_reducible exact cin_2
      | with_reducible exact cin_3
      | with_reducible exact cin_4
      | with_reducible exact cin_5
      | with_reducible exact cin_6
      | with_reducible exact cin_7
      | with_reducible exact cin_8
      | with_reducible exact cin_9
      | with_reducible exact cin_10
      | with_reducible exact cin_11
      | with_reducible exact cin_12
      | with_reducible exact cin_13
      | with_reducible exact cin_14
      | with_reducible exact cin_15
      | with_reducible exact cin_16
      | with_reducible exact cin_17
      | with_reducible exact cin_18
      | with_reducible exact cin_19
      | with_reducible exact cin_20
      | with_reducible exact cin_21
      | with_reducible refine cin_22 ?_
      | with_reducible refine cin_23 ?_
      | with_reducible refine cin_24 (T := T) ?_ ?_
      | with_reducible refine cin_25 (T := T) ?_ ?_
      | with_reducible refine cin_26 (T := T) ?_ ?_
      | with_reducible refine cin_27 (T := T) ?_ ?_
      | with_reducible refine cin_28 (T := T) ?_ ?_
      | with_reducible refine cin_29 (T := T) ?_ ?_
      | with_reducible refine cin_30 (T := T) ?_ ?_
      | with_reducible refine cin_31 (T := T) ?_ ?_
      | with_reducible refine cin_32 (T := T) ?_ ?_
      | with_reducible refine cin_33 (T := T) ?_ ?_
      | with_reducible refine cin_34 (T := T) ?_ ?_
      | with_reducible refine cs_2 ?_
      | with_reducible exact vid_lt (by assumption) (by assumption)
      | with_reducible exact vp_c0
      | with_reducible exact vp_c1
      | with_reducible exact vp_c2
      | with_reducible exact vp_item (by assumption) (by assumption) (by assumption) (by assumption)
      | with_reducible exact has_vp (by assumption) (by assumption)
      | with_reducible exact dead_vp (by assumption) (by assumption)
      | with_reducible exact lw_vp (by assumption) (by assumption)
      | with_reducible refine vp_3 ?_ ?_
      | with_reducible refine vp_4 ?_ ?_
      | with_reducible refine vp_8 ?_ ?_
      | with_reducible refine vp_11 ?_ ?_
      | with_reducible refine vp_15 ?_ ?_
      | with_reducible refine vp_16 ?_ ?_
      | with_reducible refine vp_20 ?_ ?_
      | with_reducible refine vp_60 ?_ ?_
      | with_reducible refine vp_80 ?_ ?_
      | contradiction))
  | succ n ih =>
    intro j x y hj 
    have hneg : ¬ nI j < 0 := nI_nn j (by omega)
    unfold wl_X9_uses_3
    repeat (any_goals (first
      | with_reducible refine ⟨?_, ?_⟩
      | with_reducible rintro _ rfl
      | with_reducible intro _
      | (rw [nI_1]; refine ih (j + 1) _ _ (by omega))
      | with_reducible exact h1
      | with_reducible exact h2
      | with_reducible refine sp_X8_opAt (T := T) ?_ ?_ (fun _ => ?_)
      | with_reducible refine sp_X8_xAt (T := T) ?_ ?_ (fun _ => ?_)
      | with_reducible refine sp_X8_isDead (T := T) ?_ ?_ (fun _ _ => ?_)
      | with_reducible assumption
      | with_reducible exact cin_0
      | with_reducible exact cin_1
      | with_reducible exact cin_2
      | with_reducible exact cin_3
      | with_reducible exact cin_4
      | with_reducible exact cin_5
      | with_reducible exact cin_6
      | with_reducible exact cin_7
      | with_reducible exact cin_8
      | with_reducible exact cin_9
      | with_reducible exact cin_10
      | with_reducible exact cin_11
      | with_reducible exact cin_12
      | with_reducible exact cin_13
      | with_reducible exact cin_14
      | with_reducible exact cin_15
      | with_reducible exact cin_16
      | with_reducible exact cin_17
      | with_reducible exact cin_18
      | with_reducible exact cin_19
      | with_reducible exact cin_20
      | with_reducible exact cin_21
      | with_reducible refine cin_22 ?_
      | with_reducible refine cin_23 ?_
      | with_reducible refine cin_24 (T := T) ?_ ?_
      | with_reducible refine cin_25 (T := T) ?_ ?_
      | with_reducible refine cin_26 (T := T) ?_ ?_
      | with_reducible refine cin_27 (T := T) ?_ ?_
      | with_reducible refine cin_28 (T := T) ?_ ?_
      | with_reducible refine cin_29 (T := T) ?_ ?_
      | with_reducible refine cin_30 (T := T) ?_ ?_
      | with_reducible refine cin_31 (T := T) ?_ ?_
      | with_reducible refine cin_32 (T := T) ?_ ?_
      | with_reducible refine cin_33 (T := T) ?_ ?_
      | with_reducible refine cin_34 (T := T) ?_ ?_
      | with_reducible refine cs_2 ?_
      | with_reducible exact vid_lt (by assumption) (by assumption)
      | with_reducible exact vp_c0
      | with_reducible exact vp_c1
      | with_reducible exact vp_c2
      | with_reducible exact vp_item (by assumption) (by assumption) (by assumption) (by assumption)
      | with_reducible exact has_vp (by assumption) (by assumption)
      | with_reducible exact dead_vp (by assumption) (by assumption)
      | with_reducible exact lw_vp (by assumption) (by assumption)
      | with_reducible refine vp_3 ?_ ?_
      | with_reducible refine vp_4 ?_ ?_
      | with_reducible refine vp_8 ?_ ?_
      | with_reducible refine vp_11 ?_ ?_
      | with_reducible refine vp_15 ?_ ?_
      | with_reducible refine vp_16 ?_ ?_
      | with_reducible refine vp_20 ?_ ?_
      | with_reducible refine vp_60 ?_ ?_
      | with_reducible refine vp_80 ?_ ?_
      | contradiction))

theorem sp_X9_uses {S : CST} {i1 : Nat} {a2 : Int32} {a3 : Int32} {T : Nat × Nat} {Post : Int32 → Prop} (hT : S.2 = T) (hi : i1 < T.1) (h : ∀ r : Int32, Post r) : wp_X9_uses S i1 a2 a3 Post := by
  unfold wp_X9_uses
  exact ⟨2147483647 + 1, lp_X9_uses_3 hT hi (h _) (h _) 2147483647 0 _ _ rfl⟩

theorem lp_X10_mixedInto_14 {S : CST} {K : Int64 → Prop} {Post : Int64 → Prop} {T : Nat × Nat} (hK : ∀ r : Int64, K r)  : ∀ (n j : Nat) (x : Int64), j + n = 2147483647 → wl_X10_mixedInto_14 S K Post (n + 1) x (nI j) := by
  intro n
  induction n with
  | zero =>
    intro j x hj 
    have hneg : ¬ nI j < 0 := nI_nn j (by omega)
    have hz : ∀ r : Int32, r ≤ nI j := by
      obtain rfl : j = 2147483647 := by omega
      exact z_max
    unfold wl_X10_mixedInto_14
    repeat (any_goals (first
      | with_reducible refine ⟨?_, ?_⟩
      | with_reducible rintro _ rfl
      | with_reducible intro _
      | exact absurd (hz _) (by assumption)
      | with_reducible exact hK _
      | with_reducible assumption
      | with_reducible exact cin_0
      | with_reducible exact cin_1
      | with_reducible exact cin_2
      | with_reducible exact cin_3
      | with_reducible exact cin_4
      | with_reducible exact cin_5
      | with_reducible exact cin_6
      | with_reducible exact cin_7
      | with_reducible exact cin_8
      | with_reducible exact cin_9
      | with_reducible exact cin_10
      | with_reducible exact cin_11
      | with_reducible exact cin_12
      | with_reducible exact cin_13
      | with_reducible exact cin_14
      | with_reducible exact cin_15
      | with_reducible exact cin_16
      | with_reducible exact cin_17
      | with_reducible exact cin_18
      | with_reducible exact cin_19
      | with_reducible exact cin_20
      | with_reducible exact cin_21
      | with_reducible refine cin_22 ?_
      | with_reducible refine cin_23 ?_
      | with_reducible refine cin_24 (T := T) ?_ ?_
      | with_reducible refine cin_25 (T := T) ?_ ?_
      | with_reducible refine cin_26 (T := T) ?_ ?_
      | with_reducible refine cin_27 (T := T) ?_ ?_
      | with_reducible refine cin_28 (T := T) ?_ ?_
      | with_reducible refine cin_29 (T := T) ?_ ?_
      | with_reducible refine cin_30 (T := T) ?_ ?_
      | with_reducible refine cin_31 (T := T) ?_ ?_
      | with_reducible refine cin_32 (T := T) ?_ ?_
      | with_reducible refine cin_33 (T := T) ?_ ?_
      | with_reducible refine cin_34 (T := T) ?_ ?_
      | with_reducible refine cs_2 ?_
      | with_reducible exact vid_lt (by assumption) (by assumption)
      | with_reducible exact vp_c0
      | with_reducible exact vp_c1
      | with_reducible exact vp_c2
      | with_reducible exact vp_item (by assumption) (by assumption) (by assumption) (by assumption)
      | with_reducible exact has_vp (by assumption) (by assumption)
      | with_reducible exact dead_vp (by assumption) (by assumption)
      | with_reducible exact lw_vp (by assumption) (by assumption)
      | with_reducible refine vp_3 ?_ ?_
      | with_reducible refine vp_4 ?_ ?_
      | with_reducible refine vp_8 ?_ ?_
      | with_reducible refine vp_11 ?_ ?_
      | with_reducible refine vp_15 ?_ ?_
      | with_reducible refine vp_16 ?_ ?_
      | with_reducible refine vp_20 ?_ ?_
      | with_reducible refine vp_60 ?_ ?_
      | with_reducible refine vp_80 ?_ ?_
      | contradiction))
  | succ n ih =>
    intro j x hj 
    have hneg : ¬ nI j < 0 := nI_nn j (by omega)
    unfold wl_X10_mixedInto_14
    repeat (any_goals (first
      | with_reducible refine ⟨?_, ?_⟩
      | with_reducible rintro _ rfl
      | with_reducible intro _
      | (rw [nI_1]; refine ih (j + 1) _ (by omega))
      | with_reducible exact hK _
      | with_reducible assumption
      | with_reducible exact cin_0
      | with_reducible exact cin_1
      | with_reducible exact cin_2
      | with_reducible exact cin_3
      | with_reducible exact cin_4
      | with_reducible exact cin_5
      | with_reducible exact cin_6
      | with_reducible exact cin_7
      | with_reducible exact cin_8
      | with_reducible exact cin_9
      | with_reducible exact cin_10
      | with_reducible exact cin_11
      | with_reducible exact cin_12
      | with_reducible exact cin_13
      | with_reducible exact cin_14
      | with_reducible exact cin_15
      | with_reducible exact cin_16
      | with_reducible exact cin_17
      | with_reducible exact cin_18
      | with_reducible exact cin_19
      | with_reducible exact cin_20
      | with_reducible exact cin_21
      | with_reducible refine cin_22 ?_
      | with_reducible refine cin_23 ?_
      | with_reducible refine cin_24 (T := T) ?_ ?_
      | with_reducible refine cin_25 (T := T) ?_ ?_
      | with_reducible refine cin_26 (T := T) ?_ ?_
      | with_reducible refine cin_27 (T := T) ?_ ?_
      | with_reducible refine cin_28 (T := T) ?_ ?_
      | with_reducible refine cin_29 (T := T) ?_ ?_
      | with_reducible refine cin_30 (T := T) ?_ ?_
      | with_reducible refine cin_31 (T := T) ?_ ?_
      | with_reducible refine cin_32 (T := T) ?_ ?_
      | with_reducible refine cin_33 (T := T) ?_ ?_
      | with_reducible refine cin_34 (T := T) ?_ ?_
      | with_reducible refine cs_2 ?_
      | with_reducible exact vid_lt (by assumption) (by assumption)
      | with_reducible exact vp_c0
      | with_reducible exact vp_c1
      | with_reducible exact vp_c2
      | with_reducible exact vp_item (by assumption) (by assumption) (by assumption) (by assumption)
      | with_reducible exact has_vp (by assumption) (by assumption)
      | with_reducible exact dead_vp (by assumption) (by assumption)
      | with_reducible exact lw_vp (by assumption) (by assumption)
      | with_reducible refine vp_3 ?_ ?_
      | with_reducible refine vp_4 ?_ ?_
      | with_reducible refine vp_8 ?_ ?_
      | with_reducible refine vp_11 ?_ ?_
      | with_reducible refine vp_15 ?_ ?_
      | with_reducible refine vp_16 ?_ ?_
      | with_reducible refine vp_20 ?_ ?_
      | with_reducible refine vp_60 ?_ ?_
      | with_reducible refine vp_80 ?_ ?_
      | contradiction))

theorem sp_X10_mixedInto {S : CST} {a1 : Int64} {Post : Int64 → Prop} (h : ∀ r : Int64, Post r) : wp_X10_mixedInto S a1 Post := ⟨2147483647 + 1, lp_X10_mixedInto_14 (T := (0, 0)) h 2147483647 0 _ rfl⟩

theorem lp_X2_mixedInto_50 {S : CST} {K : Int64 → Int32 → Prop} {y : Int32} {Post : Int64 → Prop} {T : Nat × Nat} (hK : ∀ r : Int64, K r y)  : ∀ (n j : Nat) (x : Int64), j + n = 2147483647 → wl_X2_mixedInto_50 S K Post (n + 1) x y (nI j) := by
  intro n
  induction n with
  | zero =>
    intro j x hj 
    have hneg : ¬ nI j < 0 := nI_nn j (by omega)
    have hz : ∀ r : Int32, r ≤ nI j := by
      obtain rfl : j = 2147483647 := by omega
      exact z_max
    unfold wl_X2_mixedInto_50
    repeat (any_goals (first
      | with_reducible refine ⟨?_, ?_⟩
      | with_reducible rintro _ rfl
      | with_reducible intro _
      | exact absurd (hz _) (by assumption)
      | with_reducible exact hK _
      | with_reducible refine sp_X2_lengthOf (fun _ _ => ?_)
      | with_reducible refine sp_X2_itemOf  (fun _ => ?_)
      | with_reducible assumption
      | with_reducible exact cin_0
      | with_reducible exact cin_1
      | with_reducible exact cin_2
      | with_reducible exact cin_3
      | with_reducible exact cin_4
      | with_reducible exact cin_5
      | with_reducible exact cin_6
      | with_reducible exact cin_7
      | with_reducible exact cin_8
      | with_reducible exact cin_9
      | with_reducible exact cin_10
      | with_reducible exact cin_11
      | with_reducible exact cin_12
      | with_reducible exact cin_13
      | with_reducible exact cin_14
      | with_reducible exact cin_15
      | with_reducible exact cin_16
      | with_reducible exact cin_17
      | with_reducible exact cin_18
      | with_reducible exact cin_19
      | with_reducible exact cin_20
      | with_reducible exact cin_21
      | with_reducible refine cin_22 ?_
      | with_reducible refine cin_23 ?_
      | with_reducible refine cin_24 (T := T) ?_ ?_
      | with_reducible refine cin_25 (T := T) ?_ ?_
      | with_reducible refine cin_26 (T := T) ?_ ?_
      | with_reducible refine cin_27 (T := T) ?_ ?_
      | with_reducible refine cin_28 (T := T) ?_ ?_
      | with_reducible refine cin_29 (T := T) ?_ ?_
      | with_reducible refine cin_30 (T := T) ?_ ?_
      | with_reducible refine cin_31 (T := T) ?_ ?_
      | with_reducible refine cin_32 (T := T) ?_ ?_
      | with_reducible refine cin_33 (T := T) ?_ ?_
      | with_reducible refine cin_34 (T := T) ?_ ?_
      | with_reducible refine cs_2 ?_
      | with_reducible exact vid_lt (by assumption) (by assumption)
      | with_reducible exact vp_c0
      | with_reducible exact vp_c1
      | with_reducible exact vp_c2
      | with_reducible exact vp_item (by assumption) (by assumption) (by assumption) (by assumption)
      | with_reducible exact has_vp (by assumption) (by assumption)
      | with_reducible exact dead_vp (by assumption) (by assumption)
      | with_reducible exact lw_vp (by assumption) (by assumption)
      | with_reducible refine vp_3 ?_ ?_
      | with_reducible refine vp_4 ?_ ?_
      | with_reducible refine vp_8 ?_ ?_
      | with_reducible refine vp_11 ?_ ?_
      | with_reducible refine vp_15 ?_ ?_
      | with_reducible refine vp_16 ?_ ?_
      | with_reducible refine vp_20 ?_ ?_
      | with_reducible refine vp_60 ?_ ?_
      | with_reducible refine vp_80 ?_ ?_
      | contradiction))
  | succ n ih =>
    intro j x hj 
    have hneg : ¬ nI j < 0 := nI_nn j (by omega)
    unfold wl_X2_mixedInto_50
    repeat (any_goals (first
      | with_reducible refine ⟨?_, ?_⟩
      | with_reducible rintro _ rfl
      | with_reducible intro _
      | (rw [nI_1]; refine ih (j + 1) _ (by omega))
      | with_reducible exact hK _
      | with_reducible refine sp_X2_lengthOf (fun _ _ => ?_)
      | with_reducible refine sp_X2_itemOf  (fun _ => ?_)
      | with_reducible assumption
      | with_reducible exact cin_0
      | with_reducible exact cin_1
      | with_reducible exact cin_2
      | with_reducible exact cin_3
      | with_reducible exact cin_4
      | with_reducible exact cin_5
      | with_reducible exact cin_6
      | with_reducible exact cin_7
      | with_reducible exact cin_8
      | with_reducible exact cin_9
      | with_reducible exact cin_10
      | with_reducible exact cin_11
      | with_reducible exact cin_12
      | with_reducible exact cin_13
      | with_reducible exact cin_14
      | with_reducible exact cin_15
      | with_reducible exact cin_16
      | with_reducible exact cin_17
      | with_reducible exact cin_18
      | with_reducible exact cin_19
      | with_reducible exact cin_20
      | with_reducible exact cin_21
      | with_reducible refine cin_22 ?_
      | with_reducible refine cin_23 ?_
      | with_reducible refine cin_24 (T := T) ?_ ?_
      | with_reducible refine cin_25 (T := T) ?_ ?_
      | with_reducible refine cin_26 (T := T) ?_ ?_
      | with_reducible refine cin_27 (T := T) ?_ ?_
      | with_reducible refine cin_28 (T := T) ?_ ?_
      | with_reducible refine cin_29 (T := T) ?_ ?_
      | with_reducible refine cin_30 (T := T) ?_ ?_
      | with_reducible refine cin_31 (T := T) ?_ ?_
      | with_reducible refine cin_32 (T := T) ?_ ?_
      | with_reducible refine cin_33 (T := T) ?_ ?_
      | with_reducible refine cin_34 (T := T) ?_ ?_
      | with_reducible refine cs_2 ?_
      | with_reducible exact vid_lt (by assumption) (by assumption)
      | with_reducible exact vp_c0
      | with_reducible exact vp_c1
      | with_reducible exact vp_c2
      | with_reducible exact vp_item (by assumption) (by assumption) (by assumption) (by assumption)
      | with_reducible exact has_vp (by assumption) (by assumption)
      | with_reducible exact dead_vp (by assumption) (by assumption)
      | with_reducible exact lw_vp (by assumption) (by assumption)
      | with_reducible refine vp_3 ?_ ?_
      | with_reducible refine vp_4 ?_ ?_
      | with_reducible refine vp_8 ?_ ?_
      | with_reducible refine vp_11 ?_ ?_
      | with_reducible refine vp_15 ?_ ?_
      | with_reducible refine vp_16 ?_ ?_
      | with_reducible refine vp_20 ?_ ?_
      | with_reducible refine vp_60 ?_ ?_
      | with_reducible refine vp_80 ?_ ?_
      | contradiction))

theorem lp_X2_mixedInto_29 {S : CST} {K : Int64 → Prop} {Post : Int64 → Prop} {T : Nat × Nat} (hK : ∀ r : Int64, K r)  : ∀ (n j : Nat) (x : Int64), j + n = 2147483647 → wl_X2_mixedInto_29 S K Post (n + 1) x (nI j) := by
  intro n
  induction n with
  | zero =>
    intro j x hj 
    have hneg : ¬ nI j < 0 := nI_nn j (by omega)
    have hz : ∀ r : Int32, r ≤ nI j := by
      obtain rfl : j = 2147483647 := by omega
      exact z_max
    unfold wl_X2_mixedInto_29
    repeat (any_goals (first
      | with_reducible refine ⟨?_, ?_⟩
      | with_reducible rintro _ rfl
      | with_reducible intro _
      | exact absurd (hz _) (by assumption)
      | with_reducible exact hK _
      | with_reducible refine sp_X2_lengthOf (fun _ _ => ?_)
      | with_reducible assumption
      | with_reducible exact cin_0
      | with_reducible exact cin_1
      | with_reducible exact cin_2
      | with_reducible exact cin_3
      | with_reducible exact cin_4
      | with_reducible exact cin_5
      | with_reducible exact cin_6
      | with_reducible exact cin_7
      | with_reducible exact cin_8
      | with_reducible exact cin_9
      | with_reducible exact cin_10
      | with_reducible exact cin_11
      | with_reducible exact cin_12
      | with_reducible exact cin_13
      | with_reducible exact cin_14
      | with_reducible exact cin_15
      | with_reducible exact cin_16
      | with_reducible exact cin_17
      | with_reducible exact cin_18
      | with_reducible exact cin_19
      | with_reducible exact cin_20
      | with_reducible exact cin_21
      | with_reducible refine cin_22 ?_
      | with_reducible refine cin_23 ?_
      | with_reducible refine cin_24 (T := T) ?_ ?_
      | with_reducible refine cin_25 (T := T) ?_ ?_
      | with_reducible refine cin_26 (T := T) ?_ ?_
      | with_reducible refine cin_27 (T := T) ?_ ?_
      | with_reducible refine cin_28 (T := T) ?_ ?_
      | with_reducible refine cin_29 (T := T) ?_ ?_
      | with_reducible refine cin_30 (T := T) ?_ ?_
      | with_reducible refine cin_31 (T := T) ?_ ?_
      | with_reducible refine cin_32 (T := T) ?_ ?_
      | with_reducible refine cin_33 (T := T) ?_ ?_
      | with_reducible refine cin_34 (T := T) ?_ ?_
      | with_reducible refine cs_2 ?_
      | with_reducible exact vid_lt (by assumption) (by assumption)
      | with_reducible exact vp_c0
      | with_reducible exact vp_c1
      | with_reducible exact vp_c2
      | with_reducible exact vp_item (by assumption) (by assumption) (by assumption) (by assumption)
      | with_reducible exact has_vp (by assumption) (by assumption)
      | with_reducible exact dead_vp (by assumption) (by assumption)
      | with_reducible exact lw_vp (by assumption) (by assumption)
      | with_reducible refine vp_3 ?_ ?_
      | with_reducible refine vp_4 ?_ ?_
      | with_reducible refine vp_8 ?_ ?_
      | with_reducible refine vp_11 ?_ ?_
      | with_reducible refine vp_15 ?_ ?_
      | with_reducible refine vp_16 ?_ ?_
      | with_reducible refine vp_20 ?_ ?_
      | with_reducible refine vp_60 ?_ ?_
      | with_reducible refine vp_80 ?_ ?_
      | contradiction))
  | succ n ih =>
    intro j x hj 
    have hneg : ¬ nI j < 0 := nI_nn j (by omega)
    unfold wl_X2_mixedInto_29
    repeat (any_goals (first
      | (refine ⟨2147483647 + 1, lp_X2_mixedInto_50 (T := T) (fun r => ?_) 2147483647 0 _ rfl⟩)
      | with_reducible refine ⟨?_, ?_⟩
      | with_reducible rintro _ rfl
      | with_reducible intro _
      | (rw [nI_1]; refine ih (j + 1) _ (by omega))
      | with_reducible exact hK _
      | with_reducible refine sp_X2_lengthOf (fun _ _ => ?_)
      | with_reducible assumption
      | with_reducible exact cin_0
      | with_reducible exact cin_1
      | with_reducible exact cin_2
      | with_reducible exact cin_3
      | with_reducible exact cin_4
      | with_reducible exact cin_5
      | with_reducible exact cin_6
      | with_reducible exact cin_7
      | with_reducible exact cin_8
      | with_reducible exact cin_9
      | with_reducible exact cin_10
      | with_reducible exact cin_11
      | with_reducible exact cin_12
      | with_reducible exact cin_13
      | with_reducible exact cin_14
      | with_reducible exact cin_15
      | with_reducible exact cin_16
      | with_reducible exact cin_17
      | with_reducible exact cin_18
      | with_reducible exact cin_19
      | with_reducible exact cin_20
      | with_reducible exact cin_21
      | with_reducible refine cin_22 ?_
      | with_reducible refine cin_23 ?_
      | with_reducible refine cin_24 (T := T) ?_ ?_
      | with_reducible refine cin_25 (T := T) ?_ ?_
      | with_reducible refine cin_26 (T := T) ?_ ?_
      | with_reducible refine cin_27 (T := T) ?_ ?_
      | with_reducible refine cin_28 (T := T) ?_ ?_
      | with_reducible refine cin_29 (T := T) ?_ ?_
      | with_reducible refine cin_30 (T := T) ?_ ?_
      | with_reducible refine cin_31 (T := T) ?_ ?_
      | with_reducible refine cin_32 (T := T) ?_ ?_
      | with_reducible refine cin_33 (T := T) ?_ ?_
      | with_reducible refine cin_34 (T := T) ?_ ?_
      | with_reducible refine cs_2 ?_
      | with_reducible exact vid_lt (by assumption) (by assumption)
      | with_reducible exact vp_c0
      | with_reducible exact vp_c1
      | with_reducible exact vp_c2
      | with_reducible exact vp_item (by assumption) (by assumption) (by assumption) (by assumption)
      | with_reducible exact has_vp (by assumption) (by assumption)
      | with_reducible exact dead_vp (by assumption) (by assumption)
      | with_reducible exact lw_vp (by assumption) (by assumption)
      | with_reducible refine vp_3 ?_ ?_
      | with_reducible refine vp_4 ?_ ?_
      | with_reducible refine vp_8 ?_ ?_
      | with_reducible refine vp_11 ?_ ?_
      | with_reducible refine vp_15 ?_ ?_
      | with_reducible refine vp_16 ?_ ?_
      | with_reducible refine vp_20 ?_ ?_
      | with_reducible refine vp_60 ?_ ?_
      | with_reducible refine vp_80 ?_ ?_
      | contradiction))

theorem lp_X2_mixedInto_2 {S : CST} {K : Int64 → Prop} {Post : Int64 → Prop} {T : Nat × Nat} (hK : ∀ r : Int64, K r)  : ∀ (n j : Nat) (x : Int64), j + n = 2147483647 → wl_X2_mixedInto_2 S K Post (n + 1) x (nI j) := by
  intro n
  induction n with
  | zero =>
    intro j x hj 
    have hneg : ¬ nI j < 0 := nI_nn j (by omega)
    have hz : ∀ r : Int32, r ≤ nI j := by
      obtain rfl : j = 2147483647 := by omega
      exact z_max
    unfold wl_X2_mixedInto_2
    repeat (any_goals (first
      | with_reducible refine ⟨?_, ?_⟩
      | with_reducible rintro _ rfl
      | with_reducible intro _
      | exact absurd (hz _) (by assumption)
      | with_reducible exact hK _
      | with_reducible refine sp_X2_valueOf  (fun _ => ?_)
      | with_reducible assumption
      | with_reducible exact cin_0
      | with_reducible exact cin_1
      | with_reducible exact cin_2
      | with_reducible exact cin_3
      | with_reducible exact cin_4
      | with_reducible exact cin_5
      | with_reducible exact cin_6
      | with_reducible exact cin_7
      | with_reducible exact cin_8
      | with_reducible exact cin_9
      | with_reducible exact cin_10
      | with_reducible exact cin_11
      | with_reducible exact cin_12
      | with_reducible exact cin_13
      | with_reducible exact cin_14
      | with_reducible exact cin_15
      | with_reducible exact cin_16
      | with_reducible exact cin_17
      | with_reducible exact cin_18
      | with_reducible exact cin_19
      | with_reducible exact cin_20
      | with_reducible exact cin_21
      | with_reducible refine cin_22 ?_
      | with_reducible refine cin_23 ?_
      | with_reducible refine cin_24 (T := T) ?_ ?_
      | with_reducible refine cin_25 (T := T) ?_ ?_
      | with_reducible refine cin_26 (T := T) ?_ ?_
      | with_reducible refine cin_27 (T := T) ?_ ?_
      | with_reducible refine cin_28 (T := T) ?_ ?_
      | with_reducible refine cin_29 (T := T) ?_ ?_
      | with_reducible refine cin_30 (T := T) ?_ ?_
      | with_reducible refine cin_31 (T := T) ?_ ?_
      | with_reducible refine cin_32 (T := T) ?_ ?_
      | with_reducible refine cin_33 (T := T) ?_ ?_
      | with_reducible refine cin_34 (T := T) ?_ ?_
      | with_reducible refine cs_2 ?_
      | with_reducible exact vid_lt (by assumption) (by assumption)
      | with_reducible exact vp_c0
      | with_reducible exact vp_c1
      | with_reducible exact vp_c2
      | with_reducible exact vp_item (by assumption) (by assumption) (by assumption) (by assumption)
      | with_reducible exact has_vp (by assumption) (by assumption)
      | with_reducible exact dead_vp (by assumption) (by assumption)
      | with_reducible exact lw_vp (by assumption) (by assumption)
      | with_reducible refine vp_3 ?_ ?_
      | with_reducible refine vp_4 ?_ ?_
      | with_reducible refine vp_8 ?_ ?_
      | with_reducible refine vp_11 ?_ ?_
      | with_reducible refine vp_15 ?_ ?_
      | with_reducible refine vp_16 ?_ ?_
      | with_reducible refine vp_20 ?_ ?_
      | with_reducible refine vp_60 ?_ ?_
      | with_reducible refine vp_80 ?_ ?_
      | contradiction))
  | succ n ih =>
    intro j x hj 
    have hneg : ¬ nI j < 0 := nI_nn j (by omega)
    unfold wl_X2_mixedInto_2
    repeat (any_goals (first
      | with_reducible refine ⟨?_, ?_⟩
      | with_reducible rintro _ rfl
      | with_reducible intro _
      | (rw [nI_1]; refine ih (j + 1) _ (by omega))
      | with_reducible exact hK _
      | with_reducible refine sp_X2_valueOf  (fun _ => ?_)
      | with_reducible assumption
      | with_reducible exact cin_0
      | with_reducible exact cin_1
      | with_reducible exact cin_2
      | with_reducible exact cin_3
      | with_reducible exact cin_4
      | with_reducible exact cin_5
      | with_reducible exact cin_6
      | with_reducible exact cin_7
      | with_reducible exact cin_8
      | with_reducible exact cin_9
      | with_reducible exact cin_10
      | with_reducible exact cin_11
      | with_reducible exact cin_12
      | with_reducible exact cin_13
      | with_reducible exact cin_14
      | with_reducible exact cin_15
      | with_reducible exact cin_16
      | with_reducible exact cin_17
      | with_reducible exact cin_18
      | with_reducible exact cin_19
      | with_reducible exact cin_20
      | with_reducible exact cin_21
      | with_reducible refine cin_22 ?_
      | with_reducible refine cin_23 ?_
      | with_reducible refine cin_24 (T := T) ?_ ?_
      | with_reducible refine cin_25 (T := T) ?_ ?_
      | with_reducible refine cin_26 (T := T) ?_ ?_
      | with_reducible refine cin_27 (T := T) ?_ ?_
      | with_reducible refine cin_28 (T := T) ?_ ?_
      | with_reducible refine cin_29 (T := T) ?_ ?_
      | with_reducible refine cin_30 (T := T) ?_ ?_
      | with_reducible refine cin_31 (T := T) ?_ ?_
      | with_reducible refine cin_32 (T := T) ?_ ?_
      | with_reducible refine cin_33 (T := T) ?_ ?_
      | with_reducible refine cin_34 (T := T) ?_ ?_
      | with_reducible refine cs_2 ?_
      | with_reducible exact vid_lt (by assumption) (by assumption)
      | with_reducible exact vp_c0
      | with_reducible exact vp_c1
      | with_reducible exact vp_c2
      | with_reducible exact vp_item (by assumption) (by assumption) (by assumption) (by assumption)
      | with_reducible exact has_vp (by assumption) (by assumption)
      | with_reducible exact dead_vp (by assumption) (by assumption)
      | with_reducible exact lw_vp (by assumption) (by assumption)
      | with_reducible refine vp_3 ?_ ?_
      | with_reducible refine vp_4 ?_ ?_
      | with_reducible refine vp_8 ?_ ?_
      | with_reducible refine vp_11 ?_ ?_
      | with_reducible refine vp_15 ?_ ?_
      | with_reducible refine vp_16 ?_ ?_
      | with_reducible refine vp_20 ?_ ?_
      | with_reducible refine vp_60 ?_ ?_
      | with_reducible refine vp_80 ?_ ?_
      | contradiction))

theorem sp_X2_mixedInto {S : CST} {a1 : Int64} {Post : Int64 → Prop} (h : ∀ r : Int64, Post r) : wp_X2_mixedInto S a1 Post := ⟨2147483647 + 1, lp_X2_mixedInto_2 (T := (0, 0)) (fun _ => ⟨2147483647 + 1, lp_X2_mixedInto_29 (T := (0, 0)) h 2147483647 0 _ rfl⟩) 2147483647 0 _ rfl⟩

