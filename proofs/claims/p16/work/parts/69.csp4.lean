/-! a call's frame: its METHOD is there; its code too -/
def FrV (S : CST) (i : Nat) (T : Nat × Nat) : Prop := ¬ cv S 220 i 0 < 0 ∧ (cv S 220 i 0).toNatClampNeg < T.1
theorem FrV.ex {L : List Nat} {S S' : CST} {i : Nat} {T : Nat × Nat} (h : FrV S i T) (e : Ex L S S') (hL : L.contains 220 = false) : FrV S' i T := by unfold FrV; rw [e.2 220 hL]; exact h
theorem FrV_cs {S : CST} {k i i' : Nat} {T : Nat × Nat} {g : Nat → Int32} (h : FrV S i T) (hk : (k == 220) = false) : FrV (cs S k i' g) i T := FrV.ex (L := [k]) h (Ex.cs (by simp) Ex.rf) (by simp at hk ⊢; omega)
theorem sp_X7_endByTrap {S : CST} {i1 : Nat} {a2 a3 : Int32} {T : Nat × Nat} {Post : CST → Prop} (hT : S.2 = T) (hi : i1 < 16) (hF : FrV S i1 T) (h : ∀ S' : CST, S'.2 = T → Ex [127, 210] S S' → Post S') : wp_X7_endByTrap S i1 a2 a3 Post := by
  unfold wp_X7_endByTrap
  intro S2 e2
  have hT2 : S2.2 = T := by rw [e2]; exact hT
  have hF2 : FrV S2 i1 T := by rw [e2]; exact FrV_cs hF (by decide)
  have hE2 : Ex [127, 210] S S2 := by rw [e2]; exact Ex.cs (by decide) Ex.rf
  exact ⟨cin_22 hi, fun c => absurd c hF2.1, fun _ => ⟨cin_24 hT2 hF2.2, sp_X10_noteTrap hT2 (fun S3 hT3 e3 => h S3 hT3 (Ex.step e3 (by decide) hE2))⟩⟩
def CdV (S : CST) (i : Nat) (T : Nat × Nat) : Prop := ¬ cv S 221 i 0 < 0 ∧ (cv S 221 i 0).toNatClampNeg < T.2 ∧ CodeL S (cv S 221 i 0).toNatClampNeg
theorem CdV.ex {L : List Nat} {S S' : CST} {i : Nat} {T : Nat × Nat} (h : CdV S i T) (e : Ex L S S') (hL : (L.contains 221 || L.contains 339 || L.contains 349) = false) : CdV S' i T := by
  have h1 : L.contains 221 = false := by cases hc : L.contains 221 <;> simp_all
  have h2 : L.contains 339 = false := by cases hc : L.contains 339 <;> simp_all
  have h3 : L.contains 349 = false := by cases hc : L.contains 349 <;> simp_all
  unfold CdV CodeL
  simp only [e.2 221 h1, e.2 339 h2, e.2 349 h3]
  exact h
theorem sp_X7_goTo {S : CST} {i1 : Nat} {a2 a3 : Int32} {T : Nat × Nat} {Post : CST → Prop} (hT : S.2 = T) (hi : i1 < 16) (hC : CdV S i1 T) (h : ∀ S' : CST, S'.2 = T → Ex [127, 201, 222] S S' → Post S') : wp_X7_goTo S i1 a2 a3 Post := by
  unfold wp_X7_goTo
  refine ⟨fun _ => ⟨cin_22 hi, fun c => absurd c hC.1, fun _ => ⟨cin_32 hT hC.2.1, sp_X1_startOf hT hC.2.1 hC.2.2 (fun r => ⟨cin_22 hi, fun S7 e7 => h S7 (by rw [e7]; exact hT) (by rw [e7]; exact Ex.cs (by decide) Ex.rf)⟩)⟩⟩, fun _ => sp_X7_stepOn hT (fun S9 hT9 e9 => ?_)⟩
  have hC9 := hC.ex e9 (by decide)
  exact ⟨cin_22 hi, fun c => absurd c hC9.1, fun _ => ⟨cin_32 hT9 hC9.2.1, sp_X1_startOf hT9 hC9.2.1 hC9.2.2 (fun r => ⟨cin_22 hi, fun S7 e7 => h S7 (by rw [e7]; exact hT9) (by rw [e7]; exact Ex.cs (by decide) (Ex.step e9 (by decide) Ex.rf))⟩)⟩⟩

theorem sp_X7_newRow {S : CST} {i1 : Nat} {a2 : Int32} {a3 : Int32} {a4 : Int32} {T : Nat × Nat} {Post : CST → Prop} (hT : S.2 = T) (hi : i1 < 16) (hF : FrV S i1 T) (h : ∀ (S' : CST), S'.2 = T → Ex [50, 60, 127, 210] S S' → Post S') : wp_X7_newRow S i1 a2 a3 a4 Post := by
  unfold wp_X7_newRow
  repeat (any_goals (first
    | with_reducible refine ⟨?_, ?_⟩
    | with_reducible rintro _ rfl
    | with_reducible intro _
    | (refine h _ (by assumption) (by (repeat (first | with_reducible exact Ex.rf | with_reducible assumption | with_reducible refine Ex.cs (by decide) ?_ | with_reducible refine Ex.step (by assumption) (by decide) ?_)); done))
    | ((repeat (first | with_reducible assumption | with_reducible refine FrV_cs ?_ (by decide) | with_reducible refine FrV.ex ?_ (by assumption) rfl)); done)
    | with_reducible refine sp_X2_renew (T := T) ?_ (fun _ _ _ => ?_)
    | with_reducible refine sp_X7_endByTrap (T := T) ?_ ?_ ?_ (fun _ _ _ => ?_)
    | with_reducible assumption
    | with_reducible exact cin_0
    | with_reducible exact cin_1
    | with_reducible exact cin_2
    | with_reducible exact cin_3
    | with_reducible exact cin_4
    | with_reducible exact cin_5
    | with_reducible exact cin_6
    | with_reducible exact cin_7
    | with_reducible exact cin_8
    | with_reducible exact cin_9
    | with_reducible exact cin_10
    | with_reducible exact cin_11
    | with_reducible exact cin_12
    | with_reducible exact cin_13
    | with_reducible exact cin_14
    | with_reducible exact cin_15
    | with_reducible exact cin_16
    | with_reducible exact cin_17
    | with_reducible exact cin_18
    | with_reducible exact cin_19
    | with_reducible exact cin_20
    | with_reducible exact cin_21
    | with_reducible refine cin_22 ?_
    | with_reducible refine cin_23 ?_
    | with_reducible refine cin_24 (T := T) ?_ ?_
    | with_reducible refine cin_25 (T := T) ?_ ?_
    | with_reducible refine cin_26 (T := T) ?_ ?_
    | with_reducible refine cin_27 (T := T) ?_ ?_
    | with_reducible refine cin_28 (T := T) ?_ ?_
    | with_reducible refine cin_29 (T := T) ?_ ?_
    | with_reducible refine cin_30 (T := T) ?_ ?_
    | with_reducible refine cin_31 (T := T) ?_ ?_
    | with_reducible refine cin_32 (T := T) ?_ ?_
    | with_reducible refine cin_33 (T := T) ?_ ?_
    | with_reducible refine cin_34 (T := T) ?_ ?_
    | with_reducible refine cs_2 ?_
    | with_reducible exact vid_lt (by assumption) (by assumption)
    | with_reducible exact vp_c0
    | with_reducible exact vp_c1
    | with_reducible exact vp_c2
    | with_reducible exact vp_item (by assumption) (by assumption) (by assumption) (by assumption)
    | with_reducible exact has_vp (by assumption) (by assumption)
    | with_reducible exact dead_vp (by assumption) (by assumption)
    | with_reducible exact lw_vp (by assumption) (by assumption)
    | with_reducible refine vp_3 ?_ ?_
    | with_reducible refine vp_4 ?_ ?_
    | with_reducible refine vp_8 ?_ ?_
    | with_reducible refine vp_11 ?_ ?_
    | with_reducible refine vp_15 ?_ ?_
    | with_reducible refine vp_16 ?_ ?_
    | with_reducible refine vp_20 ?_ ?_
    | with_reducible refine vp_60 ?_ ?_
    | with_reducible refine vp_80 ?_ ?_
    | contradiction))

theorem sp_X7_isThere {S : CST} {i1 : Nat} {a2 : Int32} {a3 : Int32} {a4 : Int32} {T : Nat × Nat} {Post : CST → Int32 → Prop} (hT : S.2 = T) (hi : i1 < 16) (hF : FrV S i1 T) (h : ∀ (S' : CST) (r : Int32), S'.2 = T → Ex [127, 210] S S' → Post S' r) : wp_X7_isThere S i1 a2 a3 a4 Post := by
  unfold wp_X7_isThere
  repeat (any_goals (first
    | with_reducible refine ⟨?_, ?_⟩
    | with_reducible rintro _ rfl
    | with_reducible intro _
    | (refine h _ _ (by assumption) (by (repeat (first | with_reducible exact Ex.rf | with_reducible assumption | with_reducible refine Ex.cs (by decide) ?_ | with_reducible refine Ex.step (by assumption) (by decide) ?_)); done))
    | ((repeat (first | with_reducible assumption | with_reducible refine FrV_cs ?_ (by decide) | with_reducible refine FrV.ex ?_ (by assumption) rfl)); done)
    | with_reducible refine sp_X2_lengthOf (fun _ _ => ?_)
    | with_reducible refine sp_X7_endByTrap (T := T) ?_ ?_ ?_ (fun _ _ _ => ?_)
    | with_reducible assumption
    | with_reducible exact cin_0
    | with_reducible exact cin_1
    | with_reducible exact cin_2
    | with_reducible exact cin_3
    | with_reducible exact cin_4
    | with_reducible exact cin_5
    | with_reducible exact cin_6
    | with_reducible exact cin_7
    | with_reducible exact cin_8
    | with_reducible exact cin_9
    | with_reducible exact cin_10
    | with_reducible exact cin_11
    | with_reducible exact cin_12
    | with_reducible exact cin_13
    | with_reducible exact cin_14
    | with_reducible exact cin_15
    | with_reducible exact cin_16
    | with_reducible exact cin_17
    | with_reducible exact cin_18
    | with_reducible exact cin_19
    | with_reducible exact cin_20
    | with_reducible exact cin_21
    | with_reducible refine cin_22 ?_
    | with_reducible refine cin_23 ?_
    | with_reducible refine cin_24 (T := T) ?_ ?_
    | with_reducible refine cin_25 (T := T) ?_ ?_
    | with_reducible refine cin_26 (T := T) ?_ ?_
    | with_reducible refine cin_27 (T := T) ?_ ?_
    | with_reducible refine cin_28 (T := T) ?_ ?_
    | with_reducible refine cin_29 (T := T) ?_ ?_
    | with_reducible refine cin_30 (T := T) ?_ ?_
    | with_reducible refine cin_31 (T := T) ?_ ?_
    | with_reducible refine cin_32 (T := T) ?_ ?_
    | with_reducible refine cin_33 (T := T) ?_ ?_
    | with_reducible refine cin_34 (T := T) ?_ ?_
    | with_reducible refine cs_2 ?_
    | with_reducible exact vid_lt (by assumption) (by assumption)
    | with_reducible exact vp_c0
    | with_reducible exact vp_c1
    | with_reducible exact vp_c2
    | with_reducible exact vp_item (by assumption) (by assumption) (by assumption) (by assumption)
    | with_reducible exact has_vp (by assumption) (by assumption)
    | with_reducible exact dead_vp (by assumption) (by assumption)
    | with_reducible exact lw_vp (by assumption) (by assumption)
    | with_reducible refine vp_3 ?_ ?_
    | with_reducible refine vp_4 ?_ ?_
    | with_reducible refine vp_8 ?_ ?_
    | with_reducible refine vp_11 ?_ ?_
    | with_reducible refine vp_15 ?_ ?_
    | with_reducible refine vp_16 ?_ ?_
    | with_reducible refine vp_20 ?_ ?_
    | with_reducible refine vp_60 ?_ ?_
    | with_reducible refine vp_80 ?_ ?_
    | contradiction))

theorem sp_X7_giveBack {S : CST} {i1 : Nat} {a2 : Int32} {T : Nat × Nat} {Post : CST → Prop} (hT : S.2 = T) (hi : i1 < 16) (h : ∀ (S' : CST), S'.2 = T → Ex [126, 127, 205, 230] S S' → Post S') : wp_X7_giveBack S i1 a2 Post := by
  unfold wp_X7_giveBack
  repeat (any_goals (first
    | with_reducible refine ⟨?_, ?_⟩
    | with_reducible rintro _ rfl
    | with_reducible intro _
    | (refine h _ (by assumption) (by (repeat (first | with_reducible exact Ex.rf | with_reducible assumption | with_reducible refine Ex.cs (by decide) ?_ | with_reducible refine Ex.step (by assumption) (by decide) ?_)); done))
    | with_reducible refine sp_X7_latestFrame (fun _ _ => ?_)
    | with_reducible refine sp_X4_put (T := T) ?_ ?_ (fun _ _ _ => ?_)
    | with_reducible assumption
    | with_reducible exact cin_0
    | with_reducible exact cin_1
    | with_reducible exact cin_2
    | with_reducible exact cin_3
    | with_reducible exact cin_4
    | with_reducible exact cin_5
    | with_reducible exact cin_6
    | with_reducible exact cin_7
    | with_reducible exact cin_8
    | with_reducible exact cin_9
    | with_reducible exact cin_10
    | with_reducible exact cin_11
    | with_reducible exact cin_12
    | with_reducible exact cin_13
    | with_reducible exact cin_14
    | with_reducible exact cin_15
    | with_reducible exact cin_16
    | with_reducible exact cin_17
    | with_reducible exact cin_18
    | with_reducible exact cin_19
    | with_reducible exact cin_20
    | with_reducible exact cin_21
    | with_reducible refine cin_22 ?_
    | with_reducible refine cin_23 ?_
    | with_reducible refine cin_24 (T := T) ?_ ?_
    | with_reducible refine cin_25 (T := T) ?_ ?_
    | with_reducible refine cin_26 (T := T) ?_ ?_
    | with_reducible refine cin_27 (T := T) ?_ ?_
    | with_reducible refine cin_28 (T := T) ?_ ?_
    | with_reducible refine cin_29 (T := T) ?_ ?_
    | with_reducible refine cin_30 (T := T) ?_ ?_
    | with_reducible refine cin_31 (T := T) ?_ ?_
    | with_reducible refine cin_32 (T := T) ?_ ?_
    | with_reducible refine cin_33 (T := T) ?_ ?_
    | with_reducible refine cin_34 (T := T) ?_ ?_
    | with_reducible refine cs_2 ?_
    | with_reducible exact vid_lt (by assumption) (by assumption)
    | with_reducible exact vp_c0
    | with_reducible exact vp_c1
    | with_reducible exact vp_c2
    | with_reducible exact vp_item (by assumption) (by assumption) (by assumption) (by assumption)
    | with_reducible exact has_vp (by assumption) (by assumption)
    | with_reducible exact dead_vp (by assumption) (by assumption)
    | with_reducible exact lw_vp (by assumption) (by assumption)
    | with_reducible refine vp_3 ?_ ?_
    | with_reducible refine vp_4 ?_ ?_
    | with_reducible refine vp_8 ?_ ?_
    | with_reducible refine vp_11 ?_ ?_
    | with_reducible refine vp_15 ?_ ?_
    | with_reducible refine vp_16 ?_ ?_
    | with_reducible refine vp_20 ?_ ?_
    | with_reducible refine vp_60 ?_ ?_
    | with_reducible refine vp_80 ?_ ?_
    | contradiction))

theorem sp_X7_turnThatMayTrap {S : CST} {i1 : Nat} {a2 : Int32} {a3 : Int32} {a4 : Int32} {a5 : Int32} {a6 : Int32} {T : Nat × Nat} {Post : CST → Prop} (hT : S.2 = T) (hi : i1 < 16) (hF : FrV S i1 T) (h : ∀ (S' : CST), S'.2 = T → Ex [50, 60, 127, 210, 230] S S' → Post S') : wp_X7_turnThatMayTrap S i1 a2 a3 a4 a5 a6 Post := by
  unfold wp_X7_turnThatMayTrap
  repeat (any_goals (first
    | with_reducible refine ⟨?_, ?_⟩
    | with_reducible rintro _ rfl
    | with_reducible intro _
    | (refine h _ (by assumption) (by (repeat (first | with_reducible exact Ex.rf | with_reducible assumption | with_reducible refine Ex.cs (by decide) ?_ | with_reducible refine Ex.step (by assumption) (by decide) ?_)); done))
    | ((repeat (first | with_reducible assumption | with_reducible refine FrV_cs ?_ (by decide) | with_reducible refine FrV.ex ?_ (by assumption) rfl)); done)
    | with_reducible refine sp_X4_valueOf (T := T) ?_ ?_ (fun _ => ?_)
    | with_reducible refine sp_X11_reckoned (fun _ => ?_)
    | with_reducible refine sp_X4_put (T := T) ?_ ?_ (fun _ _ _ => ?_)
    | with_reducible refine sp_X7_endByTrap (T := T) ?_ ?_ ?_ (fun _ _ _ => ?_)
    | with_reducible refine sp_X7_newRow (T := T) ?_ ?_ ?_ (fun _ _ _ => ?_)
    | with_reducible refine sp_X7_isThere (T := T) ?_ ?_ ?_ (fun _ _ _ _ => ?_)
    | with_reducible refine sp_X2_itemOf  (fun _ => ?_)
    | with_reducible refine sp_X2_putItem (T := T) ?_ (fun _ _ _ => ?_)
    | with_reducible assumption
    | with_reducible exact cin_0
    | with_reducible exact cin_1
    | with_reducible exact cin_2
    | with_reducible exact cin_3
    | with_reducible exact cin_4
    | with_reducible exact cin_5
    | with_reducible exact cin_6
    | with_reducible exact cin_7
    | with_reducible exact cin_8
    | with_reducible exact cin_9
    | with_reducible exact cin_10
    | with_reducible exact cin_11
    | with_reducible exact cin_12
    | with_reducible exact cin_13
    | with_reducible exact cin_14
    | with_reducible exact cin_15
    | with_reducible exact cin_16
    | with_reducible exact cin_17
    | with_reducible exact cin_18
    | with_reducible exact cin_19
    | with_reducible exact cin_20
    | with_reducible exact cin_21
    | with_reducible refine cin_22 ?_
    | with_reducible refine cin_23 ?_
    | with_reducible refine cin_24 (T := T) ?_ ?_
    | with_reducible refine cin_25 (T := T) ?_ ?_
    | with_reducible refine cin_26 (T := T) ?_ ?_
    | with_reducible refine cin_27 (T := T) ?_ ?_
    | with_reducible refine cin_28 (T := T) ?_ ?_
    | with_reducible refine cin_29 (T := T) ?_ ?_
    | with_reducible refine cin_30 (T := T) ?_ ?_
    | with_reducible refine cin_31 (T := T) ?_ ?_
    | with_reducible refine cin_32 (T := T) ?_ ?_
    | with_reducible refine cin_33 (T := T) ?_ ?_
    | with_reducible refine cin_34 (T := T) ?_ ?_
    | with_reducible refine cs_2 ?_
    | with_reducible exact vid_lt (by assumption) (by assumption)
    | with_reducible exact vp_c0
    | with_reducible exact vp_c1
    | with_reducible exact vp_c2
    | with_reducible exact vp_item (by assumption) (by assumption) (by assumption) (by assumption)
    | with_reducible exact has_vp (by assumption) (by assumption)
    | with_reducible exact dead_vp (by assumption) (by assumption)
    | with_reducible exact lw_vp (by assumption) (by assumption)
    | with_reducible refine vp_3 ?_ ?_
    | with_reducible refine vp_4 ?_ ?_
    | with_reducible refine vp_8 ?_ ?_
    | with_reducible refine vp_11 ?_ ?_
    | with_reducible refine vp_15 ?_ ?_
    | with_reducible refine vp_16 ?_ ?_
    | with_reducible refine vp_20 ?_ ?_
    | with_reducible refine vp_60 ?_ ?_
    | with_reducible refine vp_80 ?_ ?_
    | contradiction))

theorem sp_X7_call {S : CST} {i1 : Nat} {a2 a3 a4 : Int32} {T : Nat × Nat} {Post : CST → Prop} (hT : S.2 = T) (hi : i1 < 16) (hF : FrV S i1 T) (h : ∀ S' : CST, S'.2 = T → Ex [127, 128, 129, 140, 210] S S' → Post S') : wp_X7_call S i1 a2 a3 a4 Post := by
  unfold wp_X7_call
  refine ⟨fun _ S4 e4 S6 e6 => ⟨2147483647 + 1, ?_⟩, fun _ => sp_X7_endByTrap hT hi hF (fun S' hT' e => h S' hT' (Ex.step e (by decide) Ex.rf))⟩
  have hT6 : S6.2 = T := by rw [e6, e4]; exact hT
  have hE6 : Ex [127, 128, 129, 140, 210] S S6 := by rw [e6, e4]; exact Ex.cs (by decide) (Ex.cs (by decide) Ex.rf)
  exact lp_X7_call_32 hi (fun S' hT' e => h S' hT' (Ex.step e (by decide) hE6)) 2147483647 0 S6 rfl hT6 Ex.rf
theorem sp_X5_markVarying {S : CST} {i : Nat} {a1 : Int32} {T : Nat × Nat} {Post : CST → Prop} (hT : S.2 = T) (hi : i < T.1) (h : ∀ S' : CST, S'.2 = T → Ex [310] S S' → (∀ y t : Nat, ¬ cv S 310 y t = 0 → ¬ cv S' 310 y t = 0) → (∀ t : Nat, t < 11 → a1 = nI t → ¬ cv S' 310 i t = 0) → Post S') : wp_X5_markVarying S i a1 Post := by
  unfold wp_X5_markVarying
  refine ⟨fun c => h S hT Ex.rf (fun _ _ q => q) (fun t ht e => absurd c (by rw [e]; exact nI_nn t (by omega))), fun c1 => ⟨fun c => h S hT Ex.rf (fun _ _ q => q) (fun t ht e => absurd c (by rw [e]; exact nI_ge (b := 11) (by omega) (by omega))), fun c2 => ⟨cin_28 hT hi, cin_31 hT hi, vp_11 c1 c2, fun S5 e5 => ?_⟩⟩⟩
  refine h S5 (by rw [e5]; exact hT) (by rw [e5]; exact Ex.cs (by decide) Ex.rf) (fun y t q => ?_) (fun t ht e => ?_)
  · rw [e5]
    by_cases hy : y = i
    · rw [hy] at q ⊢
      rw [cs_s]
      show ¬ upd (cv S 310 i) a1.toNatClampNeg (vp_nar .boolean 1) t = 0
      by_cases ht : t = a1.toNatClampNeg
      · rw [show upd (cv S 310 i) a1.toNatClampNeg (vp_nar .boolean 1) t = vp_nar .boolean 1 from if_pos ht]; exact nar1
      · rw [show upd (cv S 310 i) a1.toNatClampNeg (vp_nar .boolean 1) t = cv S 310 i t from if_neg ht]; exact q
    · rw [cs_n S _ (fun w => hy w.2)]; exact q
  · rw [e5, cs_s, e, nI_clamp (by omega)]
    show ¬ upd (cv S 310 i) t (vp_nar .boolean 1) t = 0
    rw [show upd (cv S 310 i) t (vp_nar .boolean 1) t = vp_nar .boolean 1 from if_pos rfl]; exact nar1
theorem sp_X5_throwAway {S : CST} {i : Nat} {T : Nat × Nat} {Post : CST → Prop} (hT : S.2 = T) (hi : i < T.1) (h : ∀ S' : CST, S'.2 = T → Ex [280, 282] S S' → (∀ y : Nat, y ≠ i → cv S' 280 y = cv S 280 y) → cv S' 280 i 0 = 0 → Post S') : wp_X5_throwAway S i Post := by
  unfold wp_X5_throwAway
  refine ⟨cin_28 hT hi, fun S2 e2 => ⟨cin_28 (T := T) (by rw [e2]; exact hT) hi, fun S4 e4 => ?_⟩⟩
  refine h S4 (by rw [e4, e2]; exact hT) (by rw [e4, e2]; exact Ex.cs (by decide) (Ex.cs (by decide) Ex.rf)) (fun y hy => ?_) ?_
  · rw [e4, cs_n _ _ (fun w => absurd w.1 (by decide)), e2]
    exact cs_n S _ (fun w => hy w.2)
  · rw [e4, cs_n _ _ (fun w => absurd w.1 (by decide)), e2, cs_s]

