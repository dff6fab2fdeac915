/-! a METHOD is looked over; a METHOD is told -/
theorem J.plain {S S8 S12 S14 : CST} {y C : Nat} {r6 : Int32} (h : J S) (hy : y < cnP S) (h248 : cv S 248 y 0 = -1) (h6n : ¬ r6 < 0) (e8 : S8 = cs S 248 y (fun _ => r6)) (hk : MkJ (fun _ => False) S8 S12 C 0) (hc104 : cnC S < 104) (e14 : S14 = cs S12 249 y (fun _ => nI C)) : J S14 := by
  have hJ := h
  obtain ⟨h1, h2, h3, h4, h5, h6, h7, h8⟩ := h
  obtain ⟨k1, k2, k3, k4, k5, k6⟩ := hk
  have q1 : cnP S8 = cnP S := by rw [e8]; rfl
  have q2 : cnC S8 = cnC S := by rw [e8]; rfl
  have p1 : cnP S14 = cnP S := by rw [e14]; exact (show S12.2.1 = cnP S8 by rw [k1]).trans q1
  have p2 : cnC S14 = cnC S + 1 := by rw [e14]; exact (show S12.2.2 = cnC S8 + 1 by rw [k1]).trans (by rw [q2])
  have l12 : ∀ k i : Nat, k ≠ 249 → cv S14 k i = cv S12 k i := fun k i hk => by rw [e14]; exact cs_n S12 _ (fun w => hk w.1)
  have lof : ∀ k : Nat, relv k = true → k < 320 → k ≠ 249 → k ≠ 248 → cv S14 k = cv S k := fun k hr hk a b => funext (fun i => by
    rw [l12 k i a, k3 k i hr (by omega), e8]; exact cs_n S _ (fun w => b w.1))
  have hi1 : ∀ k i : Nat, 320 ≤ k → relv k = true → i ≠ cnC S → cv S14 k i = cv S k i := fun k i hk hr hi => by
    rw [l12 k i (by omega), k3 k i hr (by omega), e8]; exact cs_n S _ (fun w => by omega)
  have x249 : ∀ i : Nat, i ≠ y → cv S14 249 i = cv S 249 i := fun i hi => by
    rw [e14, cs_i hi, k3 249 i rfl (by omega), e8]; exact cs_n S _ (fun w => absurd w.1 (by decide))
  have x248 : ∀ i : Nat, i ≠ y → cv S14 248 i = cv S 248 i := fun i hi => by
    rw [l12 248 i (by decide), k3 248 i rfl (by omega), e8, cs_i hi]
  have y249 : cv S14 249 y 0 = nI C := by rw [e14, cs_s]
  have y248 : cv S14 248 y 0 = r6 := by rw [l12 248 y (by decide), k3 248 y rfl (by omega), e8, cs_s]
  have hCC : C = cnC S := k2.trans q2
  have hC31 : C < 2 ^ 31 := by omega
  have hCc : (nI C : Int32).toNatClampNeg = C := nI_clamp hC31
  have e20 := lof 20 rfl (by decide) (by decide) (by decide)
  have e220 := lof 220 rfl (by decide) (by decide) (by decide)
  have e221 := lof 221 rfl (by decide) (by decide) (by decide)
  have e281 := lof 281 rfl (by decide) (by decide) (by decide)
  have e280 := lof 280 rfl (by decide) (by decide) (by decide)
  have e283 := lof 283 rfl (by decide) (by decide) (by decide)
  have e310 := lof 310 rfl (by decide) (by decide) (by decide)
  have e247 := lof 247 rfl (by decide) (by decide) (by decide)
  have i320 : ∀ i : Nat, i < cnC S → cv S14 320 i = cv S 320 i := fun i hi => hi1 320 i (by decide) rfl (by omega)
  have i330 : ∀ i : Nat, i < cnC S → cv S14 330 i = cv S 330 i := fun i hi => hi1 330 i (by decide) rfl (by omega)
  have i339 : ∀ i : Nat, i < cnC S → cv S14 339 i = cv S 339 i := fun i hi => hi1 339 i (by decide) rfl (by omega)
  have i349 : ∀ i : Nat, i < cnC S → cv S14 349 i = cv S 349 i := fun i hi => hi1 349 i (by decide) rfl (by omega)
  refine ⟨by rw [p1]; exact h1, ?_, ⟨?_, fun i hi => ⟨?_, ?_⟩, fun i hi => ⟨?_, ?_⟩⟩, ?_, ?_, ?_, ?_, ?_⟩
  · rw [p1, lof 11 rfl (by decide) (by decide) (by decide)]; exact h2
  · rw [p1, e20]; exact h3.1
  · rw [p1, e220]; exact (h3.2.1 i hi).1
  · rw [p2, e221]; exact vid_up (h3.2.1 i hi).2
  · rw [p2]
    by_cases hiy : i = y
    · rw [hiy, y249]; exact Or.inr (by rw [hCc]; omega)
    · rw [x249 i hiy]; exact vid_up (h3.2.2 i (by rw [← p1]; exact hi)).1
  · rw [p2, e281]; exact vid_up (h3.2.2 i (by rw [← p1]; exact hi)).2
  · rw [p1, e247]; exact h4
  · intro c hc
    rw [p2] at hc
    by_cases hcC : c = cnC S
    · rw [hcC, ← hCC]
      exact CodO_same (l12 339 C (by decide)) (l12 330 C (by decide)) (l12 349 C (by decide)) k4
    · exact CodO_same (i339 c (by omega)) (i330 c (by omega)) (i349 c (by omega)) (h5 c (by omega))
  · intro i hi
    rw [p1] at hi
    obtain ⟨N, q1, q2, q3, q4, q5, q6⟩ := h6 i hi
    unfold HeO vC
    rw [e283, e280, e281, e310]
    refine ⟨N, q1, q2, q3, fun a => ?_, fun a => ?_, fun a => ?_⟩
    · obtain ⟨b1, b2, g, b3, b4⟩ := q4 a
      have hid := vid_lt (h3.2.2 i hi).2 b2
      exact ⟨b1, b2, g, fun t ht hg => ⟨(b3 t ht hg).1, fun w => (b3 t ht hg).2 (GdC_same (i339 _ hid) (i330 _ hid) w)⟩, b4⟩
    · rw [i320 _ (vid_lt (h3.2.2 i hi).2 a)]; exact q5 a
    · by_cases hiy : i = y
      · rw [hiy, y249, hCc, l12 320 C (by decide)]; exact k5
      · rw [x249 i hiy] at a ⊢
        rw [i320 _ (vid_lt (h3.2.2 i hi).1 a)]; exact q6 a
  · intro f hf
    unfold FrO
    rw [e220, e221, e283, e281]
    intro a b
    rw [i320 _ (vid_lt (h3.2.1 f hf).2 b)]
    exact h7 f hf a b
  · rw [p2]
    have : tot S < tot S14 := by
      unfold tot
      rw [p1, e283]
      have hr6 : Rt S14 y = 1 := by
        unfold Rt
        rw [y248]
        exact if_neg (fun q => h6n (by rw [q]; decide))
      have hr0 : Rt S y = 0 := by unfold Rt; rw [h248]; rfl
      refine sN_lt (cnP S) (fun i hi => ?_) y hy ?_
      · show Rt S i + (cv S 283 i 0).toNatClampNeg ≤ Rt S14 i + (cv S 283 i 0).toNatClampNeg
        by_cases hiy : i = y
        · rw [hiy, hr6, hr0]; omega
        · unfold Rt; rw [x248 i hiy]; exact Nat.le_refl _
      · show Rt S y + (cv S 283 y 0).toNatClampNeg < Rt S14 y + (cv S 283 y 0).toNatClampNeg
        rw [hr6, hr0]; omega
    omega
theorem go_end {S : CST} {y : Nat} {Post : CST → Int32 → Prop} (hJ : J S) (hy : y < cnP S) (h248 : cv S 248 y 0 = -1) (hp : ∀ (S' : CST) (r : Int32), cnP S' = cnP S → J S' → Post S' r) :
    wp_X6_greatestDepth S y (fun r6 => cin S 24 y ∧ (∀ S8 : CST, S8 = cs S 248 y (fun _ => r6) → (cin S8 24 y ∧ (wp_X6_plainCode S8 y (fun S12 r12 => cin S12 24 y ∧ r12 < 2147483648 ∧ (∀ S14 : CST, S14 = cs S12 249 y (fun _ => (nI r12)) → (cin S14 24 y ∧ (Post S14 (cv S14 248 y 0))))))))) := by
  refine sp_X6_greatestDepth (T := S.2) rfl hy (fun r6 h6 => ⟨cin_24 rfl hy, fun S8 e8 => ?_⟩)
  have hT8 : S8.2 = S.2 := by rw [e8]; rfl
  have hroom : cnC S < 104 := by
    obtain ⟨M, m1, m2, -⟩ := hJ.2.2.2.2.2.1 y hy
    refine hJ.room hy ?_
    rw [show Rt S y = 0 by unfold Rt; rw [h248]; rfl, m1, nI_clamp (by omega)]
    omega
  have l8 : ∀ k : Nat, k ≠ 248 → cv S8 k = cv S k := fun k hk => by rw [e8]; funext i; exact cs_n S _ (fun w => hk w.1)
  have hw8 : Wid S8 := by
    have p1 : cnP S8 = cnP S := congrArg Prod.fst hT8
    have p2 : cnC S8 = cnC S := congrArg Prod.snd hT8
    unfold Wid
    rw [p1, p2, l8 20 (by decide), l8 220 (by decide), l8 221 (by decide), l8 249 (by decide), l8 281 (by decide)]
    exact hJ.2.2.1
  refine ⟨cin_24 hT8 hy, sp_X6_plainCode hT8 hy hw8 ?_ ?_ (fun S12 r12 hm => ?_)⟩
  · rw [l8 247 (by decide)]; exact hJ.2.2.2.1 y hy
  · rw [show cnC S8 = cnC S from congrArg Prod.snd hT8]; exact hroom
  · have p1 : cnP S12 = cnP S := by rw [show cnP S12 = cnP S8 by show S12.2.1 = _; rw [hm.1]]; exact congrArg Prod.fst hT8
    have hr : r12 = cnC S := hm.2.1.trans (congrArg Prod.snd hT8)
    have hT12 : S12.2 = (cnP S, S12.2.2) := by rw [← p1]
    refine ⟨cin_24 hT12 hy, by omega, fun S14 e14 => ?_⟩
    have hJ14 := hJ.plain hy h248 h6 e8 hm hroom e14
    have hT14 : S14.2 = (cnP S, S12.2.2) := by rw [e14]; exact hT12
    exact ⟨cin_24 hT14 hy, hp S14 _ (show S14.2.1 = cnP S by rw [hT14]) hJ14⟩
theorem sp_X6_goOver {S : CST} {y : Nat} {Post : CST → Int32 → Prop} (hJ : J S) (hy : y < cnP S) (h248 : cv S 248 y 0 = -1) (hp : ∀ (S' : CST) (r : Int32), cnP S' = cnP S → J S' → Post S' r) : wp_X6_goOver S y Post := by
  have fin : ∀ (S' : CST), S'.2 = S.2 → Ex [103, 110, 270] S S' → ∀ r : Int32, Post S' r := fun S' hT e r => hp S' r (congrArg Prod.fst hT) (hJ.ex e rfl)
  have ed : ∀ (S' : CST), S'.2 = S.2 → Ex [103, 110, 270] S S' → wp_X6_greatestDepth S' y (fun r6 => cin S' 24 y ∧ (∀ S8 : CST, S8 = cs S' 248 y (fun _ => r6) → (cin S8 24 y ∧ (wp_X6_plainCode S8 y (fun S12 r12 => cin S12 24 y ∧ r12 < 2147483648 ∧ (∀ S14 : CST, S14 = cs S12 249 y (fun _ => (nI r12)) → (cin S14 24 y ∧ (Post S14 (cv S14 248 y 0))))))))) := fun S' hT e =>
    go_end (hJ.ex e rfl) (by rw [show cnP S' = cnP S from congrArg Prod.fst hT]; exact hy) (by rw [e.2 248 rfl]; exact h248) (fun S2 r h2 hJ2 => hp S2 r (h2.trans (congrArg Prod.fst hT)) hJ2)
  have wj : ∀ (S' : CST), S'.2 = S.2 → Ex [103, 110, 270] S S' → wj_X6_goOver_41 S' y Post := by
    intro S1 hT1 e1
    unfold wj_X6_goOver_41
    refine ⟨fun _ => sp_X6_comes hT1 hy (fun S4 r4 hT4 e4 => ⟨2147483647 + 1, ?_⟩), fun _ => fin S1 hT1 e1 _⟩
    have e14 : Ex [103, 110, 270] S S4 := Ex.step e4 (by decide) e1
    exact lp_X6_goOver_61 hy (hv_ex (hv_ex hJ.v20 e1 rfl) e4 rfl) (fun S' hT' e' => ed S' hT' (Ex.step e' (by decide) e14)) (fun S' hT' e' => ed S' hT' (Ex.step e' (by decide) e14)) (fun S' r hT' e' => fin S' hT' (Ex.step e' (by decide) e14) _) 2147483647 0 S4 rfl hT4 Ex.rf
  unfold wp_X6_goOver
  refine ⟨cin_24 (T := S.2) rfl hy, sp_X8_forgetDepths (T := S.2) rfl hy (fun S43 hT43 e43 => ⟨2147483647 + 1, lp_X6_goOver_6 hy (fun S25 hT25 e25 => ?_) 2147483647 0 S43 rfl hT43 Ex.rf⟩)⟩
  have e : Ex [103, 110, 270] S S25 := Ex.step e25 (by decide) (Ex.step e43 (by decide) Ex.rf)
  refine ⟨cin_24 hT25 hy, fun _ => ?_, fun _ => ?_⟩
  · rintro _ rfl
    exact wj _ hT25 (Ex.cs (by decide) e)
  · rintro _ rfl
    exact wj _ hT25 (Ex.cs (by decide) e)
theorem jm_look {S : CST} {a1 : Int32} {Post : CST → Int32 → Prop} (hJ : J S) (hp : ∀ (S' : CST) (r : Int32), cnP S' = cnP S → J S' → Post S' r) : wp_X11_look S a1 Post := by
  unfold wp_X11_look
  refine sp_X0_at (T := S.2) rfl hJ.v20 (fun r hr => ⟨fun _ => hp _ _ rfl hJ, fun c => ?_⟩)
  have hi := vid_lt hr c
  exact ⟨cin_24 rfl hi, sp_X8_isRight rfl hi (fun r2 h2 => ⟨fun q => ⟨cin_24 rfl hi, sp_X6_goOver hJ hi (h2 q) hp⟩, fun _ => hp _ _ rfl hJ⟩)⟩
theorem J.tell {S S1 S2 S7 : CST} {a1 a2 : Int32} (h : J S) (h8 : cnP S < 8) (e1 : S1 = addP S (cv S 11 0 0) a1 a2) (e2 : S2 = cs S1 20 0 (upd (cv S1 20 0) (cv S 11 0 0).toNatClampNeg (nI (cnP S)))) (e7 : S7 = cs S2 11 0 (fun _ => cv S2 11 0 0 + 1)) : cnP S7 = cnP S + 1 ∧ J S7 ∧ cv S7 11 0 0 = nI (cnP S + 1) := by
  obtain ⟨g1, g2, g3, g4, g5, g6, g7, g8⟩ := h
  have p1 : cnP S7 = cnP S + 1 := by rw [e7, e2, e1]; rfl
  have p2 : cnC S7 = cnC S := by rw [e7, e2, e1]; rfl
  have l2 : ∀ k i : Nat, k ≠ 11 → k ≠ 20 → cv S7 k i = cv S1 k i := fun k i a b => by
    rw [e7, cs_n _ _ (fun w => a w.1), e2, cs_n _ _ (fun w => b w.1)]
  have l1 : ∀ k i : Nat, ¬ (i = cnP S ∧ 240 ≤ k ∧ k < 320) → cv S1 k i = cv S k i := fun k i a => by rw [e1]; exact if_neg a
  have old : ∀ k i : Nat, k ≠ 11 → k ≠ 20 → ¬ (i = cnP S ∧ 240 ≤ k ∧ k < 320) → cv S7 k i = cv S k i := fun k i a b c => (l2 k i a b).trans (l1 k i c)
  have new : ∀ k : Nat, 240 ≤ k → k < 320 → cv S7 k (cnP S) 0 = newP (cv S 11 0 0) a1 a2 k := fun k a b => by
    rw [l2 k _ (by omega) (by omega), e1, show cv (addP S (cv S 11 0 0) a1 a2) k (cnP S) = fun _ => newP (cv S 11 0 0) a1 a2 k from if_pos ⟨rfl, a, b⟩]
  have hc : (cv S 11 0 0).toNatClampNeg = cnP S := by rw [g2]; exact nI_clamp (by omega)
  have n11 : cv S7 11 0 0 = nI (cnP S + 1) := by
    rw [e7, cs_s]
    show cv S2 11 0 0 + 1 = nI (cnP S + 1)
    rw [e2, cs_n _ _ (fun w => absurd w.1 (by decide)), l1 11 0 (by omega), g2, nI_1]
  refine ⟨p1, ⟨by omega, by rw [p1]; exact n11, ⟨?_, fun i hi => ⟨?_, ?_⟩, fun i hi => ⟨?_, ?_⟩⟩, ?_, ?_, ?_, ?_, ?_⟩, n11⟩
  · intro j
    rw [p1, e7, cs_n _ _ (fun w => absurd w.1 (by decide)), e2, cs_s, hc]
    by_cases hj : j = cnP S
    · rw [show upd (cv S1 20 0) (cnP S) (nI (cnP S)) j = nI (cnP S) from if_pos hj]
      exact Or.inr (by rw [nI_clamp (by omega)]; omega)
    · rw [show upd (cv S1 20 0) (cnP S) (nI (cnP S)) j = cv S1 20 0 j from if_neg hj, l1 20 0 (by omega)]
      exact vid_up (g3.1 j)
  · rw [p1, old 220 i (by decide) (by decide) (by omega)]; exact vid_up (g3.2.1 i hi).1
  · rw [p2, old 221 i (by decide) (by decide) (by omega)]; exact (g3.2.1 i hi).2
  · rw [p2]
    by_cases hiP : i = cnP S
    · rw [hiP, new 249 (by decide) (by decide)]; exact Or.inl (by show (-1 : Int32) < 0; decide)
    · rw [old 249 i (by decide) (by decide) (by omega)]; exact (g3.2.2 i (by omega)).1
  · rw [p2]
    by_cases hiP : i = cnP S
    · rw [hiP, new 281 (by decide) (by decide)]; exact Or.inl (by show (-1 : Int32) < 0; decide)
    · rw [old 281 i (by decide) (by decide) (by omega)]; exact (g3.2.2 i (by omega)).2
  · intro i hi
    by_cases hiP : i = cnP S
    · rw [hiP, new 247 (by decide) (by decide)]; exact ⟨0, rfl, by omega⟩
    · rw [old 247 i (by decide) (by decide) (by omega)]; exact g4 i (by omega)
  · intro c hcl
    rw [p2] at hcl
    exact CodO_same (old 339 c (by decide) (by decide) (by omega)) (old 330 c (by decide) (by decide) (by omega)) (old 349 c (by decide) (by decide) (by omega)) (g5 c hcl)
  · intro i hi
    rw [p1] at hi
    by_cases hiP : i = cnP S
    · unfold HeO
      rw [hiP, new 283 (by decide) (by decide), new 280 (by decide) (by decide), new 281 (by decide) (by decide), new 249 (by decide) (by decide)]
      exact ⟨0, rfl, by omega, fun _ => Nat.zero_le _, fun q => absurd rfl q, fun q => absurd (by show (-1 : Int32) < 0; decide) q, fun q => absurd (by show (-1 : Int32) < 0; decide) q⟩
    · obtain ⟨N, q1, q2, q3, q4, q5, q6⟩ := g6 i (by omega)
      unfold HeO vC
      rw [old 283 i (by decide) (by decide) (by omega), old 280 i (by decide) (by decide) (by omega), old 281 i (by decide) (by decide) (by omega), old 249 i (by decide) (by decide) (by omega), old 310 i (by decide) (by decide) (by omega)]
      refine ⟨N, q1, q2, q3, fun a => ?_, fun a => ?_, fun a => ?_⟩
      · obtain ⟨b1, b2, g, b3, b4⟩ := q4 a
        exact ⟨b1, b2, g, fun t ht hg => ⟨(b3 t ht hg).1, fun w => (b3 t ht hg).2 (GdC_same (old 339 _ (by decide) (by decide) (by omega)) (old 330 _ (by decide) (by decide) (by omega)) w)⟩, b4⟩
      · rw [old 320 _ (by decide) (by decide) (by omega)]; exact q5 a
      · rw [old 320 _ (by decide) (by decide) (by omega)]; exact q6 a
  · intro f hf
    unfold FrO
    rw [old 220 f (by decide) (by decide) (by omega), old 221 f (by decide) (by decide) (by omega)]
    intro a b
    have hpr := vid_lt (g3.2.1 f hf).1 a
    rw [old 320 _ (by decide) (by decide) (by omega), old 283 _ (by decide) (by decide) (by omega), old 281 _ (by decide) (by decide) (by omega)]
    exact g7 f hf a b
  · rw [p2]
    refine Nat.le_trans g8 ?_
    unfold tot
    rw [p1]
    refine Nat.le_trans (Nat.le_of_eq (sN_eq (cnP S) (fun i hi => ?_))) (Nat.le_add_right _ _)
    show Rt S i + (cv S 283 i 0).toNatClampNeg = Rt S7 i + (cv S7 283 i 0).toNatClampNeg
    unfold Rt
    rw [old 283 i (by decide) (by decide) (by omega), old 248 i (by decide) (by decide) (by omega)]
theorem jm_method {S : CST} {a l : Int32} {Post : CST → Int32 → Prop} (hJ : J S) (hbad : zmeth a l = -2 → Post S (-2)) (hfull : zmeth a l = 0 → cnP S = 8 → Post S (-4)) (hnew : zmeth a l = 0 → cnP S < 8 → ∀ S' : CST, cnP S' = cnP S + 1 → J S' → Post S' (nI (cnP S))) : wp_X11_method S a l Post := by
  unfold wp_X11_method
  refine ⟨fun c => hbad (if_pos c), fun c1 => ⟨fun c => hbad ?_, fun c2 => ⟨fun c => hbad ?_, fun c3 => ⟨fun c4 => ?_, fun c4 => hbad ?_⟩⟩⟩⟩
  · unfold zmeth; rw [if_neg c1, if_pos c]
  · unfold zmeth; rw [if_neg c1, if_neg c2, if_pos c]
  · have hz : zmeth a l = 0 := by unfold zmeth; rw [if_neg c1, if_neg c2, if_neg c3, if_pos c4]
    have h11 := hJ.2.1
    unfold wp_X0_tell
    refine ⟨fun c8 => ?_, fun c8 => hfull hz ?_⟩
    · have hP : cnP S < 8 := by
        rw [h11] at c8
        exact Nat.not_le.mp (fun q => absurd c8 (Int32.not_lt.mpr (nI_le (a := 8) q (by have := hJ.1; omega))))
      refine ⟨hJ.2.2.1, by rw [h11]; exact nI_nn _ (by omega), by rw [h11]; exact nI_clamp (by omega), hP, fun S1 e1 S2 e2 S7 e7 => ?_⟩
      obtain ⟨q1, q2, q3⟩ := hJ.tell hP e1 e2 e7
      rw [q3, nI_m1 (by omega)]
      exact hnew hz hP S7 q1 q2
    · have := hJ.1
      rw [h11] at c8
      exact Nat.le_antisymm this (Nat.not_lt.mp (fun q => c8 (Int32.not_le.mp (nI_ge (b := 8) q (by omega)))))
  · unfold zmeth; rw [if_neg c1, if_neg c2, if_neg c3, if_neg c4]
