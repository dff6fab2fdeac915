/-! a call begins, a turn, a run -/
theorem wj_begin {S : CST} {y f : Nat} {T : Nat × Nat} {Post : CST → Prop} (hT : S.2 = T) (hy : y < T.1) (hf : f < 16) (hp : ∀ S' : CST, S'.2 = T → Ex [222, 223, 230] S S' → Post S') : wj_X7_begin_102 S y f Post := by
  unfold wj_X7_begin_102
  refine ⟨cin_22 hf, fun S2 e2 => ⟨cin_22 hf, fun S5 e5 => ⟨cin_22 hf, ?_⟩⟩⟩
  have hT5 : S5.2 = T := by rw [e5, e2]; exact hT
  have hE5 : Ex [222, 223, 230] S S5 := by rw [e5, e2]; exact Ex.cs (by decide) (Ex.cs (by decide) Ex.rf)
  exact sp_X4_clear hT5 hf (fun S7 hT7 e7 => ⟨2147483647 + 1, lp_X7_begin_121 hy hf (fun S' hT' e => hp S' hT' (Ex.step e (by decide) (Ex.step e7 (by decide) hE5))) 2147483647 0 S7 rfl hT7 Ex.rf⟩)
theorem sp_X7_begin {S : CST} {Post : CST → Prop} (hJ : J S) (hp : ∀ S' : CST, S'.2 = S.2 → J S' → Post S') : wp_X7_begin S Post := by
  unfold wp_X7_begin
  refine sp_X0_at (T := S.2) rfl hJ.v20 (fun r hr => ⟨fun _ S21 e21 => ?_, fun c => fun S29 e29 => ?_⟩)
  · have hT21 : S21.2 = S.2 := by rw [e21]; rfl
    have hJ21 : J S21 := by rw [e21]; exact J_cs hJ rfl
    refine sp_X7_stepOn hT21 (fun S23 hT23 e23 => ⟨fun _ => ?_, fun _ => hp _ hT23 (hJ21.ex e23 rfl)⟩)
    rintro _ rfl
    exact hp _ hT23 (J_cs (hJ21.ex e23 rfl) rfl)
  · have hT29 : S29.2 = S.2 := by rw [e29]; rfl
    have hJ29 : J S29 := by rw [e29]; exact J_cs hJ rfl
    refine sp_X7_stepOn hT29 (fun S31 hT31 e31 => ?_)
    have hJ31 := hJ29.ex e31 rfl
    have stop : ∀ S5 : CST, S5 = cs S31 127 0 (fun _ => 3) → Post S5 := by
      rintro _ rfl
      exact hp _ hT31 (J_cs hJ31 rfl)
    refine ⟨fun _ => ⟨fun _ => stop, fun c1 => ⟨fun c2 => ?_, fun _ => stop⟩⟩, fun _ => hp _ hT31 hJ31⟩
    have hvp : vp_in (cv S31 126 0 0) 16 := vp_16 c1 (Int32.not_le.mpr c2)
    have hf : (cv S31 126 0 0).toNatClampNeg < 16 := Nat.not_le.mp (fun q => hvp (Or.inr q))
    refine ⟨hvp, ?_⟩
    generalize (cv S31 126 0 0).toNatClampNeg = f at hf ⊢
    have hyr : r.toNatClampNeg < S.2.1 := vid_lt hr c
    intro S45 e45 S49 e49
    have hT49 : S49.2 = S.2 := by rw [e49, e45]; exact hT31
    have hJ49 : J S49 := by rw [e49, e45]; exact J_cs (J_cs hJ31 rfl) rfl
    have hy49 : r.toNatClampNeg < S49.2.1 := by rw [hT49]; exact hyr
    refine ⟨cin_22 hf, fun S51 e51 => ?_⟩
    have hT51 : S51.2 = S.2 := by rw [e51]; exact hT49
    have e249 : cv S51 249 = cv S49 249 := by rw [e51]; funext i; exact cs_n S49 _ (fun w => absurd w.1 (by decide))
    refine ⟨cin_24 hT51 hyr, fun _ => ⟨cin_22 hf, fun S55 e55 => ?_⟩, fun cp => ⟨cin_22 hf, fun S55 e55 => ?_⟩⟩
    · have hJ55 : J S55 := by rw [e55, e51]; exact hJ49.open_ hf c hy49 (Or.inl (by decide)) (fun q => absurd (by decide) q)
      have hT55 : S55.2 = S.2 := by rw [e55]; exact hT51
      exact wj_begin hT55 hyr hf (fun S' hT' e => hp S' hT' (hJ55.ex e rfl))
    · rw [e249] at cp e55
      have hJ55 : J S55 := by
        rw [e55, e51]
        refine hJ49.open_ hf c hy49 (hJ49.pr hy49).1 (fun _ => ?_)
        obtain ⟨M, -, -, -, -, -, m6⟩ := hJ49.2.2.2.2.2.1 _ hy49
        exact m6 cp
      have hT55 : S55.2 = S.2 := by rw [e55]; exact hT51
      exact wj_begin hT55 hyr hf (fun S' hT' e => hp S' hT' (hJ55.ex e rfl))
theorem sp_X7_turn {S : CST} {Post : CST → Prop} (hJ : J S) (hp : ∀ S' : CST, S'.2 = S.2 → J S' → Post S') : wp_X7_turn S Post := by
  have stop : ∀ S5 : CST, S5 = cs S 127 0 (fun _ => 3) → Post S5 := by
    rintro _ rfl
    exact hp _ rfl (J_cs hJ rfl)
  unfold wp_X7_turn
  refine sp_X7_latestFrame (fun r hr => ⟨fun _ => stop, fun c => ?_⟩)
  obtain ⟨f, hfe⟩ : ∃ z, z = r.toNatClampNeg := ⟨_, rfl⟩
  have hf : f < 16 := by rw [hfe]; exact vid_lt hr c
  rw [← hfe]
  refine ⟨cin_22 hf, fun _ => stop, fun c220 => ⟨cin_22 hf, fun _ => stop, fun c221 => ⟨cin_22 hf, fun _ => stop, fun cpl => ⟨cin_22 hf, cin_22 hf, fun q => absurd q c221, fun _ => ?_⟩⟩⟩⟩
  obtain ⟨cd, hcd⟩ : ∃ z, z = (cv S 221 f 0).toNatClampNeg := ⟨_, rfl⟩
  have hC : cd < S.2.2 := by rw [hcd]; exact vid_lt (hJ.fr hf).2 c221
  have hcod := hJ.2.2.2.2.1 cd hC
  obtain ⟨m, m2, hm, hm5, hm6, hm7⟩ := hcod.1
  obtain ⟨pl, hpl, hpl2⟩ := nI_ofc cpl
  rw [← hcd, hpl]
  refine ⟨cin_32 rfl hC, sp_X1_parts rfl hC hm hm5 ⟨fun clt => ?_, fun _ => stop⟩⟩
  have hplm : pl < m / 5 := Nat.not_le.mp (fun q => absurd clt (Int32.not_lt.mpr (nI_le q (by omega))))
  have hp5 : 5 * pl + 4 < m := by omega
  rw [hm, nI_clamp (by omega), nI5, nI_1, nI_1, show nI (5 * pl) + 2 = nI (5 * pl + 2) from nI_add _ 2, show nI (5 * pl) + 3 = nI (5 * pl + 3) from nI_add _ 3, show nI (5 * pl) + 4 = nI (5 * pl + 4) from nI_add _ 4, nI_clamp (by omega), nI_clamp (by omega), nI_clamp (by omega), nI_clamp (by omega), nI_clamp (by omega)]
  have v : ∀ j : Nat, j ≤ 4 → vp_in (nI (5 * pl + j)) m := fun j hj => vp_in_nI (by omega) (by omega)
  have c33 : cin S 33 cd := cin_33 rfl hC
  refine ⟨cin_22 hf, fun q => absurd q c221, fun _ => ⟨cin_32 rfl hC, cin_22 hf, c33, v 0 (by omega), c33, v 1 (by omega), c33, v 2 (by omega), c33, v 3 (by omega), c33, v 4 (by omega), cin_22 hf, cin_22 hf, fun S35 e35 => ?_⟩⟩
  have hT35 : S35.2 = S.2 := by rw [e35]; rfl
  have hJ35 : J S35 := by rw [e35]; exact J_cs hJ rfl
  have hE35 : Ex [222] S S35 := by rw [e35]; exact Ex.cs (by decide) Ex.rf
  have hF35 : FrV S35 f S.2 := FrV.ex ⟨c220, vid_lt (hJ.fr hf).1 c220⟩ hE35 rfl
  have hV35 : CdV S35 f S.2 := CdV.ex ⟨c221, by rw [← hcd]; exact hC, by rw [← hcd]; exact hcod.1⟩ hE35 rfl
  have e221 : (cv S35 221 f 0).toNatClampNeg = cd := by rw [hE35.2 221 rfl]; exact hcd.symm
  have fin : ∀ {L : List Nat} (S' : CST), S'.2 = S.2 → Ex L S35 S' → (L.all fun k => !relv k) = true → Post S' := fun S' h e hL => hp S' h (hJ35.ex e hL)
  have hth := hcod.2 pl m hm hm5 hp5
  generalize hop : cv S 330 cd (5 * pl) = op at hth ⊢
  generalize hdd : cv S 330 cd (5 * pl + 1) = d at hth ⊢
  have tmt : ∀ {a b c e g : Int32}, wp_X7_turnThatMayTrap S35 f a b c e g (fun S' => Post S') := sp_X7_turnThatMayTrap hT35 hf hF35 (fun S' h e => fin S' h e rfl)
  have c22 : cin S35 22 f := cin_22 hf
  have put : ∀ {a b : Int32}, wp_X4_put S35 f a b (fun S' => Post S') := sp_X4_put hT35 hf (fun S' h e => fin S' h e rfl)
  have gto : ∀ {a b : Int32}, wp_X7_goTo S35 f a b (fun S' => Post S') := sp_X7_goTo hT35 hf hV35 (fun S' h e => fin S' h e rfl)
  have grd : ∀ {th a b : Int32}, (∃ t : Nat, t < 11 ∧ th = nI t ∧ GdC S cd t) → wp_X7_guard S35 f th a b (fun S' => Post S') := fun h => sp_X7_guard hT35 hf hJ35 hF35 hV35.1 hV35.2.1 (by obtain ⟨t, t1, t2, t3⟩ := h; exact ⟨t, t1, t2, by rw [e221]; exact t3.ex hE35 rfl⟩) hp
  refine ⟨fun _ => tmt, fun _ => ⟨c22, put⟩, fun _ => ⟨c22, sp_X4_valueOf hT35 hf (fun _ => ⟨c22, put⟩)⟩, fun _ => tmt, fun _ => tmt, fun _ => tmt, fun _ => tmt, fun _ => tmt, fun _ => tmt, fun _ => gto, fun _ => ⟨c22, sp_X4_valueOf hT35 hf (fun _ => ⟨fun _ => hp _ hT35 hJ35, fun _ => gto⟩)⟩, fun _ => sp_X7_call hT35 hf hF35 (fun S' h e => fin S' h e rfl), fun _ => ⟨c22, sp_X4_valueOf hT35 hf (fun _ => sp_X7_giveBack hT35 hf (fun S' h e => fin S' h e rfl))⟩, fun _ => sp_X2_valueOf (fun _ => ⟨c22, put⟩), fun _ => ⟨c22, sp_X4_valueOf hT35 hf (fun _ => sp_X2_put hT35 (fun S' h e => fin S' h e rfl))⟩, fun _ => tmt, fun _ => tmt, fun _ => tmt, fun q => ⟨c22, sp_X4_valueOf hT35 hf (fun _ => ⟨fun _ => ?_, fun _ => ?_⟩)⟩, fun q => sp_X2_valueOf (fun _ => ⟨fun _ => ?_, fun _ => ?_⟩)⟩
  all_goals first
    | (refine grd ?_; obtain ⟨t, t1, -, t3⟩ := hth.1 q; exact ⟨t, t1, t3, pl, m, hm, hm5, hp5, Or.inl ⟨by rw [hop]; exact q, by rw [hdd]; exact t3⟩⟩)
    | (refine grd ?_; obtain ⟨t, t1, -, t3⟩ := hth.2 q; exact ⟨t, t1, t3, pl, m, hm, hm5, hp5, Or.inr ⟨by rw [hop]; exact q, by rw [hdd]; exact t3⟩⟩)
theorem lp_X7_go {P : Nat} {K : CST → Prop} {Post : CST → Int32 → Prop} (hK : ∀ S' : CST, cnP S' = P → J S' → K S') : ∀ (n j : Nat) (S : CST), j + n = 2147483647 → cnP S = P → J S → wl_X7_go_52 K Post (n + 1) S (nI j) := by
  intro n
  induction n with
  | zero =>
    intro j S hj hP hJ
    unfold wl_X7_go_52
    obtain rfl : j = 2147483647 := by omega
    exact ⟨fun _ => hK S hP hJ, fun c => absurd (z_max _) c⟩
  | succ n ih =>
    intro j S hj hP hJ
    unfold wl_X7_go_52
    rw [nI_1]
    refine ⟨fun _ => hK S hP hJ, fun _ => ⟨fun _ => hK S hP hJ, fun _ => ⟨fun _ => ?_, fun _ => ?_⟩⟩⟩
    · exact sp_X7_begin hJ (fun S1 hT1 hJ1 => sp_X7_choosePath hJ1 (fun S2 hP2 hJ2 => ih (j + 1) S2 (by omega) (by rw [hP2, show cnP S1 = cnP S from congrArg Prod.fst hT1]; exact hP) hJ2))
    · exact sp_X7_turn hJ (fun S1 hT1 hJ1 => ih (j + 1) S1 (by omega) (by rw [show cnP S1 = cnP S from congrArg Prod.fst hT1]; exact hP) hJ1)
theorem sp_X7_go {S : CST} {a1 a2 a3 a4 : Int32} {Post : CST → Int32 → Prop} (hJ : J S) (hp : ∀ (S' : CST) (r : Int32), cnP S' = cnP S → J S' → Post S' r) : wp_X7_go S a1 a2 a3 a4 Post := by
  unfold wp_X7_go
  refine sp_X10_beginRun (T := S.2) rfl (fun S3 hT3 e3 => ?_)
  have hJ3 := hJ.ex e3 rfl
  intro S5 e5 S7 e7 S9 e9 S11 e11
  refine ⟨vp_c0, fun S14 e14 => ⟨vp_c1, fun S17 e17 => ⟨vp_c2, fun S20 e20 => ⟨2147483647 + 1, ?_⟩⟩⟩⟩
  have hJ20 : J S20 := by
    rw [e20, e17, e14, e11, e9, e7, e5]
    exact J_cs (J_cs (J_cs (J_cs (J_cs (J_cs (J_cs hJ3 rfl) rfl) rfl) rfl) rfl) rfl) rfl
  have hP20 : cnP S20 = cnP S := by
    rw [e20, e17, e14, e11, e9, e7, e5]
    exact congrArg Prod.fst hT3
  exact lp_X7_go (P := cnP S) (fun S' hP' hJ' => ⟨fun _ => hp _ _ hP' hJ', fun _ => hp _ _ hP' hJ'⟩) 2147483647 0 S20 rfl hP20 hJ20
theorem jm_run {S : CST} {a1 a2 a3 a4 : Int32} {Post : CST → Int32 → Prop} (hJ : J S) (hp : ∀ (S' : CST) (r : Int32), cnP S' = cnP S → J S' → Post S' r) : wp_X11_run S a1 a2 a3 a4 Post := by
  unfold wp_X11_run
  exact sp_X0_at (T := S.2) rfl hJ.v20 (fun r hr => ⟨fun _ => hp _ _ rfl hJ, fun _ => sp_X0_isRight (T := S.2) rfl hJ.v20 (fun r7 => ⟨fun _ => ⟨fun _ => sp_X7_go hJ hp, fun _ => hp _ _ rfl hJ⟩, fun _ => hp _ _ rfl hJ⟩)⟩)
