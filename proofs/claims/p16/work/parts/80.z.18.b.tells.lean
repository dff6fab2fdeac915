/-! BOTH between calls: what is told of a METHOD -/
theorem mono_isMethod {Sm : MST} {P y : Nat} {Post : Int32 → Prop} (hM0 : Sm 0 0 = nI P) (hM8 : P ≤ 8) (hy : y < P) (h : Post 1) : wp_X12_isMethod Sm (nI y) Post := by
  refine sp_isMethod hM0 hM8 (fun q => ?_) (fun m _ _ => h)
  rw [nI_toInt (by omega)] at q; omega
/-- the latest CODE of METHOD y, in both -/
theorem FR1.latest {S : CST} {Sm : MST} {y : Nat} (hM : MI Sm (cnP S)) (hQ : FR1 S Sm) (hy : y < cnP S) : (Sm 17 y = 0 ∧ cv S 281 y 0 < 0) ∨ ∃ k c N h n : Nat, ∃ (P : Nat → T5) (as : Nat → Bool) (val : Nat → Int32) (st : Nat → Nat), k < 12 ∧ Sm 17 y = nI (k + 1) ∧ cv S 281 y 0 = nI c ∧ c < cnC S ∧ CdX S Sm y k c N h n P as val st := by
  obtain ⟨n2, k, h3n, hn60, hk, hk12, hcod, hzk, hnk⟩ := hM.2.2.1.1 y hy
  obtain ⟨a1, a2, a3, a4, a5, a6, a7, a8, a9⟩ := hQ.1.2.2.2.1 y hy
  rcases Nat.eq_zero_or_pos k with w | w
  · refine Or.inl ⟨by rw [hk, w]; rfl, a8 (by rw [hk, w]; rfl)⟩
  · obtain ⟨c, d1, d2, N, h, n, P, as, val, st, hx⟩ := a9 (k - 1) (by omega) (by rw [hk]; congr 1; omega)
    exact Or.inr ⟨k - 1, c, N, h, n, P, as, val, st, by omega, by rw [hk]; congr 1; omega, d1, d2, hx⟩
theorem mq_codeNow {Sm : MST} {y k : Nat} {Post : Int32 → Prop} (hy : y < 8) (hk : Sm 17 y = nI (k + 1)) (h : Post (nI (12 * y + k))) : wp_X12_codeNow Sm (nI y) Post := by
  unfold wp_X12_codeNow
  rw [nI_clamp (n := y) (by omega), hk, show (12 : Int32) * nI y = nI (12 * y) from nI_mul 12 y, nI_add, nI_m1 (by omega), show 12 * y + (k + 1) - 1 = 12 * y + k by omega]
  exact ⟨vp_in_nI hy (by omega), h⟩
theorem mq_partsOf {S : CST} {Sm : MST} {y : Nat} {Post : Int32 → Prop} (hM : MI Sm (cnP S)) (hQ : FR1 S Sm) (hy : y < cnP S) (h0 : Sm 17 y = 0 → cv S 281 y 0 < 0 → Post 0) (h : ∀ (k c N h n : Nat) (P : Nat → T5) (as : Nat → Bool) (val : Nat → Int32) (st : Nat → Nat), k < 12 → Sm 17 y = nI (k + 1) → cv S 281 y 0 = nI c → c < cnC S → CdX S Sm y k c N h n P as val st → Post (nI N)) : wp_X12_partsOf Sm (nI y) Post := by
  have hM8 := hM.1.2.1
  unfold wp_X12_partsOf
  rw [nI_clamp (n := y) (by omega)]
  rcases hQ.latest hM hy with ⟨w1, w2⟩ | ⟨k, c, N, hh, n, P, as, val, st, k12, e17, e281, hc, hx⟩
  · exact ⟨vp_in_nI (by omega) (by omega), fun q => absurd w1 q, fun _ => h0 w1 w2⟩
  · refine ⟨vp_in_nI (by omega) (by omega), fun _ => mq_codeNow (by omega) e17 ⟨vp_in_nI (by omega) (by omega), ?_⟩, fun q => ?_⟩
    · rw [nI_clamp (n := 12 * y + k) (by omega), hx.2.2.2.2.2.2.2.1]
      exact h k c N hh n P as val st k12 e17 e281 hc hx
    · rw [e17] at q
      exact absurd (nI_inj (b := 0) q (by omega) (by omega)) (by omega)
theorem zq_of {S : CST} {Sm : MST} {a w : Int32} (hJ : J S) (hM : MI Sm (cnP S)) (hQ : FR1 S Sm) : wp_X11_of S a w (fun r => wp_X12_of Sm a w (fun r' => r = r')) := by
  have hM8 := hM.1.2.1
  have hM0 := hM.1.1
  unfold wp_X11_of
  refine xp_X0_at (BK.of hJ hQ.1.1) (fun y hy e => ⟨fun q => absurd q (nI_nn y (by omega)), fun _ => ?_⟩) (fun hno => ⟨fun _ => ?_, fun q => absurd (by decide) q⟩)
  · subst e
    obtain ⟨a1, a2, a3, a4, a5, a6, a7, a8, a9⟩ := hQ.1.2.2.2.1 y hy
    obtain ⟨pa1, pa2, pa3, pa4, pa5, pa6, pa7⟩ := hQ.1.1.1 y hy
    have hc : (nI y).toNatClampNeg = y := nI_clamp (by omega)
    have v8 : vp_in (nI y) 8 := vp_in_nI (by omega) (by omega)
    have c28 : cin S 28 y := cin_28 rfl hy
    have c24 : cin S 24 y := cin_24 rfl hy
    rw [hc]
    have wk : ∀ {u v : Int32}, w = u → w = v → u = v := fun h1 h2 => h1.symm.trans h2
    unfold wp_X11_tellOf wp_X12_of
    refine ⟨c24, fun q => mono_isMethod hM0 hM8 hy ⟨fun _ => ⟨fun _ => rfl, ?_, ?_, ?_, ?_, ?_, ?_, ?_, ?_⟩, fun q => absurd q (by decide)⟩, fun q => ⟨c28, fun z => mono_isMethod hM0 hM8 hy ⟨fun _ => ?_, fun q => absurd q (by decide)⟩, fun z => mono_isMethod hM0 hM8 hy ⟨fun _ => ?_, fun q => absurd q (by decide)⟩⟩, fun q => ⟨c28, mono_isMethod hM0 hM8 hy ⟨fun _ => ?_, fun q => absurd q (by decide)⟩⟩, fun q => ⟨c28, mono_isMethod hM0 hM8 hy ⟨fun _ => ?_, fun q => absurd q (by decide)⟩⟩, fun q => ⟨c28, mono_isMethod hM0 hM8 hy ⟨fun _ => ?_, fun q => absurd q (by decide)⟩⟩, fun q => ⟨c28, mono_isMethod hM0 hM8 hy ⟨fun _ => ?_, fun q => absurd q (by decide)⟩⟩, fun q => ⟨c28, fun z => mono_isMethod hM0 hM8 hy ⟨fun _ => ?_, fun q => absurd q (by decide)⟩, fun z => ⟨c28, fun q => absurd q z, fun _ => ?_⟩⟩, fun q => ⟨c24, mono_isMethod hM0 hM8 hy ⟨fun _ => ?_, fun q => absurd q (by decide)⟩⟩, fun q => ⟨c24, mono_isMethod hM0 hM8 hy ⟨fun _ => ?_, fun q => absurd q (by decide)⟩⟩⟩
    iterate 8 (exact fun w0 => absurd q (by rw [w0]; decide))
    · subst q
      refine ⟨fun c => absurd c (by decide), fun _ => ⟨v8, ?_⟩, fun c => absurd c (by decide), fun c => absurd c (by decide), fun c => absurd c (by decide), fun c => absurd c (by decide), fun c => absurd c (by decide), fun c => absurd c (by decide), fun c => absurd c (by decide)⟩
      rw [hc, ← a1]
      exact ⟨fun _ => rfl, fun n => absurd z n⟩
    · subst q
      refine ⟨fun c => absurd c (by decide), fun _ => ⟨v8, ?_⟩, fun c => absurd c (by decide), fun c => absurd c (by decide), fun c => absurd c (by decide), fun c => absurd c (by decide), fun c => absurd c (by decide), fun c => absurd c (by decide), fun c => absurd c (by decide)⟩
      rw [hc, ← a1]
      exact ⟨fun n => absurd n z, fun _ => rfl⟩
    · subst q
      exact ⟨fun c => absurd c (by decide), fun c => absurd c (by decide), fun _ => ⟨v8, by rw [hc]; exact a2⟩, fun c => absurd c (by decide), fun c => absurd c (by decide), fun c => absurd c (by decide), fun c => absurd c (by decide), fun c => absurd c (by decide), fun c => absurd c (by decide)⟩
    · subst q
      exact ⟨fun c => absurd c (by decide), fun c => absurd c (by decide), fun c => absurd c (by decide), fun _ => ⟨v8, by rw [hc]; exact a3⟩, fun c => absurd c (by decide), fun c => absurd c (by decide), fun c => absurd c (by decide), fun c => absurd c (by decide), fun c => absurd c (by decide)⟩
    · subst q
      exact ⟨fun c => absurd c (by decide), fun c => absurd c (by decide), fun c => absurd c (by decide), fun c => absurd c (by decide), fun _ => ⟨v8, by rw [hc]; exact a4⟩, fun c => absurd c (by decide), fun c => absurd c (by decide), fun c => absurd c (by decide), fun c => absurd c (by decide)⟩
    · subst q
      exact ⟨fun c => absurd c (by decide), fun c => absurd c (by decide), fun c => absurd c (by decide), fun c => absurd c (by decide), fun c => absurd c (by decide), fun _ => ⟨v8, by rw [hc]; exact a5⟩, fun c => absurd c (by decide), fun c => absurd c (by decide), fun c => absurd c (by decide)⟩
    · subst q
      refine ⟨fun c => absurd c (by decide), fun c => absurd c (by decide), fun c => absurd c (by decide), fun c => absurd c (by decide), fun c => absurd c (by decide), fun c => absurd c (by decide), fun _ => mq_partsOf hM hQ hy (fun _ _ => rfl) (fun k c N hh n P as val st k12 e17 e281 hcc hx => ?_), fun c => absurd c (by decide), fun c => absurd c (by decide)⟩
      have hJc := hJ.c31
      rw [e281] at z
      exact absurd z (nI_nn c (by omega))
    · subst q
      rcases hQ.latest hM hy with ⟨w1, w2⟩ | ⟨k, c, N, hh, n, P, as, val, st, k12, e17, e281, hcc, hx⟩
      · exact absurd w2 z
      · have hJc := hJ.c31
        rw [e281, nI_clamp (n := c) (by omega)]
        have hN := hx.2.2.2.1
        refine ⟨cin_32 rfl hcc, xr_parts hcc hx.2.2.2.2.2.2.1.2.2.1 (by omega) (mono_isMethod hM0 hM8 hy ⟨fun _ => ?_, fun q => absurd q (by decide)⟩)⟩
        refine ⟨fun c => absurd c (by decide), fun c => absurd c (by decide), fun c => absurd c (by decide), fun c => absurd c (by decide), fun c => absurd c (by decide), fun c => absurd c (by decide), fun _ => mq_partsOf hM hQ hy (fun _ w2 => ?_) (fun k' c' N' hh' n' P' as' val' st' k12' e17' e281' hcc' hx' => ?_), fun c => absurd c (by decide), fun c => absurd c (by decide)⟩
        · rw [e281] at w2; exact absurd w2 (nI_nn c (by omega))
        · have e1 : k + 1 = k' + 1 := nI_inj (e17.symm.trans e17') (by omega) (by omega)
          obtain rfl : k = k' := by omega
          exact hx.2.2.2.2.2.2.2.1.symm.trans hx'.2.2.2.2.2.2.2.1
    · subst q
      exact ⟨fun c => absurd c (by decide), fun c => absurd c (by decide), fun c => absurd c (by decide), fun c => absurd c (by decide), fun c => absurd c (by decide), fun c => absurd c (by decide), fun c => absurd c (by decide), fun _ => ⟨v8, by rw [hc]; exact pa5⟩, fun c => absurd c (by decide)⟩
    · subst q
      refine ⟨fun c => absurd c (by decide), fun c => absurd c (by decide), fun c => absurd c (by decide), fun c => absurd c (by decide), fun c => absurd c (by decide), fun c => absurd c (by decide), fun c => absurd c (by decide), fun c => absurd c (by decide), fun _ => ⟨v8, ?_⟩⟩
      rw [hc]
      rcases pa7 with ⟨p1, p2⟩ | ⟨p1, p2, _⟩
      · exact ⟨fun _ => p1, fun n => absurd p2 n⟩
      · exact ⟨fun n => by rw [p1] at n; exact absurd n (by decide), fun _ => ⟨v8, p2⟩⟩
  · unfold wp_X12_of
    exact sp_isMethod hM0 hM8 (fun _ => ⟨fun q => absurd rfl q, fun _ => rfl⟩) (fun m hm e => absurd e (hno m hm))
theorem zq_part {S : CST} {Sm : MST} {a b w : Int32} (hJ : J S) (hM : MI Sm (cnP S)) (hQ : FR1 S Sm) : wp_X11_part S a b w (fun r => wp_X12_part_ Sm a b w (fun r' => r = r')) := by
  have hM8 := hM.1.2.1
  have hM0 := hM.1.1
  have hJc := hJ.c31
  unfold wp_X11_part
  refine xp_X0_at (BK.of hJ hQ.1.1) (fun y hy e => ⟨fun q => absurd q (nI_nn y (by omega)), fun _ => ?_⟩) (fun hno => ⟨fun _ => ?_, fun q => absurd (by decide) q⟩)
  · subst e
    have hc : (nI y).toNatClampNeg = y := nI_clamp (by omega)
    have c28 : cin S 28 y := cin_28 rfl hy
    have c24 : cin S 24 y := cin_24 rfl hy
    rw [hc]
    rcases hQ.latest hM hy with ⟨w1, w2⟩ | ⟨k, c, N, hh, n, P, as, val, st, k12, e17, e281, hcc, hx⟩
    · refine ⟨c24, c28, fun _ => ?_, fun q => absurd w2 q⟩
      unfold wp_X12_part_
      refine mono_isMethod hM0 hM8 hy ⟨fun q => absurd q (by decide), fun _ => mq_partsOf hM hQ hy (fun _ _ => sp_in0 (n := 0) (by omega) rfl (fun _ => ⟨fun q => absurd rfl q, fun _ => rfl⟩) (fun m hm => absurd hm (Nat.not_lt_zero _))) (fun k c N hh n P as val st k12 e17 e281 hcc hx => ?_)⟩
      rw [e281] at w2; exact absurd w2 (nI_nn c (by omega))
    · rw [e281, nI_clamp (n := c) (by omega)]
      have nn : ¬ nI c < 0 := nI_nn c (by omega)
      obtain ⟨x1, x2, x3, x4, x5, x6, ⟨c1, c2, c3, c4, c5, c6⟩, m1, m2, m3⟩ := hx
      -- the reference, by what is asked
      have out : (∀ p : Nat, p < N → ¬ b = nI p) → wp_X12_part_ Sm (nI y) b w (fun r' => (-2147483648 : Int32) = r') := fun hb => by
        unfold wp_X12_part_
        refine mono_isMethod hM0 hM8 hy ⟨fun q => absurd q (by decide), fun _ => mq_partsOf hM hQ hy (fun _ w2 => by rw [e281] at w2; exact absurd w2 nn) (fun k' c' N' hh' n' P' as' val' st' k12' e17' e281' hcc' hx' => ?_)⟩
        have e1 : k + 1 = k' + 1 := nI_inj (e17.symm.trans e17') (by omega) (by omega)
        obtain rfl : k = k' := by omega
        have hN' := hx'.2.2.2.1
        obtain rfl : N' = N := nI_inj (hx'.2.2.2.2.2.2.2.1.symm.trans m1) (by omega) (by omega)
        exact sp_in0 (n := N') (by omega) rfl (fun _ => ⟨fun q => absurd rfl q, fun _ => rfl⟩) (fun p hp e => absurd e (hb p hp))
      have inn : ∀ (p : Nat) (v : Int32), p < N → b = nI p → (((w : Int32).toInt < 0 ∨ 4 < (w : Int32).toInt → v = -2147483648) ∧ (w = 0 → v = Sm 25 (640 * (12 * y + k) + p)) ∧ (w = 1 → v = Sm 26 (640 * (12 * y + k) + p)) ∧ (w = 2 → v = Sm 27 (640 * (12 * y + k) + p)) ∧ (w = 3 → v = Sm 28 (640 * (12 * y + k) + p)) ∧ (w = 4 → v = Sm 29 (640 * (12 * y + k) + p))) → wp_X12_part_ Sm (nI y) b w (fun r' => v = r') := fun p v hp eb hv => by
        unfold wp_X12_part_
        refine mono_isMethod hM0 hM8 hy ⟨fun q => absurd q (by decide), fun _ => mq_partsOf hM hQ hy (fun _ w2 => by rw [e281] at w2; exact absurd w2 nn) (fun k' c' N' hh' n' P' as' val' st' k12' e17' e281' hcc' hx' => ?_)⟩
        have e1 : k + 1 = k' + 1 := nI_inj (e17.symm.trans e17') (by omega) (by omega)
        obtain rfl : k = k' := by omega
        have hN' := hx'.2.2.2.1
        obtain rfl : N' = N := nI_inj (hx'.2.2.2.2.2.2.2.1.symm.trans m1) (by omega) (by omega)
        refine sp_in0 (n := N') (by omega) rfl (fun q => absurd eb (z_out (B := N') (by omega) q p hp)) (fun p' hp' e => ⟨fun _ => mq_codeNow (by omega) e17 ?_, fun q => absurd q (by decide)⟩)
        rw [eb, ix640, nI_clamp (n := 640 * (12 * y + k) + p) (by omega)]
        have vP : vp_in (nI (640 * (12 * y + k) + p)) 61440 := vp_in_nI (by omega) (by omega)
        exact ⟨hv.1, fun q => ⟨vP, hv.2.1 q⟩, fun q => ⟨vP, hv.2.2.1 q⟩, fun q => ⟨vP, hv.2.2.2.1 q⟩, fun q => ⟨vP, hv.2.2.2.2.1 q⟩, fun q => ⟨vP, hv.2.2.2.2.2 q⟩⟩
      refine ⟨c24, c28, fun q => absurd q nn, fun _ => ⟨c24, c28, fun q => absurd q nn, fun _ => ⟨cin_32 rfl hcc, ?_⟩⟩⟩
      unfold wp_X1_cell
      refine ⟨fun cb => out (fun p hp e => nI_nn p (by omega) (by rw [← e]; exact cb)), fun cb => ?_⟩
      obtain ⟨p, rfl, hp⟩ := nI_ofc cb
      refine ⟨cin_32 rfl hcc, xr_parts hcc c3 (by omega) ⟨fun le => out (fun p' hp' e => nI_ge (a := p) (b := N) (by have := nI_inj e (by omega) (by omega); omega) (by omega) le), fun lt => ?_⟩⟩
      have hpN : p < N := Nat.not_le.mp (fun q => lt (nI_le q (by omega)))
      refine ⟨fun cw => inn p _ hpN rfl ⟨fun _ => rfl, ?_, ?_, ?_, ?_, ?_⟩, fun cw => ⟨fun c5' => inn p _ hpN rfl ⟨fun _ => rfl, ?_, ?_, ?_, ?_, ?_⟩, fun c5' => ?_⟩⟩
      iterate 5 (exact fun q => absurd cw (by rw [q]; decide))
      iterate 5 (exact fun q => absurd c5' (by rw [q]; decide))
      obtain ⟨f, rfl, hf⟩ := nI_ofc cw
      have hf5 : f < 5 := Nat.not_le.mp (fun q => c5' (nI_le (a := 5) q (by omega)))
      obtain ⟨r0, r1, r2, r3, r4⟩ := c5 p hpN
      obtain ⟨s0, s1, s2, s3, s4⟩ := m2 p hpN
      rw [c3, nI_clamp (n := 5 * N) (by omega), show (5 : Int32) * nI p + nI f = nI (5 * p + f) by rw [show (5 : Int32) * nI p = nI (5 * p) from nI_mul 5 p, nI_add], nI_clamp (n := 5 * p + f) (by omega)]
      refine ⟨cin_32 rfl hcc, cin_33 rfl hcc, vp_in_nI (by omega) (by omega), inn p _ hpN rfl ?_⟩
      rcases (show f = 0 ∨ f = 1 ∨ f = 2 ∨ f = 3 ∨ f = 4 by omega) with rfl | rfl | rfl | rfl | rfl
      · exact ⟨fun q => absurd q (by decide), fun _ => r0.trans s0.symm, fun q => absurd q (by decide), fun q => absurd q (by decide), fun q => absurd q (by decide), fun q => absurd q (by decide)⟩
      · exact ⟨fun q => absurd q (by decide), fun q => absurd q (by decide), fun _ => r1.trans s1.symm, fun q => absurd q (by decide), fun q => absurd q (by decide), fun q => absurd q (by decide)⟩
      · exact ⟨fun q => absurd q (by decide), fun q => absurd q (by decide), fun q => absurd q (by decide), fun _ => r2.trans s2.symm, fun q => absurd q (by decide), fun q => absurd q (by decide)⟩
      · exact ⟨fun q => absurd q (by decide), fun q => absurd q (by decide), fun q => absurd q (by decide), fun q => absurd q (by decide), fun _ => r3.trans s3.symm, fun q => absurd q (by decide)⟩
      · exact ⟨fun q => absurd q (by decide), fun q => absurd q (by decide), fun q => absurd q (by decide), fun q => absurd q (by decide), fun q => absurd q (by decide), fun _ => r4.trans s4.symm⟩
  · unfold wp_X12_part_
    exact sp_isMethod hM0 hM8 (fun _ => ⟨fun _ => rfl, fun q => absurd rfl q⟩) (fun m hm e => absurd e (hno m hm))
