/-! BOTH between calls: what varies; what calls leave of METHODS they don't speak of -/
theorem mr_in10 {x : Nat} {Post : Int32 → Prop} (hx : x < 2 ^ 31) (h0 : (x < 10 ∨ 17 < x) → Post 0) (h1 : 10 ≤ x → x ≤ 17 → Post 1) : wp_X12_in (nI x).toInt64 10 17 Post := by
  have t10 : (10 : Int64).toInt = 10 := by decide
  have t17 : (17 : Int64).toInt = 17 := by decide
  refine sp_inL (fun q => h0 ?_) (fun q1 q2 => h1 ?_ ?_)
  · rw [t10, t17, nI_toInt hx] at q; omega
  · rw [t10, nI_toInt hx] at q1; omega
  · rw [t17, nI_toInt hx] at q2; omega
theorem xr_isVarying {S : CST} {y t : Nat} {Post : Int32 → Prop} (hy : y < cnP S) (ht : t < 11) (h0 : cv S 310 y t = 0 → Post 0) (h1 : ¬ cv S 310 y t = 0 → Post 1) : wp_X5_isVarying S y (nI t) Post := by
  unfold wp_X5_isVarying
  rw [nI_clamp (n := t) (by omega)]
  exact ⟨fun q => absurd q (nI_nn t (by omega)), fun _ => ⟨fun q => absurd q (nI_ge (a := t) (b := 11) (by omega) (by omega)), fun _ => ⟨cin_28 rfl hy, cin_31 rfl hy, vp_in_nI ht (by omega), h0, h1⟩⟩⟩
theorem zq_varies {S : CST} {Sm : MST} {a w : Int32} (hJ : J S) (hM : MI Sm (cnP S)) (hQ : FR1 S Sm) : wp_X11_varies S a w (fun r => wp_X12_varies Sm a w (fun r' => r = r')) := by
  have hM8 := hM.1.2.1
  have hM0 := hM.1.1
  unfold wp_X11_varies
  refine xp_X0_at (BK.of hJ hQ.1.1) (fun y hy e => ⟨fun q => absurd q (nI_nn y (by omega)), fun _ => ?_⟩) (fun hno => ⟨fun _ => ?_, fun q => absurd (by decide) q⟩)
  · subst e
    have hc : (nI y).toNatClampNeg = y := nI_clamp (by omega)
    have c28 : cin S 28 y := cin_28 rfl hy
    have c24 : cin S 24 y := cin_24 rfl hy
    have a6 := (hQ.1.2.2.2.1 y hy).2.2.2.2.2.1
    rw [hc]
    have t3 : ∀ x : Nat, x < 2 ^ 31 → ((3 : Int32) ≤ nI x ↔ 3 ≤ x) := fun x hx => ⟨fun q => Nat.not_lt.mp (fun c => nI_ge (a := x) (b := 3) c (by omega) q), fun q => nI_le (a := 3) q hx⟩
    have ref3 : ∀ (x : Nat) (v : Int32), x < 3 → (Sm 22 (11 * y + x) = 0 → v = 0) → (¬ Sm 22 (11 * y + x) = 0 → v = 1) → wp_X12_varies Sm (nI y) (nI x) (fun r' => v = r') := fun x v hx v0 v1 => by
      unfold wp_X12_varies
      refine mono_isMethod hM0 hM8 hy ⟨fun q => absurd q (by decide), fun _ => mr_in (k := 2) (by decide) (by omega) (fun q => absurd rfl (q x (by omega))) (fun _ _ _ => ⟨fun _ => ⟨fun q => absurd ((t3 x (by omega)).mp q) (by omega), fun _ => ?_⟩, fun q => absurd q (by decide)⟩)⟩
      rw [ix11, nI_clamp (n := 11 * y + x) (by omega)]
      exact ⟨vp_in_nI (by omega) (by omega), v0, v1⟩
    have ref10 : ∀ (t : Nat) (v : Int32), t < 8 → (Sm 22 (11 * y + (3 + t)) = 0 → v = 0) → (¬ Sm 22 (11 * y + (3 + t)) = 0 → v = 1) → wp_X12_varies Sm (nI y) (nI (10 + t)) (fun r' => v = r') := fun t v ht v0 v1 => by
      unfold wp_X12_varies
      refine mono_isMethod hM0 hM8 hy ⟨fun q => absurd q (by decide), fun _ => mr_in (k := 2) (by decide) (by omega) (fun _ => ⟨fun q => absurd rfl q, fun _ => mr_in10 (by omega) (fun q => absurd q (by omega)) (fun _ _ => ⟨fun _ => ⟨fun _ => ?_, fun q => absurd ((t3 (10 + t) (by omega)).mpr (by omega)) q⟩, fun q => absurd q (by decide)⟩)⟩) (fun x hx e => absurd (nI_inj e (by omega) (by omega)) (by omega))⟩
      rw [show (nI (10 + t) - 7 : Int32) = nI (3 + t) by rw [show (7 : Int32) = nI 7 from rfl, nI_sub (by omega)]; congr 1; omega, ix11, nI_clamp (n := 11 * y + (3 + t)) (by omega)]
      exact ⟨vp_in_nI (by omega) (by omega), v0, v1⟩
    have bad : ((¬ w < 0) → ∃ x : Nat, x < 2 ^ 31 ∧ w = nI x ∧ ¬ x < 3 ∧ (x < 10 ∨ 17 < x)) → wp_X12_varies Sm (nI y) w (fun r' => (-2 : Int32) = r') := fun hb => by
      unfold wp_X12_varies
      refine mono_isMethod hM0 hM8 hy ⟨fun q => absurd q (by decide), fun _ => ?_⟩
      by_cases c : w < 0
      · have c1 : w.toInt < 0 := by rw [Int32.lt_iff_toInt_lt] at c; simpa using c
        exact sp_inL (fun _ => ⟨fun q => absurd rfl q, fun _ => sp_inL (fun _ => ⟨fun q => absurd rfl q, fun _ => rfl⟩) (fun q1 _ => by
          have t10 : (10 : Int64).toInt = 10 := by decide
          rw [t10] at q1; omega)⟩) (fun q1 _ => by
          have t0 : (0 : Int64).toInt = 0 := by decide
          rw [t0] at q1; omega)
      · obtain ⟨x, hx, rfl, h3, h10⟩ := hb c
        exact mr_in (k := 2) (by decide) (by omega) (fun _ => ⟨fun q => absurd rfl q, fun _ => mr_in10 hx (fun _ => ⟨fun q => absurd rfl q, fun _ => rfl⟩) (fun _ _ => by omega)⟩) (fun x' hx' e => absurd (nI_inj e hx (by omega)) (by omega))
    by_cases c : w < 0
    · have l10 : w < 10 := Int32.not_le.mp (fun q => Int32.not_le.mpr c (Int32.le_trans (show (0 : Int32) ≤ 10 by decide) q))
      exact ⟨fun _ => ⟨fun _ => bad (fun q => absurd c q), fun q => absurd l10 q⟩, fun q => absurd c q⟩
    · obtain ⟨x, rfl, hx⟩ := nI_ofc c
      have hx31 : x < 2 ^ 31 := by omega
      have l10 : nI x < 10 ↔ x < 10 := ⟨fun q => Nat.not_le.mp (fun z => absurd q (Int32.not_lt.mpr (nI_le (a := 10) z hx31))), fun q => Int32.not_le.mp (nI_ge (a := x) (b := 10) q (by omega))⟩
      have g18 : (18 : Int32) ≤ nI x ↔ 18 ≤ x := ⟨fun q => Nat.not_lt.mp (fun z => nI_ge (a := x) (b := 18) z (by omega) q), fun q => nI_le (a := 18) q hx31⟩
      refine ⟨fun q => absurd q c, fun _ => ⟨fun q3 => ⟨fun q10 => bad (fun _ => ⟨x, hx31, rfl, by have := (t3 x hx31).mp q3; omega, Or.inl (l10.mp q10)⟩), fun q10 => ⟨fun q18 => bad (fun _ => ⟨x, hx31, rfl, by have := (t3 x hx31).mp q3; omega, Or.inr (by have := g18.mp q18; omega)⟩), fun q18 => ⟨c24, c28, ?_⟩⟩⟩, fun q3 => ⟨fun q10 => ⟨c24, c28, ?_⟩, fun q10 => absurd (l10.mpr (Nat.lt_of_lt_of_le (Nat.not_le.mp (fun z => q3 ((t3 x hx31).mpr z))) (show 3 ≤ 10 by decide))) q10⟩⟩⟩
      · have x10 : 10 ≤ x := Nat.not_lt.mp (fun z => q10 (l10.mpr z))
        have x18 : x < 18 := Nat.not_le.mp (fun z => q18 (g18.mpr z))
        obtain ⟨t, rfl⟩ : ∃ t : Nat, x = 10 + t := ⟨x - 10, by omega⟩
        rw [show ((3 : Int32) + nI (10 + t)) - 10 = nI (3 + t) by rw [show (3 : Int32) + nI (10 + t) = nI (3 + (10 + t)) from nI_add 3 _, show (10 : Int32) = nI 10 from rfl, nI_sub (by omega)]; congr 1; omega]
        refine xr_isVarying hy (by omega) (fun z => ⟨fun _ => ref10 t 0 (by omega) (fun _ => rfl) (fun n => absurd (by rw [← a6 (3 + t) (by omega)]; exact z) n), fun q => absurd rfl q⟩) (fun z => ⟨fun q => absurd q (by decide), fun _ => ref10 t 1 (by omega) (fun n => absurd (by rw [a6 (3 + t) (by omega)]; exact n) z) (fun _ => rfl)⟩)
      · have x3 : x < 3 := Nat.not_le.mp (fun z => q3 ((t3 x hx31).mpr z))
        exact xr_isVarying hy (by omega) (fun z => ⟨fun _ => ref3 x 0 x3 (fun _ => rfl) (fun n => absurd (by rw [← a6 x (by omega)]; exact z) n), fun q => absurd rfl q⟩) (fun z => ⟨fun q => absurd q (by decide), fun _ => ref3 x 1 x3 (fun n => absurd (by rw [a6 x (by omega)]; exact n) z) (fun _ => rfl)⟩)
  · have ref : wp_X12_varies Sm a w (fun r' => (-2 : Int32) = r') := by
      unfold wp_X12_varies
      exact sp_isMethod hM0 hM8 (fun _ => ⟨fun _ => rfl, fun q => absurd rfl q⟩) (fun m hm e => absurd e (hno m hm))
    exact ⟨fun _ => ⟨fun _ => ref, fun _ => ⟨fun _ => ref, fun _ => ref⟩⟩, fun _ => ⟨fun _ => ⟨fun _ => ref, fun _ => ⟨fun _ => ref, fun _ => ref⟩⟩, fun _ => ⟨fun _ => ref, fun _ => ⟨fun _ => ref, fun _ => ref⟩⟩⟩⟩
/-- a METHOD that a call doesn't speak of -/
theorem BkM.same {Sm Sm' : MST} {z : Nat} (h : BkM Sm z) (h3 : Sm' 3 z = Sm 3 z) (hp : ∀ k j : Nat, k = 4 ∨ k = 5 ∨ k = 7 → j < 60 → Sm' k (60 * z + j) = Sm k (60 * z + j)) : BkM Sm' z := by
  intro n i hn hn60 hi h0 hl
  rw [h3] at hn
  rw [hp 7 i (by omega) (by omega)] at hl
  rcases h n i hn hn60 hi h0 hl with ⟨j, b1, b2, b3, b4⟩ | ⟨b1, b2, b3⟩
  · exact Or.inl ⟨j, b1, by rw [hp 7 j (by omega) (by omega)]; exact b2, by rw [hp 4 j (by omega) (by omega)]; exact b3, by rw [hp 5 j (by omega) (by omega)]; exact b4⟩
  · exact Or.inr ⟨by rw [hp 7 (i - 1) (by omega) (by omega)]; exact b1, by rw [hp 4 (i - 1) (by omega) (by omega)]; exact b2, by rw [hp 4 (i - 1) (by omega) (by omega)]; exact b3⟩
theorem PlR.same {S S' : CST} {z : Nat} (h : PlR S z) (p2 : cnC S ≤ cnC S') (hp : ∀ k : Nat, k = 247 ∨ k = 248 ∨ k = 249 ∨ k = 250 ∨ k = 260 ∨ k = 270 → cv S' k z = cv S k z) (hc : ∀ k c : Nat, 320 ≤ k → c < cnC S → cv S' k c = cv S k c) : PlR S' z := by
  intro h248
  rw [hp 248 (by omega)] at h248
  obtain ⟨c, n, x1, x2, x3, x4, x5⟩ := h h248
  have el : lvC S' z = lvC S z := funext fun i => by unfold lvC; rw [hp 250 (by omega), hp 270 (by omega)]
  refine ⟨c, n, by rw [hp 249 (by omega)]; exact x1, by omega, by rw [hp 247 (by omega)]; exact x3, x4, ?_⟩
  unfold PlC at x5 ⊢
  rw [el, hc 320 c (by decide) x2, hc 321 c (by decide) x2, hc 349 c (by decide) x2, hc 339 c (by decide) x2, hc 340 c (by decide) x2, hc 330 c (by decide) x2, hp 250 (by omega), hp 260 (by omega), hp 270 (by omega)]
  exact x5
theorem CdX.same2 {S S' : CST} {Sm Sm' : MST} {y j c N h n : Nat} {P : Nat → T5} {as : Nat → Bool} {val : Nat → Int32} {st : Nat → Nat} (hx : CdX S Sm y j c N h n P as val st) (e : ∀ k : Nat, 320 ≤ k → cv S' k c = cv S k c) (e3 : Sm' 3 y = Sm 3 y) (e7 : ∀ i : Nat, i < 60 → Sm' 7 (60 * y + i) = Sm 7 (60 * y + i)) (ep : ∀ k : Nat, 23 ≤ k → k ≤ 29 → Sm' k = Sm k) : CdX S' Sm' y j c N h n P as val st := by
  obtain ⟨h1, h2, h3, h4, h5, h6, ⟨c1, c2, c3, c4, c5, c6⟩, m1, m2, m3⟩ := hx
  refine ⟨by rw [e3]; exact h1, h2, h3, h4, h5, h6, ⟨by rw [e 320 (by decide)]; exact c1, by rw [e 321 (by decide)]; exact c2, by rw [e 339 (by decide)]; exact c3, by rw [e 349 (by decide)]; exact c4, fun p hp => by rw [e 330 (by decide)]; exact c5 p hp, fun i hi hl => ?_⟩, by rw [ep 23 (by decide) (by decide)]; exact m1, fun p hp => ?_, fun i hi hl => ?_⟩
  · rw [e 340 (by decide)]
    exact c6 i hi (by show ¬ Sm 7 (60 * y + i) = -1; rw [← e7 i (by omega)]; exact hl)
  · rw [ep 25 (by decide) (by decide), ep 26 (by decide) (by decide), ep 27 (by decide) (by decide), ep 28 (by decide) (by decide), ep 29 (by decide) (by decide)]
    exact m2 p hp
  · rw [ep 24 (by decide) (by decide)]
    exact m3 i hi (by show ¬ Sm 7 (60 * y + i) = -1; rw [← e7 i (by omega)]; exact hl)
/-- all but PR, behind a call that leaves heat, codes, FIELDS, ROWS and the latest run as they were -/
theorem FR1.tell {S S' : CST} {Sm Sm' : MST} (hM : MI Sm (cnP S)) (hQ : FR1 S Sm) (hPR : PR S' Sm') (p1 : cnP S ≤ cnP S') (p2 : cnC S ≤ cnC S') (hB : ∀ z : Nat, z < cnP S' → (cnP S ≤ z ∨ Sm 6 z = 0) → Sm' 6 z = 1 → BkM Sm' z) (hP : ∀ z : Nat, z < cnP S' → (cnP S ≤ z ∨ Sm 6 z = 0) → PlR S' z) (hH : ∀ z : Nat, cnP S ≤ z → z < cnP S' → HtR S' Sm' z) (h40 : ∀ k : Nat, k = 40 ∨ k = 50 ∨ k = 60 ∨ k = 200 ∨ k = 202 ∨ k = 203 ∨ k = 204 ∨ k = 205 ∨ k = 210 → cv S' k 0 = cv S k 0) (hh : ∀ k z : Nat, (280 ≤ k ∧ k ≤ 285) ∨ k = 290 ∨ k = 300 ∨ k = 310 → z < cnP S → cv S' k z = cv S k z) (hc : ∀ k c : Nat, 320 ≤ k → c < cnC S → cv S' k c = cv S k c)
    (hm : ∀ k : Nat, 12 ≤ k → Sm' k = Sm k) (h3 : ∀ z : Nat, z < cnP S → Sm 6 z = 1 → Sm' 3 z = Sm 3 z) (hp : ∀ k z j : Nat, k = 4 ∨ k = 5 ∨ k = 7 → z < cnP S → Sm 6 z = 1 → j < 60 → Sm' k (60 * z + j) = Sm k (60 * z + j)) (h6 : ∀ z : Nat, z < cnP S → Sm 6 z = 1 → Sm' 6 z = 1) (hcp : ∀ k z : Nat, k = 247 ∨ k = 248 ∨ k = 249 ∨ k = 250 ∨ k = 260 ∨ k = 270 → z < cnP S → Sm 6 z = 1 → cv S' k z = cv S k z) : FR1 S' Sm' := by
  obtain ⟨⟨_, g2, g3, g4, g5⟩, ⟨d1, d2⟩, t1, t2, t3, t4, t5, t6, t7⟩ := hQ
  have h60 : ∀ z : Nat, z < cnP S → Sm 6 z = 0 ∨ Sm 6 z = 1 := fun z hz => ((hM.1.2.2.2.1 z hz).imp id (fun w => w.1))
  refine ⟨⟨hPR, fun z hz hz1 => ?_, fun z hz => ?_, fun z hz => ?_, fun z a b => ?_⟩, ⟨fun f hf => by rw [h40 40 (by omega), hm 12 (by omega)]; exact d1 f hf, fun r hr => by rw [h40 50 (by omega), h40 60 (by omega), hm 13 (by omega), hm 14 (by omega)]; exact d2 r hr⟩, by rw [h40 200 (by omega), hm 48 (by omega)]; exact t1, by rw [hm 48 (by omega)]; exact t2, by rw [h40 202 (by omega), hm 45 (by omega)]; exact t3, by rw [h40 203 (by omega), hm 46 (by omega)]; exact t4, by rw [h40 204 (by omega), hm 47 (by omega)]; exact t5, by rw [h40 205 (by omega), hm 49 (by omega)]; exact t6, fun t ht => by rw [h40 210 (by omega), hm 50 (by omega)]; exact t7 t ht⟩
  · rcases Nat.lt_or_ge z (cnP S) with w | w
    · rcases h60 z w with w6 | w6
      · exact hB z hz (Or.inr w6) hz1
      · exact (g2 z w w6).same (h3 z w w6) (fun k j hk hj => hp k z j hk w w6 hj)
    · exact hB z hz (Or.inl w) hz1
  · rcases Nat.lt_or_ge z (cnP S) with w | w
    · rcases h60 z w with w6 | w6
      · exact hP z hz (Or.inr w6)
      · exact (g3 z w).same p2 (fun k hk => hcp k z hk w w6) hc
    · exact hP z hz (Or.inl w)
  · rcases Nat.lt_or_ge z (cnP S) with w | w
    · refine (g4 z w).keep p2 (fun k hk => hh k z hk w) (fun k a b => by rw [hm k (by omega)]) (fun k t a b _ => by rw [hm k (by omega)]) (fun k c hk hcc h17 hx => ?_)
      have w6 : Sm 6 z = 1 := by
        rcases h60 z w with w6 | w6
        · have hz8 := hM.1.2.1
          have := (hM.2.2.2 z (by omega) w6).2
          rw [h17] at this
          exact absurd (nI_inj (b := 0) this (by omega) (by omega)) (by omega)
        · exact w6
      obtain ⟨N, h, n, P, as, val, st, hx⟩ := hx
      exact ⟨N, h, n, P, as, val, st, hx.same2 (fun q hq => hc q c hq hcc) (h3 z w w6) (fun i hi => hp 7 z i (by omega) w w6 hi) (fun q a b => hm q (by omega))⟩
    · exact hH z w hz
  · rw [hm 16 (by omega), hm 18 (by omega), hm 19 (by omega), hm 22 (by omega)]
    exact g5 z (by omega) b
