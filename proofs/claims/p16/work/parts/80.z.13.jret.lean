/-! BOTH: a GUARD fails, a call is over -/
theorem jn_fail {S Sp S1 : CST} {Sm Smp Sm1 : MST} {f s m j c N h n p t i' k pl : Nat} {P : Nat → T5} {as : Nat → Bool} {val : Nat → Int32} {st : Nat → Nat} (hM8 : cnP S ≤ 8) (hR : RnR S Sm (f + 1) s) (hF : FrC S Sm f m) (h40 : Sm 40 f = nI (12 * m + j)) (hj : j < 12) (h221 : cv S 221 f 0 = nI c) (hc : c < cnC S) (hx : CdX S Sm m j c N h n P as val st) (ht : t < 11) (hk : Sm 17 m = nI k) (hk1 : 1 ≤ k) (hk12 : k ≤ 12) (hi60 : i' ≤ 60) (h249 : cv S 249 m 0 = nI pl) (hpl : pl < cnC S)
    (ep : Sp = cs S 222 f (fun _ => nI (p + 1))) (epm : Smp = ms Sm 39 (upd (Sm 39) f (nI (p + 1)))) {place : Nat} (hg : GuC Sp S1 f m t pl place (¬ cv Sp 280 m 0 = 0 ∧ cv Sp 283 m 0 = cv Sp 320 c 0)) (hfm : FaM Smp Sm1 f m t i' (¬ Smp 15 m = 0 ∧ Smp 40 f = nI (12 * m + (k - 1)))) (hplace : place = posN (lvC S m) i') : RnR S1 Sm1 (f + 1) s := by
  obtain ⟨h1, h2, h3, h4, h5, h6, h7, h8, h9, _, hW⟩ := hR
  obtain ⟨ge, g204, g284, g310, go, g221, g222, gof, gc⟩ := hg
  obtain ⟨fe, f18, f47, f22, f40, f39, f41, fc⟩ := hfm
  have eSp : Ex [222] S Sp := by rw [ep]; exact Ex.cs (by decide) Ex.rf
  have e : Ex [204, 221, 222, 280, 282, 284, 310] S S1 := Ex.step ge (by decide) (Ex.step eSp (by decide) Ex.rf)
  have np : ∀ q : Nat, q ≠ 39 → Smp q = Sm q := fun q a => by rw [epm, ms_n _ _ a]
  have eSm : Fm [39] Sm Smp := Fm.put epm rfl Fm.rf
  have em : Fm [15, 16, 18, 22, 39, 40, 41, 47] Sm Sm1 := Fm.step fe (by decide) (Fm.step eSm (by decide) Fm.rf)
  have p1 : cnP S1 = cnP S := congrArg Prod.fst e.1
  have p2 : cnC S1 = cnC S := congrArg Prod.snd e.1
  have cp : ∀ q i : Nat, q ≠ 222 → cv Sp q i = cv S q i := fun q i a => by rw [ep, cs_n _ _ (fun w => a w.1)]
  have c222 : ∀ g : Nat, g ≠ f → cv Sp 222 g = cv S 222 g := fun g hgf => by rw [ep, cs_i hgf]
  have o39 : ∀ g : Nat, g ≠ f → Smp 39 g = Sm 39 g := fun g hgf => by rw [epm, ms_s, upd_n _ _ hgf]
  have hm : m < 8 := by have := hF.1; omega
  have kp : ∀ {y' j' c' N' h' n' : Nat} {P' : Nat → T5} {as' : Nat → Bool} {val' : Nat → Int32} {st' : Nat → Nat}, CdX S Sm y' j' c' N' h' n' P' as' val' st' → CdX S1 Sm1 y' j' c' N' h' n' P' as' val' st' := fun hx => hx.ex e rfl em rfl
  have kR : ∀ {y' j' c' : Nat}, CdR S Sm y' j' c' → CdR S1 Sm1 y' j' c' := fun ⟨N, h, n, P, as, val, st, hx⟩ => ⟨N, h, n, P, as, val, st, kp hx⟩
  obtain ⟨a1, a2, a3, a4, a5, a6, ⟨c0, b1, b2, b3⟩, a8, a9⟩ := h1.2.2.2.1 m hF.1
  -- both throw it away, or neither
  have thr : (¬ cv Sp 280 m 0 = 0 ∧ cv Sp 283 m 0 = cv Sp 320 c 0) ↔ (¬ Smp 15 m = 0 ∧ Smp 40 f = nI (12 * m + (k - 1))) := by
    rw [cp 280 m (by decide), cp 283 m (by decide), cp 320 c (by decide), np 15 (by decide), np 40 (by decide), a1, a3, hk, hx.2.2.2.2.2.2.1.1, h40]
    refine ⟨fun q => ⟨q.1, ?_⟩, fun q => ⟨q.1, ?_⟩⟩
    · have := nI_inj q.2 (by omega) (by omega)
      congr 1; omega
    · have := nI_inj q.2 (by omega) (by omega)
      congr 1; omega
  have hQ : ∀ z : Nat, cnP S ≤ z → z < 8 → Sm1 16 z = Sm 16 z ∧ Sm1 18 z = Sm 18 z ∧ Sm1 19 z = Sm 19 z ∧ ∀ t : Nat, t < 11 → Sm1 22 (11 * z + t) = Sm 22 (11 * z + t) := fun z a b => by
    have hm' := hF.1
    refine ⟨?_, by rw [f18, upd_n _ _ (by omega), np 18 (by decide)], by rw [em 19 rfl], fun u hu => by rw [f22, upd_n _ _ (by omega), np 22 (by decide)]⟩
    rcases fc with ⟨_, _, y2⟩ | ⟨_, _, y2⟩
    · rw [y2, upd_n _ _ (by omega), np 16 (by decide)]
    · rw [y2, np 16 (by decide)]
  refine ⟨h1.heat e.1 (fun z hz => e.2 z ?_) (fun z hz => em.k (by simp; omega)) (fun z hz => ?_) hQ, h2.same (e.2 40 rfl) (e.2 50 rfl) (e.2 60 rfl) (em 12 rfl) (em 13 rfl) (em 14 rfl), ?_, by rw [e.2 126 rfl]; exact h4, by rw [e.2 127 rfl]; exact h5, by rw [e.2 128 rfl]; exact h6, by rw [e.2 201 rfl]; exact h7, by rw [em 44 rfl]; exact h8, h9, ⟨m, ?_⟩, fun g hg => ?_⟩
  · cases hcn : [204, 221, 222, 280, 282, 284, 310].contains z with
    | false => rfl
    | true =>
      simp at hcn
      rcases hcn with w | w | w | w | w | w | w <;> (rw [w] at hz; exact absurd hz (by decide))
  · by_cases w : z = m
    · subst w
      have t284 : cv S1 284 z 0 = Sm1 18 z := by rw [g284, cp 284 z (by decide), f18, np 18 (by decide), upd_s, a4]
      have t310 : ∀ u : Nat, u < 11 → cv S1 310 z u = Sm1 22 (11 * z + u) := fun u hu => by
        rw [g310, cp 310 z (by decide), f22, np 22 (by decide)]
        by_cases w2 : u = t
        · rw [w2, upd_s, upd_s]
        · rw [upd_n _ _ w2, upd_n _ _ (by omega)]; exact a6 u hu
      have t8 : Sm1 17 z = 0 → cv S1 281 z 0 < 0 := fun q => by
        rw [em 17 rfl] at q; rw [e.2 281 rfl]; exact a8 q
      have t9 : ∀ k : Nat, k < 12 → Sm1 17 z = nI (k + 1) → ∃ c : Nat, cv S1 281 z 0 = nI c ∧ c < cnC S1 ∧ CdR S1 Sm1 z k c := fun k' hk' q => by
        rw [em 17 rfl] at q
        obtain ⟨c', d1, d2, d3⟩ := a9 k' hk' q
        exact ⟨c', by rw [e.2 281 rfl]; exact d1, by omega, kR d3⟩
      have t283 : cv S1 283 z 0 = Sm1 17 z := by rw [e.2 283 rfl, em 17 rfl]; exact a3
      have t285 : cv S1 285 z 0 = Sm1 19 z := by rw [e.2 285 rfl, em 19 rfl]; exact a5
      rcases gc with ⟨gt, x1, x2⟩ | ⟨gt, x1, x2⟩
      · obtain ⟨_, y1, y2⟩ := fc.resolve_right (fun q => q.1 (thr.mp gt))
        exact ⟨by rw [x1, y1, upd_s], by rw [x2, y2, upd_s], t283, t284, t285, t310, ⟨0, by omega, by rw [y2, upd_s]; rfl, fun q => absurd q (by omega)⟩, t8, t9⟩
      · obtain ⟨_, y1, y2⟩ := fc.resolve_left (fun q => gt (thr.mpr q.1))
        refine ⟨by rw [x1, y1, cp 280 z (by decide), np 15 (by decide)]; exact a1, by rw [x2, y2, cp 282 z (by decide), np 16 (by decide)]; exact a2, t283, t284, t285, t310, ⟨c0, b1, by rw [y2, np 16 (by decide)]; exact b2, fun q u hu => ?_⟩, t8, t9⟩
        rw [e.2 290 rfl, e.2 300 rfl, em 20 rfl, em 21 rfl]; exact b3 q u hu
    · obtain ⟨o1, o2, o3, o4⟩ := go z w
      refine (h1.2.2.2.1 z hz).keep (by omega) (fun k' hk' => ?_) (fun k' a b => ?_) (fun k' u a b hu => ?_) (fun k' c' _ _ _ hx => kR hx)
      · by_cases w2 : k' = 280
        · rw [w2, o3, cp 280 z (by decide)]
        · by_cases w3 : k' = 282
          · rw [w3, o4, cp 282 z (by decide)]
          · by_cases w4 : k' = 284
            · rw [w4, o1, cp 284 z (by decide)]
            · by_cases w5 : k' = 310
              · rw [w5, o2, cp 310 z (by decide)]
              · rw [e.k (by simp; omega)]
      · by_cases w2 : k' = 18
        · rw [w2, f18, upd_n _ _ w, np 18 (by decide)]
        · by_cases w3 : k' = 15
          · rw [w3]
            rcases fc with ⟨_, y1, _⟩ | ⟨_, y1, _⟩
            · rw [y1, upd_n _ _ w, np 15 (by decide)]
            · rw [y1, np 15 (by decide)]
          · by_cases w4 : k' = 16
            · rw [w4]
              rcases fc with ⟨_, _, y2⟩ | ⟨_, _, y2⟩
              · rw [y2, upd_n _ _ w, np 16 (by decide)]
              · rw [y2, np 16 (by decide)]
            · rw [em.k (by simp; omega)]
      · by_cases w2 : k' = 22
        · rw [w2, f22, upd_n _ _ (by omega), np 22 (by decide)]
        · rw [em.k (by simp; omega)]
  · obtain ⟨t1, t2, t3, t4, t5, t6, t7⟩ := h3
    exact ⟨by rw [e.2 200 rfl, em 48 rfl]; exact t1, by rw [em 48 rfl]; exact t2, by rw [e.2 202 rfl, em 45 rfl]; exact t3, by rw [e.2 203 rfl, em 46 rfl]; exact t4, by rw [g204, cp 204 0 (by decide), f47, np 47 (by decide), t5], by rw [e.2 205 rfl, em 49 rfl]; exact t6, fun t ht => by rw [e.2 210 rfl, em 50 rfl]; exact t7 t ht⟩
  · rw [show f + 1 - 1 = f by omega]
    have el : lvC S1 m = lvC S m := funext fun i => by unfold lvC; rw [e.2 250 rfl, e.2 270 rfl]
    exact ⟨⟨by rw [p1]; exact hF.1, by rw [e.2 220 rfl]; exact hF.2.1, by rw [em 38 rfl]; exact hF.2.2.1, fun u hu => by rw [e.2 230 rfl, em 42 rfl]; exact hF.2.2.2 u hu⟩, Or.inl ⟨by rw [f40, upd_s], i', pl, hi60, by rw [f39, upd_s], g221, by rw [e.2 249 rfl]; exact h249, by omega, by rw [g222, hplace, el]⟩⟩
  · obtain ⟨m', d, w1, w2, w3, w4⟩ := hW g hg
    have hm' := w2.1
    have hgf : g ≠ f := by omega
    exact ⟨m', d, w1, w2.keep p1 (by rw [e.2 220 rfl]) (by rw [e.2 230 rfl]) (by rw [em 38 rfl]) (fun u hu => by rw [em 42 rfl]), w3.keep (by omega) (by omega) (by rw [(gof g hgf).1, cp 221 g (by decide)]) (by rw [(gof g hgf).2, c222 g hgf]) (e.2 249 rfl) (e.2 250 rfl) (e.2 270 rfl) (by rw [f39, upd_n _ _ hgf, o39 g hgf]) (by rw [f40, upd_n _ _ hgf, np 40 (by decide)]) (by rw [f41, upd_n _ _ hgf, np 41 (by decide)]) (em 5 rfl) (em 1 rfl) (fun u hu => by rw [em 42 rfl]) (fun _ _ _ _ _ _ _ _ _ _ _ _ hx => kp hx), by rw [e.2 223 rfl]; exact w4⟩
theorem posN_s {L : Nat → Bool} {i : Nat} (h : L i = true) : posN L (i + 1) = posN L i + 1 := by
  show posN L i + (if L i = true then 1 else 0) = _
  rw [if_pos h]
theorem posN_n {L : Nat → Bool} {i : Nat} (h : L i = false) : posN L (i + 1) = posN L i := by
  show posN L i + (if L i = true then 1 else 0) = _
  rw [h]; rfl
/-- a call is over -/
theorem zc_ret {S Sp : CST} {Sm Smp : MST} {f s : Nat} {v : Int32} {Post : CST → MST → Prop} (hM8 : cnP S ≤ 8) (hC : cnC S ≤ 2 ^ 31) (hR : RnR S Sm (f + 1) s) (hf : f < 16) (h37 : Sm 37 0 = nI (f + 1)) (ep : Ex [222] S Sp) (ep2 : ∀ g : Nat, g ≠ f → cv Sp 222 g = cv S 222 g) (epm : Fm [39, 41] Sm Smp) (epm2 : ∀ g : Nat, g ≠ f → Smp 39 g = Sm 39 g ∧ Smp 41 g = Sm 41 g)
    (hen : ∀ (S' : CST) (Sm' : MST), EnR S' Sm' → Post S' Sm') (hgo : ∀ (S' : CST) (Sm' : MST), 1 ≤ f → Sm' 37 0 = nI f → Sm' 43 0 = Sm 43 0 → RnR S' Sm' f s → Post S' Sm') : wp_X7_giveBack Sp f v (fun S1 => wp_X12_returns Smp v (fun Sm1 => Post S1 Sm1)) := by
  obtain ⟨h1, h2, h3, h4, h5, h6, h7, h8, h9, _, hW⟩ := hR
  unfold wp_X7_giveBack
  rw [ep.2 126 rfl, h4, nI_m1 (by omega), show f + 1 - 1 = f by omega]
  intro S3 e3
  have c3 : ∀ q i : Nat, q ≠ 126 → cv S3 q i = cv Sp q i := fun q i a => by rw [e3, cs_n _ _ (fun w => a w.1)]
  have x3 : Ex [126, 222] S S3 := by rw [e3]; exact Ex.cs (by decide) (Ex.step ep (by decide) Ex.rf)
  have g126 : cv S3 126 0 0 = nI f := by rw [e3, cs_s]
  rcases Nat.eq_zero_or_pos f with f0 | f1
  · subst f0
    refine xr_latest0 g126 ⟨fun _ S9 e9 S11 e11 => ?_, fun q => absurd (by decide) q⟩
    unfold wp_X12_returns
    rw [epm 37 rfl, h37, nI_m1 (by omega)]
    intro S1 e1
    have z1 : S1 37 0 = 0 := by rw [e1, ms_s]; rfl
    rw [z1]
    refine ⟨fun q => absurd rfl q, fun _ S22 e22 S23 e23 => hen S11 S23 ?_⟩
    have e : Ex [126, 127, 205, 222] S S11 := by rw [e11, e9]; exact Ex.cs (by decide) (Ex.cs (by decide) (Ex.step x3 (by decide) Ex.rf))
    have em : Fm [37, 39, 41, 43, 49] Sm S23 := Fm.put e23 rfl (Fm.put e22 rfl (Fm.put e1 rfl (Fm.step epm (by decide) Fm.rf)))
    obtain ⟨t1, t2, t3, t4, t5, t6, t7⟩ := h3
    refine ⟨⟨h1.ex e rfl em rfl, h2.same (e.2 40 rfl) (e.2 50 rfl) (e.2 60 rfl) (em 12 rfl) (em 13 rfl) (em 14 rfl), by rw [e.2 200 rfl, em 48 rfl]; exact t1, by rw [em 48 rfl]; exact t2, by rw [e.2 202 rfl, em 45 rfl]; exact t3, by rw [e.2 203 rfl, em 46 rfl]; exact t4, by rw [e.2 204 rfl, em 47 rfl]; exact t5, ?_, fun t ht => by rw [e.2 210 rfl, em 50 rfl]; exact t7 t ht⟩, Or.inr (Or.inl ⟨by rw [e23, ms_s], by rw [e11, cs_s]⟩)⟩
    rw [e11, cs_n _ _ (fun w => absurd w.1 (by decide)), e9, cs_s, e23, ms_n _ _ (by decide), e22, ms_s]
  · obtain ⟨g, rfl⟩ : ∃ g : Nat, f = g + 1 := ⟨f - 1, by omega⟩
    obtain ⟨m, d, hd15, hF, hMo, h223⟩ := hW g (by omega)
    have hm8 : m < 8 := by have := hF.1; omega
    refine xr_latest g126 (by omega) ⟨fun q => absurd q (nI_nn g (by omega)), fun _ => ⟨cin_22 hf, ?_⟩⟩
    rw [nI_clamp (n := g) (by omega), c3 223 (g + 1) (by decide), ep.2 223 rfl, h223]
    refine ⟨cin_22 (by omega), xr_put (by omega) hd15 ?_⟩
    obtain ⟨S14, e14⟩ : ∃ z, z = cs S3 230 g (upd (cv S3 230 g) d v) := ⟨_, rfl⟩
    rw [← e14]
    have e : Ex [126, 222, 230] S S14 := by rw [e14]; exact Ex.cs (by decide) (Ex.step x3 (by decide) Ex.rf)
    have p1 : cnP S14 = cnP S := congrArg Prod.fst e.1
    have p2 : cnC S14 = cnC S := congrArg Prod.snd e.1
    have r230 : cv S14 230 g = upd (cv S 230 g) d v := by rw [e14, cs_s, c3 230 g (by decide), ep.2 230 rfl]
    have o230 : ∀ g' : Nat, g' ≠ g → cv S14 230 g' = cv S 230 g' := fun g' hg' => by rw [e14, cs_i hg', c3 230 g' (by decide), ep.2 230 rfl]
    have o222 : ∀ g' : Nat, g' ≠ g + 1 → cv S14 222 g' = cv S 222 g' := fun g' hg' => by rw [e14, cs_n _ _ (fun w => absurd w.1 (by decide)), c3 222 g' (by decide)]; exact ep2 g' hg'
    have g126' : cv S14 126 0 0 = nI (g + 1) := by rw [e14, cs_n _ _ (fun w => absurd w.1 (by decide))]; exact g126
    have elv : lvC S14 m = lvC S m := funext fun i => by unfold lvC; rw [e.2 250 rfl, e.2 270 rfl]
    -- the rest of it, once the caller's place is right
    have fin : ∀ Sm1 : MST, Fm [37, 39, 41, 42] Sm Sm1 → Sm1 37 0 = nI (g + 1) → (∀ g' : Nat, g' ≠ g → g' ≠ g + 1 → Sm1 39 g' = Sm 39 g' ∧ Sm1 41 g' = Sm 41 g') → Sm1 42 = upd (Sm 42) (15 * g + d) v → MoT S14 Sm1 g m → Post S14 Sm1 := fun Sm1 em e37 o39 e42 hT => by
      refine hgo S14 Sm1 f1 e37 (by rw [em 43 rfl]) ⟨h1.ex e rfl em rfl, h2.same (e.2 40 rfl) (e.2 50 rfl) (e.2 60 rfl) (em 12 rfl) (em 13 rfl) (em 14 rfl), ?_, g126', by rw [e.2 127 rfl]; exact h5, by rw [e.2 128 rfl]; exact h6, by rw [e.2 201 rfl]; exact h7, by rw [em 44 rfl]; exact h8, h9, ⟨m, ?_, by rw [show g + 1 - 1 = g by omega]; exact hT⟩, fun g' hg' => ?_⟩
      · obtain ⟨t1, t2, t3, t4, t5, t6, t7⟩ := h3
        exact ⟨by rw [e.2 200 rfl, em 48 rfl]; exact t1, by rw [em 48 rfl]; exact t2, by rw [e.2 202 rfl, em 45 rfl]; exact t3, by rw [e.2 203 rfl, em 46 rfl]; exact t4, by rw [e.2 204 rfl, em 47 rfl]; exact t5, by rw [e.2 205 rfl, em 49 rfl]; exact t6, fun t ht => by rw [e.2 210 rfl, em 50 rfl]; exact t7 t ht⟩
      · rw [show g + 1 - 1 = g by omega]
        refine ⟨by rw [p1]; exact hF.1, by rw [e.2 220 rfl]; exact hF.2.1, by rw [em 38 rfl]; exact hF.2.2.1, fun t ht => ?_⟩
        rw [r230, e42]
        by_cases w : t = d
        · rw [w, upd_s, upd_s]
        · rw [upd_n _ _ w, upd_n _ _ (by omega)]; exact hF.2.2.2 t ht
      · obtain ⟨m', d', w1, w2, w3, w4⟩ := hW g' (by omega)
        have hm' := w2.1
        have hne : g' ≠ g := by omega
        have y42 : ∀ t : Nat, t < 15 → Sm1 42 (15 * g' + t) = Sm 42 (15 * g' + t) := fun t ht => by rw [e42, upd_n _ _ (by omega)]
        exact ⟨m', d', w1, w2.keep p1 (by rw [e.2 220 rfl]) (o230 g' hne) (by rw [em 38 rfl]) y42, w3.keep (by omega) (by omega) (by rw [e.2 221 rfl]) (o222 g' (by omega)) (e.2 249 rfl) (e.2 250 rfl) (e.2 270 rfl) (o39 g' hne (by omega)).1 (by rw [em 40 rfl]) (o39 g' hne (by omega)).2 (em 5 rfl) (em 1 rfl) y42 (fun _ _ _ _ _ _ _ _ _ _ _ _ hx => hx.ex e rfl em rfl), by rw [e.2 223 rfl]; exact w4⟩
    have v16 : vp_in (nI g) 16 := vp_in_nI (by omega) (by omega)
    unfold wp_X12_returns
    rw [epm 37 rfl, h37, nI_m1 (by omega), show g + 1 + 1 - 1 = g + 1 by omega]
    intro S1 e1
    have s37 : S1 37 0 = nI (g + 1) := by rw [e1, ms_s]
    have n1 : ∀ q : Nat, q ≠ 37 → S1 q = Smp q := fun q a => by rw [e1, ms_n _ _ a]
    have m1 : ∀ q : Nat, q ≠ 37 → q ≠ 39 → q ≠ 41 → S1 q = Sm q := fun q a b d' => by rw [n1 q a, epm.k (by simp; exact ⟨b, d'⟩)]
    rw [s37, nI_m1 (by omega), show g + 1 - 1 = g by omega, nI_clamp (n := g) (by omega), m1 40 (by decide) (by decide) (by decide), n1 39 (by decide), (epm2 g (by omega)).1]
    refine ⟨fun _ => ⟨v16, ?_⟩, fun q => absurd (show nI (g + 1) = nI 0 from q) (fun w => by have := nI_inj w (by omega) (by omega); omega)⟩
    rcases hMo with ⟨e40, i, c, y, ax, dd, b1, b2, b3, b4, b5, b6, b7, b8, b9, b10, b11, b12, b13⟩ | ⟨j, c, N, h, n, P, as, val, st, p, b1, b2, b3, b4, b5, b6, b7, b8, b9, b10, b11, b12⟩
    · rw [e40, b2, m1 38 (by decide) (by decide) (by decide), hF.2.2.1, ix60, nI_clamp (n := 60 * m + i) (by omega), m1 5 (by decide) (by decide) (by decide), b8, nI_clamp (n := y) (by omega), m1 1 (by decide) (by decide) (by decide), b10, n1 41 (by decide), (epm2 g (by omega)).2, b11, nI_sub b12, nI_1, show (15 : Int32) * nI g + 7 = nI (15 * g + 7) from ix15 g 7]
      refine ⟨fun q => absurd q (by decide), fun _ => ⟨v16, v16, vp_in_nI (by omega) (by omega), v16, vp_in_nI (by omega) (by omega), v16, fun S16 e16 => ⟨v16, ?_⟩⟩⟩
      have t16 : S16 41 g = nI (dd - ax) := by rw [e16, ms_s, upd_s]
      have n16 : ∀ q : Nat, q ≠ 41 → S16 q = S1 q := fun q a => by rw [e16, ms_n _ _ a]
      rw [t16, nI_add, show 15 * g + 7 + (dd - ax) = 15 * g + d by omega, nI_clamp (n := 15 * g + d) (by omega), n16 42 (by decide)]
      refine ⟨vp_in_nI (by omega) (by omega), fun S18 e18 => ⟨v16, v16, fun S20 e20 => ⟨v16, fun S21 e21 => ?_⟩⟩⟩
      have em : Fm [37, 39, 41, 42] Sm S21 := Fm.put e21 rfl (Fm.put e20 rfl (Fm.put e18 rfl (Fm.put e16 rfl (Fm.put e1 rfl (Fm.step epm (by decide) Fm.rf)))))
      have r39 : S21 39 = upd (Smp 39) g (nI (i + 1)) := by rw [e21, ms_s, e20, ms_n _ _ (by decide), e18, ms_n _ _ (by decide), n16 39 (by decide), n1 39 (by decide)]
      have r41 : ∀ g' : Nat, g' ≠ g → S21 41 g' = Smp 41 g' := fun g' hg' => by rw [e21, ms_n _ _ (by decide), e20, ms_s, upd_n _ _ hg', e18, ms_n _ _ (by decide), e16, ms_s, upd_n _ _ hg']
      refine fin S21 em (by rw [e21, ms_n _ _ (by decide), e20, ms_n _ _ (by decide), e18, ms_n _ _ (by decide), n16 37 (by decide)]; exact s37) (fun g' hg' hg2 => ⟨by rw [r39, upd_n _ _ hg']; exact (epm2 g' hg2).1, by rw [r41 g' hg']; exact (epm2 g' hg2).2⟩) ?_ (Or.inl ⟨by rw [em 40 rfl]; exact e40, i + 1, c, by omega, by rw [r39, upd_s], by rw [e.2 221 rfl]; exact b3, by rw [e.2 249 rfl]; exact b4, by omega, by rw [o222 g (by omega), elv, b6, posN_s b7]⟩)
      rw [e21, ms_n _ _ (by decide), e20, ms_n _ _ (by decide), e18, ms_s, m1 42 (by decide) (by decide) (by decide)]
    · obtain ⟨x1, x2, x3, x4, x5, x6, _, x8⟩ := id b5
      have hr := x5.2.2.2 p b8 b7
      have hcall : (∃ r : Nat, 7 ≤ r ∧ r < 15 ∧ (P p).2.1 = nI r) ∧ ∀ t : Nat, 3 ≤ t → t < 11 → as t = true → ∃ p' : Nat, p < p' ∧ p' < N ∧ (∀ r : Nat, p < r → r ≤ p' → (P r).1 = 18) ∧ P p' = gdT val (P p).2.2.2.2 t := by
        rcases hr with w | w | ⟨t, p0, w1, w2, w3, w4, w5, w6, w7, w8⟩
        · exact absurd b10 w.1
        · exact w.2
        · exact absurd ((w8 p w5 (Nat.le_refl _)).1.symm.trans b10) (by decide)
      obtain ⟨⟨r, r7, r15, er⟩, hpend⟩ := hcall
      obtain rfl : r = d := nI_inj (er.symm.trans b11) (by omega) (by omega)
      have ec : 12 * m + j < 96 := by omega
      rw [b1, b6, ix640, nI_clamp (n := 640 * (12 * m + j) + p) (by omega), m1 26 (by decide) (by decide) (by decide), (x8.2.1 p b7).2.1, b11, ix15, nI_clamp (n := 15 * g + r) (by omega), m1 42 (by decide) (by decide) (by decide)]
      refine ⟨fun _ => ⟨v16, v16, vp_in_nI (by omega) (by omega), vp_in_nI (by omega) (by omega), fun S8 e8 => ⟨v16, v16, fun S10 e10 => ?_⟩⟩, fun q => absurd (nI_pos' (by omega)) q⟩
      have n8 : S8 39 g = nI p := by rw [e8, ms_n _ _ (by decide), n1 39 (by decide), (epm2 g (by omega)).1]; exact b6
      rw [n8, nI_1] at e10
      have em : Fm [37, 39, 41, 42] Sm S10 := Fm.put e10 rfl (Fm.put e8 rfl (Fm.put e1 rfl (Fm.step epm (by decide) Fm.rf)))
      have r39 : S10 39 = upd (Smp 39) g (nI (p + 1)) := by rw [e10, ms_s, e8, ms_n _ _ (by decide), n1 39 (by decide)]
      have r42 : S10 42 = upd (Sm 42) (15 * g + r) v := by rw [e10, ms_n _ _ (by decide), e8, ms_s]
      refine fin S10 em (by rw [e10, ms_n _ _ (by decide), e8, ms_n _ _ (by decide)]; exact s37) (fun g' hg' hg2 => ⟨by rw [r39, upd_n _ _ hg']; exact (epm2 g' hg2).1, ?_⟩) r42 (Or.inr ⟨j, c, N, h, n, P, as, val, st, p + 1, p + 1, by rw [em 40 rfl]; exact b1, b2, by rw [e.2 221 rfl]; exact b3, by omega, b5.ex e rfl em rfl, by rw [r39, upd_s], by omega, by rw [o222 g (by omega)]; exact b9, Or.inl ⟨rfl, fun s' hs' has => ?_⟩⟩)
      · rw [e10, ms_n _ _ (by decide), e8, ms_n _ _ (by decide), n1 41 (by decide)]; exact (epm2 g' hg2).2
      · rcases Nat.lt_or_ge s' 3 with s3 | s3
        · refine Or.inl ?_
          have := b12 s' s3 has
          unfold OkT at this ⊢
          rw [if_pos s3] at this ⊢
          rw [r42, upd_n _ _ (by omega)]; exact this
        · refine Or.inr ?_
          obtain ⟨p', q1, q2, q3, q4⟩ := hpend s' s3 hs' has
          exact ⟨p', by omega, q2, fun r' x y => Or.inr (q3 r' (by omega) y), _, q4⟩
