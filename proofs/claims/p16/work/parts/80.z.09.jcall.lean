/-! BOTH: a call begins -/
theorem Ex.k {L : List Nat} {S S' : CST} (e : Ex L S S') {k : Nat} (h : ¬ k ∈ L) : cv S' k = cv S k := e.2 k (by
  cases hc : L.contains k with
  | false => rfl
  | true => exact absurd (by simpa using hc) h)
theorem Fm.k {L : List Nat} {S S' : MST} (e : Fm L S S') {k : Nat} (h : ¬ k ∈ L) : S' k = S k := e k (by
  cases hc : L.contains k with
  | false => rfl
  | true => exact absurd (by simpa using hc) h)
theorem CdX.ex {L Lm : List Nat} {S S' : CST} {Sm Sm' : MST} {y j c N h n : Nat} {P : Nat → T5} {as : Nat → Bool} {val : Nat → Int32} {st : Nat → Nat} (hx : CdX S Sm y j c N h n P as val st) (e : Ex L S S') (hL : (L.all fun k => Nat.ble k 319) = true) (em : Fm Lm Sm Sm') (hLm : (Lm.all fun k => !([3, 7, 23, 24, 25, 26, 27, 28, 29].contains k)) = true) : CdX S' Sm' y j c N h n P as val st := by
  have hm : ∀ k : Nat, [3, 7, 23, 24, 25, 26, 27, 28, 29].contains k = true → Sm' k = Sm k := fun k hk => em k (by
    cases hc : Lm.contains k with
    | false => rfl
    | true =>
      have := List.all_eq_true.mp hLm k (by simpa using hc)
      rw [hk] at this
      cases this)
  refine hx.same (fun k hk => ?_) (hm 3 rfl) (hm 7 rfl) (by rw [hm 23 rfl]) (fun t _ _ => by rw [hm 24 rfl]) (fun k t a b _ _ => ?_)
  · rw [e.2 k (by
      cases hc : L.contains k with
      | false => rfl
      | true =>
        have := List.all_eq_true.mp hL k (by simpa using hc)
        have := Nat.le_of_ble_eq_true this
        omega)]
  · rcases (show k = 25 ∨ k = 26 ∨ k = 27 ∨ k = 28 ∨ k = 29 by omega) with w | w | w | w | w <;> rw [w, hm _ rfl]
theorem HtR.keep {S S' : CST} {Sm Sm' : MST} {y : Nat} (h : HtR S Sm y) (p2 : cnC S ≤ cnC S') (ec : ∀ k : Nat, (280 ≤ k ∧ k ≤ 285) ∨ k = 290 ∨ k = 300 ∨ k = 310 → cv S' k y = cv S k y) (em : ∀ k : Nat, 15 ≤ k → k ≤ 19 → Sm' k y = Sm k y) (eb : ∀ k t : Nat, 20 ≤ k → k ≤ 22 → t < 11 → Sm' k (11 * y + t) = Sm k (11 * y + t))
    (hcd : ∀ k c : Nat, k < 12 → c < cnC S → Sm 17 y = nI (k + 1) → CdR S Sm y k c → CdR S' Sm' y k c) : HtR S' Sm' y := by
  obtain ⟨a1, a2, a3, a4, a5, a6, ⟨c, b1, b2, b3⟩, a8, a9⟩ := h
  refine ⟨by rw [ec 280 (by omega), em 15 (by omega) (by omega)]; exact a1, by rw [ec 282 (by omega), em 16 (by omega) (by omega)]; exact a2, by rw [ec 283 (by omega), em 17 (by omega) (by omega)]; exact a3, by rw [ec 284 (by omega), em 18 (by omega) (by omega)]; exact a4, by rw [ec 285 (by omega), em 19 (by omega) (by omega)]; exact a5, fun t ht => by rw [ec 310 (by omega), eb 22 t (by omega) (by omega) ht]; exact a6 t ht, ⟨c, b1, by rw [em 16 (by omega) (by omega)]; exact b2, fun hc t ht => by rw [ec 290 (by omega), ec 300 (by omega), eb 20 t (by omega) (by omega) ht, eb 21 t (by omega) (by omega) ht]; exact b3 hc t ht⟩, fun q => ?_, fun k hk q => ?_⟩
  · rw [em 17 (by omega) (by omega)] at q
    rw [ec 281 (by omega)]; exact a8 q
  · rw [em 17 (by omega) (by omega)] at q
    obtain ⟨c', d1, d2, d3⟩ := a9 k hk q
    exact ⟨c', by rw [ec 281 (by omega)]; exact d1, by omega, hcd k c' hk d2 q d3⟩
theorem MeR.heat {S S' : CST} {Sm Sm' : MST} (h : MeR S Sm) (e1 : S'.2 = S.2) (e : ∀ k : Nat, ([20, 103, 240, 241, 242, 247, 248, 249, 250, 260, 270].contains k || Nat.ble 320 k) = true → cv S' k = cv S k) (em : ∀ k : Nat, k ≤ 9 → Sm' k = Sm k) (hH : ∀ y : Nat, y < cnP S → HtR S' Sm' y) (hQ : ∀ z : Nat, cnP S ≤ z → z < 8 → Sm' 16 z = Sm 16 z ∧ Sm' 18 z = Sm 18 z ∧ Sm' 19 z = Sm 19 z ∧ ∀ t : Nat, t < 11 → Sm' 22 (11 * z + t) = Sm 22 (11 * z + t)) : MeR S' Sm' := by
  have p1 : cnP S' = cnP S := congrArg Prod.fst e1
  have p2 : cnC S' = cnC S := congrArg Prod.snd e1
  obtain ⟨h1, h2, h3, _, h5⟩ := h
  refine ⟨?_, ?_, ?_, by rw [p1]; exact hH, fun z a b => by
    rw [p1] at a
    obtain ⟨q1, q2, q3, q4⟩ := hQ z a b
    obtain ⟨r1, r2, r3, r4⟩ := h5 z a b
    exact ⟨q1.trans r1, q2.trans r2, q3.trans r3, fun t ht => (q4 t ht).trans (r4 t ht)⟩⟩
  · unfold PR PRy at h1 ⊢
    simp only [p1, e 20 rfl, e 103 rfl, e 240 rfl, e 241 rfl, e 242 rfl, e 247 rfl, e 248 rfl, e 250 rfl, e 260 rfl, e 270 rfl, em 1 (by decide), em 2 (by decide), em 3 (by decide), em 4 (by decide), em 5 (by decide), em 6 (by decide), em 7 (by decide), em 8 (by decide), em 9 (by decide)]
    exact h1
  · unfold BkM at h2 ⊢
    simp only [p1, em 3 (by decide), em 4 (by decide), em 5 (by decide), em 6 (by decide), em 7 (by decide)]
    exact h2
  · unfold PlR PlC lvC at h3 ⊢
    simp only [p1, p2, e 247 rfl, e 248 rfl, e 249 rfl, e 250 rfl, e 260 rfl, e 270 rfl, e 320 rfl, e 321 rfl, e 330 rfl, e 339 rfl, e 340 rfl, e 349 rfl]
    exact h3
theorem DaR.same {S S' : CST} {Sm Sm' : MST} (h : DaR S Sm) (e40 : cv S' 40 = cv S 40) (e50 : cv S' 50 = cv S 50) (e60 : cv S' 60 = cv S 60) (e12 : Sm' 12 = Sm 12) (e13 : Sm' 13 = Sm 13) (e14 : Sm' 14 = Sm 14) : DaR S' Sm' := by
  unfold DaR at h ⊢
  rw [e40, e50, e60, e12, e13, e14]
  exact h
def BgR (S : CST) (Sm : MST) (F s y : Nat) (gr : Nat → Int32) : Prop := MeR S Sm ∧ DaR S Sm ∧ TaR S Sm ∧ cv S 126 0 0 = nI (F + 1) ∧ cv S 127 0 0 = 4 ∧ cv S 128 0 0 = -1 ∧ cv S 201 0 0 = nI (s + 1) ∧ Sm 44 0 = nI (s + 1) ∧ s + 1 ≤ 1500 ∧ y < cnP S ∧ F < 16 ∧ (∃ c : Nat, cv S 221 F 0 = nI c ∧ cv S 249 y 0 = nI c ∧ c < cnC S) ∧ cv S 220 F 0 = nI y ∧ cv S 222 F 0 = 0 ∧ (∀ t : Nat, t < 15 → cv S 230 F t = gr t) ∧
  ∀ f : Nat, f < F → ∃ m d : Nat, d < 15 ∧ FrC S Sm f m ∧ MoW S Sm f m d ∧ cv S 223 (f + 1) 0 = nI d
/-- the call runs the CODE -/
theorem jn_code {S S2 : CST} {Sm Sm2 : MST} {F s y c k : Nat} {gr gv : Nat → Int32} (hM8 : cnP S ≤ 8) (h : BgR S Sm F s y gr) (hk : Sm 17 y = nI k) (hk1 : 1 ≤ k) (hk12 : k ≤ 12) (h15 : ¬ Sm 15 y = 0) (hc : cv S 281 y 0 = nI c) (hc31 : c < 2 ^ 31) (r : RuC S S2 F y c) (q : Ca60 Sm Sm2 y F k gr gv) (hC31 : cnC S ≤ 2 ^ 31) : RnR S2 Sm2 (F + 1) (s + 1) := by
  obtain ⟨h1, h2, h3, h4, h5, h6, h7, h8, h9, hy, hF, _, g1, g2, g3, hW⟩ := h
  obtain ⟨e, r221, ro221, r285, ro285, r203⟩ := r
  obtain ⟨em, q37, q38, q39, q41, q42, q42o, qc⟩ := q
  obtain ⟨_, q40, q19, q46, q16, q20, q21⟩ := qc.resolve_left (fun w => h15 w.1)
  have p1 : cnP S2 = cnP S := congrArg Prod.fst e.1
  have p2 : cnC S2 = cnC S := congrArg Prod.snd e.1
  have kp : ∀ {y' j' c' N' h' n' : Nat} {P' : Nat → T5} {as' : Nat → Bool} {val' : Nat → Int32} {st' : Nat → Nat}, CdX S Sm y' j' c' N' h' n' P' as' val' st' → CdX S2 Sm2 y' j' c' N' h' n' P' as' val' st' := fun hx => hx.ex e rfl em rfl
  have kR : ∀ {y' j' c' : Nat}, CdR S Sm y' j' c' → CdR S2 Sm2 y' j' c' := fun ⟨N, h, n, P, as, val, st, hx⟩ => ⟨N, h, n, P, as, val, st, kp hx⟩
  refine ⟨h1.heat e.1 (fun z hz => e.2 z ?_) (fun z hz => em.k (by simp; omega)) (fun z hz => ?_) (fun z a b => ⟨by rw [q16], by rw [em 18 rfl], by rw [q19, upd_n _ _ (by omega)], fun t _ => by rw [em 22 rfl]⟩), h2.same (e.2 40 rfl) (e.2 50 rfl) (e.2 60 rfl) (em 12 rfl) (em 13 rfl) (em 14 rfl), ?_, by rw [e.2 126 rfl]; exact h4, by rw [e.2 127 rfl]; exact h5, by rw [e.2 128 rfl]; exact h6, by rw [e.2 201 rfl]; exact h7, by rw [em 44 rfl]; exact h8, h9, ⟨y, ?_⟩, fun f hf => ?_⟩
  · cases hcn : [203, 221, 285].contains z with
    | false => rfl
    | true =>
      simp at hcn
      rcases hcn with w | w | w <;> (rw [w] at hz; exact absurd hz (by decide))
  · by_cases w : z = y
    · subst w
      obtain ⟨a1, a2, a3, a4, a5, a6, a7, a8, a9⟩ := h1.2.2.2.1 z hz
      refine ⟨by rw [e.2 280 rfl, em 15 rfl]; exact a1, by rw [e.2 282 rfl, q16]; exact a2, by rw [e.2 283 rfl, em 17 rfl]; exact a3, by rw [e.2 284 rfl, em 18 rfl]; exact a4, by rw [r285, q19, upd_s, a5], fun t ht => by rw [e.2 310 rfl, em 22 rfl]; exact a6 t ht, ?_, fun w => ?_, fun k' hk' w => ?_⟩
      · rw [q16, e.2 290 rfl, e.2 300 rfl, q20, q21]; exact a7
      · rw [em 17 rfl] at w; rw [e.2 281 rfl]; exact a8 w
      · rw [em 17 rfl] at w
        obtain ⟨c', d1, d2, d3⟩ := a9 k' hk' w
        exact ⟨c', by rw [e.2 281 rfl]; exact d1, by omega, kR d3⟩
    · refine (h1.2.2.2.1 z hz).keep (by omega) (fun k' hk' => ?_) (fun k' a b => ?_) (fun k' t a b _ => ?_) (fun k' c' _ _ _ hx => kR hx)
      · by_cases w2 : k' = 285
        · rw [w2]; exact ro285 z w
        · rw [e.k (by simp; omega)]
      · by_cases w2 : k' = 19
        · rw [w2, q19, upd_n _ _ w]
        · by_cases w3 : k' = 16
          · rw [w3, q16]
          · rw [em.k (by simp; omega)]
      · rcases (show k' = 20 ∨ k' = 21 ∨ k' = 22 by omega) with w2 | w2 | w2
        · rw [w2, q20]
        · rw [w2, q21]
        · rw [w2, em 22 rfl]
  · obtain ⟨t1, t2, t3, t4, t5, t6, t7⟩ := h3
    exact ⟨by rw [e.2 200 rfl, em 48 rfl]; exact t1, by rw [em 48 rfl]; exact t2, by rw [e.2 202 rfl, em 45 rfl]; exact t3, by rw [r203, q46, t4], by rw [e.2 204 rfl, em 47 rfl]; exact t5, by rw [e.2 205 rfl, em 49 rfl]; exact t6, fun t ht => by rw [e.2 210 rfl, em 50 rfl]; exact t7 t ht⟩
  · rw [show F + 1 - 1 = F by omega]
    refine ⟨⟨by rw [p1]; exact hy, by rw [e.2 220 rfl]; exact g1, by rw [q38, upd_s], fun t ht => by rw [e.2 230 rfl, q42 t ht]; exact g3 t ht⟩, Or.inr ?_⟩
    obtain ⟨_, _, _, _, _, _, _, _, a9⟩ := h1.2.2.2.1 y hy
    obtain ⟨c', d1, d2, N, hh, n, P, as, val, st, hx⟩ := a9 (k - 1) (by omega) (by rw [hk]; congr 1; omega)
    obtain rfl : c' = c := nI_inj (d1.symm.trans hc) (by omega) hc31
    have hx' := kp hx
    refine ⟨k - 1, c', N, hh, n, P, as, val, st, 0, 0, by rw [q40, upd_s], by omega, r221, by omega, hx', by rw [q39, upd_s]; rfl, Nat.zero_le _, by rw [e.2 222 rfl]; exact g2, Or.inl ⟨rfl, fun t ht hat => Or.inr ?_⟩⟩
    obtain ⟨s1, s2, s3, s4⟩ := hx.2.2.2.2.1
    obtain ⟨p', hp', ep'⟩ := s3 t ht hat
    refine ⟨p', Nat.zero_le _, by omega, fun r _ hr => ?_, 0, ep'⟩
    obtain ⟨t', ht', hat', et'⟩ := s2 r (by omega)
    rw [et']
    unfold gdT
    split
    · exact Or.inl rfl
    · exact Or.inr rfl
  · obtain ⟨m, d, w1, w2, w3, w4⟩ := hW f (by omega)
    have hm := w2.1
    exact ⟨m, d, w1, w2.keep p1 (by rw [e.2 220 rfl]) (by rw [e.2 230 rfl]) (by rw [q38, upd_n _ _ (by omega)]) (fun t ht => q42o _ (by omega)), w3.keep (by omega) (by omega) (ro221 f (by omega)) (by rw [e.2 222 rfl]) (e.2 249 rfl) (e.2 250 rfl) (e.2 270 rfl) (by rw [q39, upd_n _ _ (by omega)]) (by rw [q40, upd_n _ _ (by omega)]) (by rw [q41, upd_n _ _ (by omega)]) (em 5 rfl) (em 1 rfl) (fun t ht => q42o _ (by omega)) (fun _ _ _ _ _ _ _ _ _ _ _ _ hx => kp hx), by rw [e.2 223 rfl]; exact w4⟩
/-- the call goes by INSTRUCTIONS, and is counted -/
theorem jn_rem {S S1 S2 : CST} {Sm Sm2 : MST} {F s y k cnt : Nat} {gr gv : Nat → Int32} (hM8 : cnP S ≤ 8) (h : BgR S Sm F s y gr) (h15 : Sm 15 y = 0) (hcnt : Sm 16 y = nI cnt) (hcnt3 : cnt < 3) (hR : ReC S S1 y 11 gv) (e2 : S2 = cs S1 282 y (fun _ => cv S 282 y 0 + 1)) (q : Ca60 Sm Sm2 y F k gr gv) : RnR S2 Sm2 (F + 1) (s + 1) := by
  obtain ⟨h1, h2, h3, h4, h5, h6, h7, h8, h9, hy, hF, ⟨c, g0, g01, g02⟩, g1, g2, g3, hW⟩ := h
  obtain ⟨r1, r2, r3, _⟩ := hR
  obtain ⟨em, q37, q38, q39, q41, q42, q42o, qc⟩ := q
  obtain ⟨_, q40, q19, q46, q16, q20, q20o⟩ := qc.resolve_right (fun w => w.1 h15)
  have e : Ex [282, 290, 300] S S2 := by rw [e2]; exact Ex.cs (by decide) (Ex.step r1 (by decide) Ex.rf)
  have n2 : ∀ z t : Nat, z ≠ 282 → cv S2 z t = cv S1 z t := fun z t a => by rw [e2, cs_n _ _ (fun w => a w.1)]
  have p1 : cnP S2 = cnP S := congrArg Prod.fst e.1
  have p2 : cnC S2 = cnC S := congrArg Prod.snd e.1
  have kp : ∀ {y' j' c' N' h' n' : Nat} {P' : Nat → T5} {as' : Nat → Bool} {val' : Nat → Int32} {st' : Nat → Nat}, CdX S Sm y' j' c' N' h' n' P' as' val' st' → CdX S2 Sm2 y' j' c' N' h' n' P' as' val' st' := fun hx => hx.ex e rfl em rfl
  have kR : ∀ {y' j' c' : Nat}, CdR S Sm y' j' c' → CdR S2 Sm2 y' j' c' := fun ⟨N, h, n, P, as, val, st, hx⟩ => ⟨N, h, n, P, as, val, st, kp hx⟩
  refine ⟨h1.heat e.1 (fun z hz => e.2 z ?_) (fun z hz => em.k (by simp; omega)) (fun z hz => ?_) (fun z a b => ⟨by rw [q16, upd_n _ _ (by omega)], by rw [em 18 rfl], by rw [q19], fun t _ => by rw [em 22 rfl]⟩), h2.same (e.2 40 rfl) (e.2 50 rfl) (e.2 60 rfl) (em 12 rfl) (em 13 rfl) (em 14 rfl), ?_, by rw [e.2 126 rfl]; exact h4, by rw [e.2 127 rfl]; exact h5, by rw [e.2 128 rfl]; exact h6, by rw [e.2 201 rfl]; exact h7, by rw [em 44 rfl]; exact h8, h9, ⟨y, ?_⟩, fun f hf => ?_⟩
  · cases hcn : [282, 290, 300].contains z with
    | false => rfl
    | true =>
      simp at hcn
      rcases hcn with w | w | w <;> (rw [w] at hz; exact absurd hz (by decide))
  · by_cases w : z = y
    · subst w
      obtain ⟨a1, a2, a3, a4, a5, a6, ⟨c0, b1, b2, b3⟩, a8, a9⟩ := h1.2.2.2.1 z hz
      obtain rfl : c0 = cnt := nI_inj (b2.symm.trans hcnt) (by omega) (by omega)
      refine ⟨by rw [e.2 280 rfl, em 15 rfl]; exact a1, by rw [e2, cs_s, q16, upd_s, a2], by rw [e.2 283 rfl, em 17 rfl]; exact a3, by rw [e.2 284 rfl, em 18 rfl]; exact a4, by rw [e.2 285 rfl, q19]; exact a5, fun t ht => by rw [e.2 310 rfl, em 22 rfl]; exact a6 t ht, ⟨c0 + 1, by omega, by rw [q16, upd_s, hcnt, nI_1], fun _ t ht => ?_⟩, fun w => ?_, fun k' hk' w => ?_⟩
      · rw [n2 290 z (by decide), n2 300 z (by decide), (r3 t ht).1, (r3 t ht).2, (q20 t ht).1, (q20 t ht).2]
        unfold reCV reCL reV reL
        rw [a2]
        by_cases cz : Sm 16 z = 0
        · rw [if_pos cz, if_pos cz, if_pos cz, if_pos cz]; exact ⟨rfl, rfl, Or.inr rfl⟩
        · rw [if_neg cz, if_neg cz, if_neg cz, if_neg cz]
          have c1 : 1 ≤ c0 := by
            rcases Nat.eq_zero_or_pos c0 with w0 | w0
            · rw [b2, w0] at cz; exact absurd rfl cz
            · exact w0
          obtain ⟨v1, v2, v3⟩ := b3 c1 t ht
          rw [v1, v2]
          refine ⟨rfl, ?_, ?_⟩
          · by_cases ce : Sm 20 (11 * z + t) = gv t
            · rw [if_pos ce, if_pos ce]
              rcases v3 with v3 | v3
              · rw [v3, if_pos rfl]
              · rw [v3, if_neg (by decide)]
            · rw [if_neg ce, if_neg ce]
              split <;> rfl
          · split
            · exact Or.inl rfl
            · split
              · exact Or.inr rfl
              · exact Or.inl rfl
      · rw [em 17 rfl] at w; rw [e.2 281 rfl]; exact a8 w
      · rw [em 17 rfl] at w
        obtain ⟨c', d1, d2, d3⟩ := a9 k' hk' w
        exact ⟨c', by rw [e.2 281 rfl]; exact d1, by omega, kR d3⟩
    · refine (h1.2.2.2.1 z hz).keep (by omega) (fun k' hk' => ?_) (fun k' a b => ?_) (fun k' t a b ht => ?_) (fun k' c' _ _ _ hx => kR hx)
      · by_cases w2 : k' = 282
        · rw [w2, e2, cs_i w, r1.2 282 rfl]
        · rw [n2 k' z w2]
          by_cases w3 : k' = 290
          · rw [w3]; exact (r2 z w).1
          · by_cases w4 : k' = 300
            · rw [w4]; exact (r2 z w).2
            · rw [r1.k (by simp; exact ⟨w3, w4⟩)]
      · by_cases w2 : k' = 19
        · rw [w2, q19]
        · by_cases w3 : k' = 16
          · rw [w3, q16, upd_n _ _ w]
          · rw [em.k (by simp; omega)]
      · rcases (show k' = 20 ∨ k' = 21 ∨ k' = 22 by omega) with w2 | w2 | w2
        · rw [w2]; exact (q20o _ (by omega)).1
        · rw [w2]; exact (q20o _ (by omega)).2
        · rw [w2, em 22 rfl]
  · obtain ⟨t1, t2, t3, t4, t5, t6, t7⟩ := h3
    exact ⟨by rw [e.2 200 rfl, em 48 rfl]; exact t1, by rw [em 48 rfl]; exact t2, by rw [e.2 202 rfl, em 45 rfl]; exact t3, by rw [e.2 203 rfl, q46]; exact t4, by rw [e.2 204 rfl, em 47 rfl]; exact t5, by rw [e.2 205 rfl, em 49 rfl]; exact t6, fun t ht => by rw [e.2 210 rfl, em 50 rfl]; exact t7 t ht⟩
  · rw [show F + 1 - 1 = F by omega]
    exact ⟨⟨by rw [p1]; exact hy, by rw [e.2 220 rfl]; exact g1, by rw [q38, upd_s], fun t ht => by rw [e.2 230 rfl, q42 t ht]; exact g3 t ht⟩, Or.inl ⟨by rw [q40, upd_s], 0, c, by decide, by rw [q39, upd_s]; rfl, by rw [e.2 221 rfl]; exact g0, by rw [e.2 249 rfl]; exact g01, by omega, by rw [e.2 222 rfl]; exact g2⟩⟩
  · obtain ⟨m, d, w1, w2, w3, w4⟩ := hW f (by omega)
    have hm := w2.1
    exact ⟨m, d, w1, w2.keep p1 (by rw [e.2 220 rfl]) (by rw [e.2 230 rfl]) (by rw [q38, upd_n _ _ (by omega)]) (fun t ht => q42o _ (by omega)), w3.keep (by omega) (by omega) (by rw [e.2 221 rfl]) (by rw [e.2 222 rfl]) (e.2 249 rfl) (e.2 250 rfl) (e.2 270 rfl) (by rw [q39, upd_n _ _ (by omega)]) (by rw [q40, upd_n _ _ (by omega)]) (by rw [q41, upd_n _ _ (by omega)]) (em 5 rfl) (em 1 rfl) (fun t ht => q42o _ (by omega)) (fun _ _ _ _ _ _ _ _ _ _ _ _ hx => kp hx), by rw [e.2 223 rfl]; exact w4⟩
