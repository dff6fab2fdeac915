/-! BOTH: a METHOD is put into CODE -/
def opM (Sm : MST) (y i : Nat) : Nat := (Sm 4 (60 * y + i)).toNatClampNeg
def xsM (Sm : MST) (y i : Nat) : Int32 := Sm 5 (60 * y + i)
def dpM (Sm : MST) (y i : Nat) : Int32 := Sm 7 (60 * y + i)
theorem tk0 {o ax : Nat} : tkN o 0 ≤ tkN o ax ∧ (¬ o = 11 → tkN o 0 = tkN o ax) := by
  unfold tkN
  by_cases c : o = 0 ∨ o = 1 ∨ o = 9 ∨ o = 13
  · rw [if_pos c, if_pos c]; exact ⟨Nat.le_refl _, fun _ => rfl⟩
  · rw [if_neg c, if_neg c]
    by_cases c2 : o = 11
    · rw [if_pos c2, if_pos c2]; exact ⟨Nat.zero_le _, fun q => absurd c2 q⟩
    · rw [if_neg c2, if_neg c2]; exact ⟨Nat.le_refl _, fun _ => rfl⟩
theorem LkP_of {Sm : MST} {M y ax n : Nat} {lk vr : Nat → Int32} (hL : lookedM Sm M y) (hn : Sm 3 y = nI n) (hn60 : n ≤ 60) (hB : BkM Sm y) : LkP (asB lk vr ax n (opM Sm y) (xsM Sm y) (dpM Sm y)) (tgB n (opM Sm y) (xsM Sm y) (dpM Sm y)) n (opM Sm y) (xsM Sm y) (dpM Sm y) := by
  obtain ⟨l, n', hl, hl6, hn', hn1, hn60', h70, hlook⟩ := hL
  obtain rfl : n' = n := nI_inj (hn'.symm.trans hn) (by omega) (by omega)
  refine ⟨hn1, hn60, pB_t (Or.inl rfl), h70, fun i hi => ?_⟩
  rcases hlook i hi with w | ⟨d, hd8, hd, o, oax, ho, h4, hk, hax, htk, h8, hj, hnx⟩
  · exact Or.inl w
  · have eo : opM Sm y i = o := by unfold opM; rw [h4]; exact nI_clamp (by omega)
    have hlive : ¬ dpM Sm y i = -1 := by show ¬ Sm 7 (60 * y + i) = -1; rw [hd]; exact nI_neg1 (by omega)
    obtain ⟨t1, t2⟩ := tk0 (o := o) (ax := oax)
    refine Or.inr ⟨d, hd, ?_, ?_, ?_, ?_⟩
    · rw [eo]
      refine ⟨ho, hd8, by omega, fun q => by rw [t2 q]; exact h8, fun q => ?_, fun q => hk.2.2.1 q, fun q => ?_, fun q t ht ex => pB_f (fun w => ?_), fun q f hf ex => pB_f (fun w => ?_)⟩
      · obtain ⟨z, hz, e⟩ := hk.1 q
        exact ⟨z, by omega, e⟩
      · subst q
        obtain ⟨hi1, e1⟩ := hnx (by decide) (by decide)
        exact ⟨oax, htk, h8, e1⟩
      · exact (w.2.2.1 ht).2.2 ⟨i, hi, hlive, eo.trans q, ex⟩
      · refine (w.2.2.2 (by omega)).2 ⟨i, hi, hlive, eo.trans q, ?_⟩
        rw [show 3 + f - 3 = f by omega]; exact ex
    · rw [eo]; intro q; exact (hnx (by omega) (by omega)).1
    · rw [eo]
      intro q9 q12
      obtain ⟨hi1, e1⟩ := hnx q9 q12
      refine ⟨hi1, _, e1, h8, ?_⟩
      by_cases c : o = 11
      · exact Or.inl c
      · right; rw [t2 c, Nat.add_right_comm, Nat.sub_add_cancel htk]; exact Nat.le_refl _
    · by_cases i0 : i = 0
      · exact Or.inl (pB_t (Or.inl i0))
      · rcases hB n' i hn hn60 hi i0 hlive with ⟨j, j1, j2, j3, j4⟩ | ⟨j2, j3, j4⟩
        · refine Or.inl (pB_t (Or.inr ?_))
          rcases j3 with j3 | j3
          · exact Or.inl ⟨j, j1, j2, by unfold opM; rw [j3]; exact nI_clamp (by omega), j4⟩
          · exact Or.inr ⟨j, j1, j2, by unfold opM; rw [j3]; exact nI_clamp (by omega), j4⟩
        · refine Or.inr (decide_eq_true ⟨i0, j2, fun w => ?_, fun w => ?_⟩)
          · rcases hlook (i - 1) (by omega) with w2 | ⟨_, _, _, o2, _, ho2, h42, _⟩
            · exact j2 w2
            · unfold opM at w
              rw [h42, nI_clamp (by omega)] at w
              exact j3 (by rw [h42, w])
          · rcases hlook (i - 1) (by omega) with w2 | ⟨_, _, _, o2, _, ho2, h42, _⟩
            · exact j2 w2
            · unfold opM at w
              rw [h42, nI_clamp (by omega)] at w
              exact j4 (by rw [h42, w])
theorem PrM_of {Sm : MST} {M y n : Nat} (hT : toldM Sm M) (hy : y < M) (hM8 : M ≤ 8) (hn : Sm 3 y = nI n) (hn60 : n ≤ 60) : PrM Sm y n (opM Sm y) (xsM Sm y) (dpM Sm y) := by
  obtain ⟨_, _, n', _, _, _, _, _, hn', hn60', h4⟩ := hT y hy
  obtain rfl : n' = n := nI_inj (hn'.symm.trans hn) (by omega) (by omega)
  refine ⟨by omega, hn, hn60, fun i hi => ?_⟩
  obtain ⟨o, ho, e⟩ := h4 i hi
  have eo : opM Sm y i = o := by unfold opM; rw [e]; exact nI_clamp (by omega)
  exact ⟨by rw [eo]; exact ho, by rw [eo]; exact e, rfl, rfl⟩
theorem PrC_of {S : CST} {Sm : MST} {M y n : Nat} (hP : PRy S Sm y) (hT : toldM Sm M) (hyM : y < M) (hy : y < cnP S) (hn : Sm 3 y = nI n) (hn60 : n ≤ 60) (h6 : Sm 6 y = 1) : PrC S y n (opM Sm y) (xsM Sm y) (dpM Sm y) := by
  obtain ⟨a1, a2, a3, a4, a5, a6, a7⟩ := hP
  obtain ⟨_, _, n', _, _, _, _, _, hn', hn60', h4⟩ := hT y hyM
  obtain rfl : n' = n := nI_inj (hn'.symm.trans hn) (by omega) (by omega)
  have a7' := a7.resolve_left (fun w => by rw [w.2] at h6; exact absurd h6 (by decide))
  refine ⟨hy, a5.trans hn, hn60, fun i hi => ?_⟩
  obtain ⟨o, ho, e⟩ := h4 i hi
  have eo : opM Sm y i = o := by unfold opM; rw [e]; exact nI_clamp (by omega)
  obtain ⟨b1, b2⟩ := a6 n' i (a5.trans hn) hn60 hi
  exact ⟨by rw [eo]; exact ho, by rw [eo, ← e]; exact b1, b2, a7'.2.2.2 i (by omega)⟩
theorem hcall_of {Sm : MST} {M y n : Nat} (hM8 : M ≤ 8) (hL : lookedM Sm M y) (hn : Sm 3 y = nI n) (hn60 : n ≤ 60) : ∀ i d : Nat, i < n → d ≤ 8 → dpM Sm y i = nI d → opM Sm y i = 11 → ∃ y' ax : Nat, y' < 8 ∧ xsM Sm y i = nI y' ∧ Sm 1 y' = nI ax ∧ ax ≤ d ∧ dpM Sm y (i + 1) = nI (d - ax + 1) := by
  obtain ⟨l, n', hl, hl6, hn', hn1, hn60', h70, hlook⟩ := hL
  obtain rfl : n' = n := nI_inj (hn'.symm.trans hn) (by omega) (by omega)
  intro i d hi hd8 hd ho
  have hd : Sm 7 (60 * y + i) = nI d := hd
  obtain ⟨d', hd8', hd', o, oax, ho', h4, hk, hax, htk, h8, hj, hnx⟩ := (hlook i hi).resolve_left (by rw [hd]; exact nI_neg1 (by omega))
  obtain rfl : d' = d := nI_inj (hd'.symm.trans hd) (by omega) (by omega)
  have eo : opM Sm y i = o := by unfold opM; rw [h4]; exact nI_clamp (by omega)
  obtain rfl : o = 11 := by rw [← eo]; exact ho
  obtain ⟨z, hz, ez, e1, hax3⟩ := hax rfl
  exact ⟨z, oax, by omega, ez, e1, htk, (hnx (by decide) (by decide)).2⟩
/-- what a METHOD that is put into CODE leaves of both -/
theorem jn_make {S S48 S50 : CST} {Sm Sm28 : MST} {M F s y C k n N h : Nat} {P : Nat → T5} {st : Nat → Nat} {as : Nat → Bool} {val : Nat → Int32} {gr : Nat → Int32} (hM8 : cnP S ≤ 8) (hcC : cnC S < 104) (hB : BgR S Sm F s y gr) (hk : Sm 17 y = nI k) (hk12 : k < 12) (hn : Sm 3 y = nI n) (hn60 : n ≤ 60) (hfr : ∀ f m j : Nat, f < F → m < 8 → j < 12 → Sm 38 f = nI m → Sm 40 f = nI (12 * m + j) → ∃ km : Nat, Sm 17 m = nI km ∧ j < km ∧ km ≤ 12)
    (f1 : ∀ q i : Nat, ¬ (i = cnC S ∧ 320 ≤ q) → LK7.contains q = false → cv S48 q i = cv S q i) (f2 : S48.2 = (cnP S, cnC S + 1)) (f3 : C = cnC S) (f4 : CodC S48 C (cv S 283 y 0 + 1) h N n P st (fun i => ¬ dpM Sm y i = -1)) (hst : st 0 = h) (hN1 : 1 ≤ N) (hN6 : N ≤ 640) (hcd : CdS as val h N P)
    (t : TaC S48 S50 y C) (em : Fm LM8 Sm Sm28) (e17 : Sm28 17 = upd (Sm 17) y (nI (k + 1))) (e15 : Sm28 15 = upd (Sm 15) y 1) (cm : CodM Sm28 (12 * y + k) N n P st (fun i => ¬ dpM Sm y i = -1)) (mc : McR Sm M y n k Sm28) : BgR S50 Sm28 F s y gr ∧ cv S50 281 y 0 = nI C := by
  obtain ⟨h1, h2, h3, h4, h5, h6, h7, h8, h9, hy, hF, ⟨c, g0, g01, g02⟩, g1, g2, g3, hW⟩ := hB
  obtain ⟨te, to, t280, t281, t283⟩ := t
  obtain ⟨-, -, -, mp, m23, m24, -, -⟩ := mc
  have p1 : cnP S50 = cnP S := (congrArg Prod.fst te.1).trans (show S48.2.1 = cnP S by rw [f2])
  have p2 : cnC S50 = cnC S + 1 := (congrArg Prod.snd te.1).trans (show S48.2.2 = cnC S + 1 by rw [f2])
  -- what the class holds as before
  have lo : ∀ q : Nat, q < 320 → ¬ q ∈ LK7 → ¬ q ∈ [280, 281, 283] → cv S50 q = cv S q := fun q hq hq7 hqt => funext fun i => by
    rw [te.k hqt, f1 q i (by omega) (by
      cases hc : LK7.contains q with
      | false => rfl
      | true => exact absurd (by simpa using hc) hq7)]
  have hi : ∀ q i : Nat, 320 ≤ q → i < cnC S → cv S50 q i = cv S q i := fun q i hq hi => by
    rw [te.k (by simp; omega), f1 q i (by omega) (by
      cases hc : LK7.contains q with
      | false => rfl
      | true => simp at hc; omega)]
  have mm : ∀ q : Nat, ¬ q ∈ LM8 → Sm28 q = Sm q := fun q hq => em.k hq
  have m3 := mm 3 (by simp)
  have m7 := mm 7 (by simp)
  -- codes that were there
  have kp : ∀ {y' j' c' N' h' n' : Nat} {P' : Nat → T5} {as' : Nat → Bool} {val' : Nat → Int32} {st' : Nat → Nat}, c' < cnC S → 12 * y' + j' ≠ 12 * y + k → CdX S Sm y' j' c' N' h' n' P' as' val' st' → CdX S50 Sm28 y' j' c' N' h' n' P' as' val' st' := fun hc' hne hx => hx.same (fun q hq => hi q _ hq hc') m3 m7 (m23 _ hne) (fun t a b => m24 t (by omega)) (fun q t a b x z => mp q t a b (by omega))
  have kR : ∀ {y' j' c' : Nat}, c' < cnC S → 12 * y' + j' ≠ 12 * y + k → CdR S Sm y' j' c' → CdR S50 Sm28 y' j' c' := fun hc' hne ⟨N, h, n, P, as, val, st, hx⟩ => ⟨N, h, n, P, as, val, st, kp hc' hne hx⟩
  obtain ⟨hPR, hBk, hPl, hHt, hQz⟩ := h1
  have nw : CdX S50 Sm28 y k C N h n P as val st := by
    refine ⟨by rw [m3]; exact hn, hn60, hN1, hN6, hcd, hst, ?_, ?_⟩
    · obtain ⟨c1, c2, c3, c4, c5, c6⟩ := f4
      have l7 : ∀ q : Nat, 320 ≤ q → cv S50 q = cv S48 q := fun q hq => te.k (by simp; omega)
      refine ⟨by rw [l7 320 (by decide), c1, (hHt y hy).2.2.1, hk, nI_1], by rw [l7 321 (by decide)]; exact c2, by rw [l7 339 (by decide)]; exact c3, by rw [l7 349 (by decide)]; exact c4, fun p hp => by rw [l7 330 (by decide)]; exact c5 p hp, fun i hi hl => ?_⟩
      rw [l7 340 (by decide)]
      exact c6 i hi (by show ¬ Sm 7 (60 * y + i) = -1; rw [← m7]; exact hl)
    · obtain ⟨c1, c2, c3⟩ := cm
      exact ⟨c1, c2, fun i hi hl => c3 i hi (by show ¬ Sm 7 (60 * y + i) = -1; rw [← m7]; exact hl)⟩
  refine ⟨⟨⟨?_, ?_, fun z hz => ?_, fun z hz => ?_, fun z a b => by rw [p1] at a; rw [mm 16 (by simp), mm 18 (by simp), mm 19 (by simp), mm 22 (by simp)]; exact hQz z a b⟩, h2.same (lo 40 (by decide) (by simp) (by simp)) (lo 50 (by decide) (by simp) (by simp)) (lo 60 (by decide) (by simp) (by simp)) (mm 12 (by simp)) (mm 13 (by simp)) (mm 14 (by simp)), ?_, by rw [lo 126 (by decide) (by simp) (by simp)]; exact h4, by rw [lo 127 (by decide) (by simp) (by simp)]; exact h5, by rw [lo 128 (by decide) (by simp) (by simp)]; exact h6, by rw [lo 201 (by decide) (by simp) (by simp)]; exact h7, by rw [mm 44 (by simp)]; exact h8, h9, by rw [p1]; exact hy, hF, ⟨c, by rw [lo 221 (by decide) (by simp) (by simp)]; exact g0, by rw [lo 249 (by decide) (by simp) (by simp)]; exact g01, by omega⟩, by rw [lo 220 (by decide) (by simp) (by simp)]; exact g1, by rw [lo 222 (by decide) (by simp) (by simp)]; exact g2, fun t ht => by rw [lo 230 (by decide) (by simp) (by simp)]; exact g3 t ht, fun f hf => ?_⟩, t281⟩
  · unfold PR PRy at hPR ⊢
    simp only [p1, lo 20 (by decide) (by simp) (by simp), lo 103 (by decide) (by simp) (by simp), lo 240 (by decide) (by simp) (by simp), lo 241 (by decide) (by simp) (by simp), lo 242 (by decide) (by simp) (by simp), lo 247 (by decide) (by simp) (by simp), lo 248 (by decide) (by simp) (by simp), lo 250 (by decide) (by simp) (by simp), lo 260 (by decide) (by simp) (by simp), lo 270 (by decide) (by simp) (by simp), mm 1 (by simp), mm 2 (by simp), m3, mm 4 (by simp), mm 5 (by simp), mm 6 (by simp), m7, mm 8 (by simp), mm 9 (by simp)]
    exact hPR
  · unfold BkM at hBk ⊢
    simp only [p1, m3, mm 4 (by simp), mm 5 (by simp), mm 6 (by simp), m7]
    exact hBk
  · rw [p1] at hz
    intro h248
    rw [lo 248 (by decide) (by simp) (by simp)] at h248
    obtain ⟨c', n', x1, x2, x3, x4, x5⟩ := hPl z hz h248
    have el : lvC S50 z = lvC S z := funext fun i => by unfold lvC; rw [lo 250 (by decide) (by simp) (by simp), lo 270 (by decide) (by simp) (by simp)]
    refine ⟨c', n', by rw [lo 249 (by decide) (by simp) (by simp)]; exact x1, by omega, by rw [lo 247 (by decide) (by simp) (by simp)]; exact x3, x4, ?_⟩
    unfold PlC at x5 ⊢
    rw [el, hi 320 c' (by decide) x2, hi 321 c' (by decide) x2, hi 349 c' (by decide) x2, hi 339 c' (by decide) x2, hi 340 c' (by decide) x2, hi 330 c' (by decide) x2, lo 250 (by decide) (by simp) (by simp), lo 260 (by decide) (by simp) (by simp), lo 270 (by decide) (by simp) (by simp)]
    exact x5
  · rw [p1] at hz
    by_cases w : z = y
    · subst w
      obtain ⟨a1, a2, a3, a4, a5, a6, a7, a8, a9⟩ := hHt z hz
      refine ⟨by rw [t280, e15, upd_s], by rw [lo 282 (by decide) (by simp) (by simp), mm 16 (by simp)]; exact a2, by rw [t283, e17, upd_s, f4.1, a3, hk, nI_1], by rw [lo 284 (by decide) (by simp) (by simp), mm 18 (by simp)]; exact a4, by rw [lo 285 (by decide) (by simp) (by simp), mm 19 (by simp)]; exact a5, fun t ht => by rw [lo 310 (by decide) (by simp) (by simp), mm 22 (by simp)]; exact a6 t ht, ?_, fun w => ?_, fun k' hk' w => ?_⟩
      · rw [lo 290 (by decide) (by simp) (by simp), lo 300 (by decide) (by simp) (by simp), mm 16 (by simp), mm 20 (by simp), mm 21 (by simp)]; exact a7
      · rw [e17, upd_s] at w
        exact absurd (nI_inj (a := k + 1) (b := 0) w (by omega) (by omega)) (by omega)
      · rw [e17, upd_s] at w
        obtain rfl : k' = k := by have := nI_inj w (by omega) (by omega); omega
        exact ⟨C, t281, by omega, N, h, n, P, as, val, st, nw⟩
    · refine (hHt z hz).keep (by omega) (fun q hq => ?_) (fun q a b => ?_) (fun q t a b _ => ?_) (fun k' c' hk' hc' h17 hx => kR hc' (by omega) hx)
      · by_cases w2 : q = 280
        · rw [w2, (to z w).1, f1 280 z (by omega) rfl]
        · by_cases w3 : q = 281
          · rw [w3, (to z w).2.1, f1 281 z (by omega) rfl]
          · by_cases w4 : q = 283
            · rw [w4, (to z w).2.2, f1 283 z (by omega) rfl]
            · rw [lo q (by omega) (by simp; omega) (by simp; omega)]
      · by_cases w2 : q = 15
        · rw [w2, e15, upd_n _ _ w]
        · by_cases w3 : q = 17
          · rw [w3, e17, upd_n _ _ w]
          · rw [mm q (by simp; omega)]
      · rw [mm q (by simp; omega)]
  · obtain ⟨t1, t2, t3, t4, t5, t6, t7⟩ := h3
    exact ⟨by rw [lo 200 (by decide) (by simp) (by simp), mm 48 (by simp)]; exact t1, by rw [mm 48 (by simp)]; exact t2, by rw [lo 202 (by decide) (by simp) (by simp), mm 45 (by simp)]; exact t3, by rw [lo 203 (by decide) (by simp) (by simp), mm 46 (by simp)]; exact t4, by rw [lo 204 (by decide) (by simp) (by simp), mm 47 (by simp)]; exact t5, by rw [lo 205 (by decide) (by simp) (by simp), mm 49 (by simp)]; exact t6, fun t ht => by rw [lo 210 (by decide) (by simp) (by simp), mm 50 (by simp)]; exact t7 t ht⟩
  · obtain ⟨m, d, w1, w2, w3, w4⟩ := hW f hf
    have hm := w2.1
    have h38 := w2.2.2.1
    refine ⟨m, d, w1, w2.keep p1 (by rw [lo 220 (by decide) (by simp) (by simp)]) (by rw [lo 230 (by decide) (by simp) (by simp)]) (by rw [mm 38 (by simp)]) (fun t ht => by rw [mm 42 (by simp)]), w3.keep (by omega) (by omega) (by rw [lo 221 (by decide) (by simp) (by simp)]) (by rw [lo 222 (by decide) (by simp) (by simp)]) (lo 249 (by decide) (by simp) (by simp)) (lo 250 (by decide) (by simp) (by simp)) (lo 270 (by decide) (by simp) (by simp)) (by rw [mm 39 (by simp)]) (by rw [mm 40 (by simp)]) (by rw [mm 41 (by simp)]) (mm 5 (by simp)) (mm 1 (by simp)) (fun t ht => by rw [mm 42 (by simp)]) (fun j c' _ _ _ _ _ _ _ hj h40 hc' hx => kp hc' ?_ hx), by rw [lo 223 (by decide) (by simp) (by simp)]; exact w4⟩
    obtain ⟨km, k1, k2, k3⟩ := hfr f m j hf (by omega) hj h38 h40
    by_cases w : m = y
    · rw [w] at k1
      have := nI_inj (k1.symm.trans hk) (by omega) (by omega)
      omega
    · omega
