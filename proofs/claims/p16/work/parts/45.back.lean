/-! a call is over; a GUARD fails -/
/-- what the end of a call leaves of the one around it -/
def RtR (S S' : MST) (f : Nat) : Prop := (∀ q : Nat, q ≠ 37 → q ≠ 39 → q ≠ 41 → q ≠ 42 → S' q = S q) ∧ (∀ t : Nat, t ≠ f - 1 → S' 39 t = S 39 t ∧ S' 41 t = S 41 t) ∧ S' 37 0 = nI f
theorem sp_returns {S : MST} {M f : Nat} {v : Int32} {Post : MST → Prop} (hMB : MB S M) (h37 : S 37 0 = nI (f + 1)) (hf : f < 16) (hW : 1 ≤ f → WtI S M (f - 1)) (hstop : ∀ S' : MST, MB S' M → ¬ S' 43 0 = 0 → Post S')
    (h : ∀ S' : MST, 1 ≤ f → RtR S S' f → FrI S' M (f - 1) → fm S' (f - 1) < fm S (f - 1) → Post S') : wp_X12_returns S v Post := by
  unfold wp_X12_returns
  rw [h37, nI_m1 (n := f + 1) (by omega), show f + 1 - 1 = f by omega]
  intro S1 e1
  have s1 : ∀ q : Nat, q ≠ 37 → S1 q = S q := fun q a => by rw [e1, ms_n _ _ a]
  have s37 : S1 37 0 = nI f := by rw [e1, ms_s]
  rw [s37]
  refine ⟨fun hne => ?_, fun _ S22 e22 S23 e23 => hstop S23 ?_ ?_⟩
  · have hf1 : 1 ≤ f := by
      rcases Nat.eq_zero_or_pos f with q | q
      · subst q; exact absurd rfl hne
      · exact q
    obtain ⟨⟨hM0, hM8, hT, hLk⟩, hR, hC⟩ := hMB
    obtain ⟨⟨m, n, hm, h38, hn, hn60, hcase⟩, hwt⟩ := hW hf1
    rw [nI_m1 hf1, nI_clamp (n := f - 1) (by omega)]
    have v16 : vp_in (nI (f - 1)) 16 := vp_in_nI (by omega) (by omega)
    have nb : ¬ S 40 (f - 1) = -1 → ¬ (f - 1 = f) := fun _ => by omega
    rcases hcase with ⟨e40, i, d, hi, e39, hd8, e7, e41⟩ | ⟨j, k, N, at', e17, hj, hk, e40, e23, hN, e39, hat⟩
    · have w4 := (hwt m i (by omega) (by omega) h38 e39).1 e40
      obtain ⟨l, n', _, hl6, h3', _, _, _, hlook⟩ := hLk m hm
      obtain rfl : n' = n := nI_inj (h3'.symm.trans hn) (by omega) (by omega)
      obtain ⟨d', hd8', hd', hr⟩ := (hlook i hi).resolve_left (by rw [e7]; exact nI_neg1 (by omega))
      obtain rfl : d' = d := nI_inj (hd'.symm.trans e7) (by omega) (by omega)
      obtain ⟨o, ax, ho, ho4, hok, hax, htk, h8, hjj, hnx⟩ := hr
      obtain rfl : o = 11 := nI_inj (ho4.symm.trans w4) (by omega) (by omega)
      obtain ⟨y, hy, ey, ey1, hax3⟩ := hax rfl
      obtain ⟨hi1, e71⟩ := hnx (by decide) (by decide)
      have htk2 : ax ≤ d' := by have := htk; simp only [tkN] at this; simpa using this
      have h82 : d' - ax + 1 ≤ 8 := by have := h8; simp only [tkN, lyN] at this; simpa using this
      have e72 : S 7 (60 * m + (i + 1)) = nI (d' - ax + 1) := by have := e71; simp only [tkN, lyN] at this; simpa using this
      have t40 : S1 40 (f - 1) = -1 := by rw [s1 40 (by decide)]; exact e40
      have t39 : S1 39 (f - 1) = nI i := by rw [s1 39 (by decide)]; exact e39
      have t38 : S1 38 (f - 1) = nI m := by rw [s1 38 (by decide)]; exact h38
      have t41 : S1 41 (f - 1) = nI d' := by rw [s1 41 (by decide)]; exact e41
      rw [t40, t39, t38, t41, ix60, nI_clamp (n := 60 * m + i) (by omega), s1 5 (by decide), ey, nI_clamp (n := y) (by omega), s1 1 (by decide), ey1, nI_sub htk2, nI_1, show (15 : Int32) * nI (f - 1) + 7 = nI (15 * (f - 1) + 7) from ix15 (f - 1) 7]
      refine ⟨v16, fun q => absurd q (by decide), fun _ => ⟨v16, v16, vp_in_nI (by omega) (by omega), v16, vp_in_nI (by omega) (by omega), v16, fun S16 e16 => ⟨v16, ?_⟩⟩⟩
      have t16 : S16 41 (f - 1) = nI (d' - ax) := by rw [e16, ms_s, upd_s]
      rw [t16, nI_add]
      refine ⟨vp_in_nI (by omega) (by omega), fun S18 e18 => ⟨v16, v16, fun S20 e20 => ⟨v16, fun S21 e21 => ?_⟩⟩⟩
      have g41 : S18 41 = upd (S 41) (f - 1) (nI (d' - ax)) := by rw [e18, ms_n _ _ (show 41 ≠ 42 by decide), e16, ms_s, s1 41 (by decide)]
      have t18 : S18 41 (f - 1) = nI (d' - ax) := by rw [g41, upd_s]
      rw [t18, nI_1] at e20
      have r39 : S21 39 = upd (S 39) (f - 1) (nI (i + 1)) := by rw [e21, ms_s, e20, ms_n _ _ (show 39 ≠ 41 by decide), e18, ms_n _ _ (show 39 ≠ 42 by decide), e16, ms_n _ _ (show 39 ≠ 41 by decide), s1 39 (by decide)]
      have r41 : S21 41 = upd (S18 41) (f - 1) (nI (d' - ax + 1)) := by rw [e21, ms_n _ _ (show 41 ≠ 39 by decide), e20, ms_s]
      have r : ∀ q : Nat, q ≠ 37 → q ≠ 39 → q ≠ 41 → q ≠ 42 → S21 q = S q := fun q a b c dd => by
        rw [e21, ms_n _ _ b, e20, ms_n _ _ c, e18, ms_n _ _ dd, e16, ms_n _ _ c, s1 q a]
      have r37 : S21 37 0 = nI f := by rw [e21, ms_n _ _ (show 37 ≠ 39 by decide), e20, ms_n _ _ (show 37 ≠ 41 by decide), e18, ms_n _ _ (show 37 ≠ 42 by decide), e16, ms_n _ _ (show 37 ≠ 41 by decide), s37]
      have rr40 : S21 40 (f - 1) = -1 := by rw [r 40 (by decide) (by decide) (by decide) (by decide)]; exact e40
      refine h S21 hf1 ⟨r, fun t ht => ⟨by rw [r39, upd_n _ _ ht], by rw [r41, upd_n _ _ ht, g41, upd_n _ _ ht]⟩, r37⟩ ⟨m, n', hm, by rw [r 38 (by decide) (by decide) (by decide) (by decide)]; exact h38, by rw [r 3 (by decide) (by decide) (by decide) (by decide)]; exact hn, hn60, Or.inl ⟨rr40, i + 1, d' - ax + 1, hi1, by rw [r39, upd_s], h82, by rw [r 7 (by decide) (by decide) (by decide) (by decide)]; exact e72, by rw [r41, upd_s]⟩⟩ ?_
      unfold fm
      rw [rr40, if_pos rfl, e40, if_pos rfl, r39, upd_s, e39, nI_clamp (n := i) (by omega), nI_clamp (n := i + 1) (by omega)]
      omega
    · have w25 := (hwt m at' (by omega) (by omega) h38 e39).2 (12 * m + j) (by omega) e40
      obtain ⟨nn, kk, c3, c60, c17, c12, hcod, -, -⟩ := hC.1 m hm
      obtain rfl : kk = k := nI_inj (c17.symm.trans e17) (by omega) (by omega)
      obtain ⟨N', N1, N6, eN, hpv, hst, hlast⟩ := hcod j hj
      obtain rfl : N' = N := nI_inj (eN.symm.trans e23) (by omega) (by omega)
      have hat1 : at' + 1 < N' := by
        rcases Nat.lt_or_ge (at' + 1) N' with q | q
        · exact q
        · have e : N' - 1 = at' := by omega
          rw [e, w25] at hlast
          rcases hlast with w | w
          · exact absurd (nI_inj w (by omega) (by omega)) (by omega)
          · exact absurd (nI_inj w (by omega) (by omega)) (by omega)
      obtain ⟨o', i, ho', eo, ew, hi, hil, g0, g1, g2, g3, g4, -⟩ := hpv at' hat
      obtain rfl : o' = 10 := nI_inj (eo.symm.trans w25) (by omega) (by omega)
      obtain ⟨y, x, ax, hy, _, _, _, ex, hxa, hx, _⟩ := g4 rfl
      have t40 : S1 40 (f - 1) = nI (12 * m + j) := by rw [s1 40 (by decide)]; exact e40
      have t39 : S1 39 (f - 1) = nI at' := by rw [s1 39 (by decide)]; exact e39
      rw [t40, t39, ix640, nI_clamp (n := 640 * (12 * m + j) + at') (by omega), s1 26 (by decide), ex, ix15]
      refine ⟨v16, fun _ => ⟨v16, v16, vp_in_nI (by omega) (by omega), vp_in_nI (by omega) (by omega), fun S8 e8 => ⟨v16, v16, fun S10 e10 => ?_⟩⟩, fun q => absurd (nI_le (a := 0) (b := 12 * m + j) (Nat.zero_le _) (by omega)) q⟩
      have t8 : S8 39 (f - 1) = nI at' := by rw [e8, ms_n _ _ (show 39 ≠ 42 by decide)]; exact t39
      rw [t8, nI_1] at e10
      have r39 : S10 39 = upd (S 39) (f - 1) (nI (at' + 1)) := by rw [e10, ms_s, e8, ms_n _ _ (show 39 ≠ 42 by decide), s1 39 (by decide)]
      have r : ∀ q : Nat, q ≠ 37 → q ≠ 39 → q ≠ 42 → S10 q = S q := fun q a b c => by
        rw [e10, ms_n _ _ b, e8, ms_n _ _ c, s1 q a]
      have r37 : S10 37 0 = nI f := by rw [e10, ms_n _ _ (show 37 ≠ 39 by decide), e8, ms_n _ _ (show 37 ≠ 42 by decide), s37]
      have rr40 : S10 40 (f - 1) = nI (12 * m + j) := by rw [r 40 (by decide) (by decide) (by decide)]; exact e40
      have ne : ¬ nI (12 * m + j) = -1 := nI_neg1 (by omega)
      refine h S10 hf1 ⟨fun q a b _ c => r q a b c, fun t ht => ⟨by rw [r39, upd_n _ _ ht], by rw [r 41 (by decide) (by decide) (by decide)]⟩, r37⟩ ⟨m, n, hm, by rw [r 38 (by decide) (by decide) (by decide)]; exact h38, by rw [r 3 (by decide) (by decide) (by decide)]; exact hn, hn60, Or.inr ⟨j, kk, N', at' + 1, by rw [r 17 (by decide) (by decide) (by decide)]; exact e17, hj, hk, rr40, by rw [r 23 (by decide) (by decide) (by decide)]; exact e23, hN, by rw [r39, upd_s], hat1⟩⟩ ?_
      unfold fm
      rw [rr40, if_neg ne, e40, if_neg ne, r39, upd_s, e39, nI_clamp (n := at') (by omega), nI_clamp (n := at' + 1) (by omega)]
      omega
  · have s : ∀ q : Nat, q ≠ 37 → q ≠ 49 → q ≠ 43 → S23 q = S q := fun q a b c => by rw [e23, ms_n _ _ c, e22, ms_n _ _ b, s1 q a]
    exact hMB.same (fun q hq => s q (by omega) (by omega) (by omega)) (s 13 (by decide) (by decide) (by decide)) (s 15 (by decide) (by decide) (by decide)) (s 17 (by decide) (by decide) (by decide)) (fun q a b => s q (by omega) (by omega) (by omega))
  · rw [e23, ms_s]; decide
/-- a thing varies from now on, whatever comes of the present code of METHOD m -/
theorem CI0.fail {S S' : MST} {M m w k j : Nat} (h : CI0 S M) (hM8 : M ≤ 8) (hm : m < M) (hw : w < 11) (hk : S 17 m = nI k) (hk12 : k ≤ 12) (hj : j < k) (hg : guards S (12 * m + j) w)
    (e22 : S' 22 = upd (S 22) (11 * m + w) 1) (e15 : S' 15 = S 15 ∨ (¬ S 15 m = 0 ∧ j = k - 1 ∧ S' 15 = upd (S 15) m 0)) (e : ∀ q : Nat, (q = 1 ∨ q = 3 ∨ q = 7 ∨ q = 17 ∨ (23 ≤ q ∧ q ≤ 29)) → S' q = S q) : CI0 S' M := by
  intro y hy
  obtain ⟨ny, ky, y3, y60, y17, yk, yc, yz, ynz⟩ := h y hy
  have gS : ∀ c t : Nat, guards S' c t → guards S c t := fun c t q => guards_same (by rw [e 23 (by omega)]) (fun q t a b _ _ => by rw [e q (by omega)]) q
  have cS : ∀ c : Nat, codeI S M y ny c → codeI S' M y ny c := fun c q => codeI_same (e 1 (by omega)) (e 7 (by omega)) (by rw [e 23 (by omega)]) (fun t _ _ => by rw [e 24 (by omega)]) (fun q t a b _ _ => by rw [e q (by omega)]) y60 q
  have up : ∀ t : Nat, ¬ S 22 (11 * y + t) = 0 → ¬ S' 22 (11 * y + t) = 0 := fun t ht => by
    rw [e22]
    by_cases q : 11 * y + t = 11 * m + w
    · rw [q, upd_s]; decide
    · rw [upd_n _ _ q]; exact ht
  have vup : vN S y ≤ vN S' y := sN_le 11 (fun t _ => by
    show (if S 22 (11 * y + t) = 0 then 0 else 1) ≤ (if S' 22 (11 * y + t) = 0 then 0 else 1)
    by_cases q : S 22 (11 * y + t) = 0
    · rw [if_pos q]; exact Nat.zero_le _
    · rw [if_neg q, if_neg (up t q)]; exact Nat.le_refl _)
  have kept : S' 15 y = S 15 y → ∃ (n k : Nat), S' 3 y = nI n ∧ n ≤ 60 ∧ S' 17 y = nI k ∧ k ≤ 12 ∧ (∀ j : Nat, j < k → codeI S' M y n (12 * y + j)) ∧ (S' 15 y = 0 → k ≤ vN S' y) ∧
      (¬ S' 15 y = 0 → 1 ≤ k ∧ ∃ g : Nat → Bool, (∀ t : Nat, t < 11 → g t = true → ¬ S' 22 (11 * y + t) = 0 ∧ ¬ guards S' (12 * y + (k - 1)) t) ∧ k ≤ 1 + sN (fun t => if g t = true then 1 else 0) 11) := fun q15 => by
    refine ⟨ny, ky, by rw [e 3 (by omega)]; exact y3, y60, by rw [e 17 (by omega)]; exact y17, yk, fun j hj => cS _ (yc j hj), fun q => ?_, fun q => ?_⟩
    · have := yz (by rw [← q15]; exact q)
      omega
    · obtain ⟨k1, gf, gf1, gf2⟩ := ynz (by rw [← q15]; exact q)
      exact ⟨k1, gf, fun t ht hgt => ⟨up t (gf1 t ht hgt).1, fun w => (gf1 t ht hgt).2 (gS _ t w)⟩, gf2⟩
  rcases e15 with q15 | ⟨nz, hjk, q15⟩
  · exact kept (by rw [q15])
  · by_cases hym : y = m
    · subst hym
      obtain rfl : ky = k := nI_inj (y17.symm.trans hk) (by omega) (by omega)
      refine ⟨ny, ky, by rw [e 3 (by omega)]; exact y3, y60, by rw [e 17 (by omega)]; exact y17, yk, fun j hj => cS _ (yc j hj), fun _ => ?_, fun q => absurd (by rw [q15, upd_s]) q⟩
      obtain ⟨k1, gf, gf1, gf2⟩ := ynz nz
      have hgw : ¬ gf w = true := fun q => (gf1 w hw q).2 (by rw [← hjk]; exact hg)
      have : sN (fun t => if gf t = true then 1 else 0) 11 < vN S' y := by
        refine sN_lt 11 (fun t ht => ?_) w hw ?_
        · show (if gf t = true then 1 else 0) ≤ (if S' 22 (11 * y + t) = 0 then 0 else 1)
          by_cases q : gf t = true
          · rw [if_pos q, if_neg (up t (gf1 t ht q).1)]; exact Nat.le_refl _
          · rw [if_neg q]; exact Nat.zero_le _
        · show (if gf w = true then 1 else 0) < (if S' 22 (11 * y + w) = 0 then 0 else 1)
          rw [if_neg hgw, e22, upd_s, if_neg (by decide)]; omega
      omega
    · exact kept (by rw [q15, upd_n _ _ hym])
theorem CI.fail {S S' : MST} {M m w k j : Nat} (h : CI S M) (hM8 : M ≤ 8) (hm : m < M) (hw : w < 11) (hk : S 17 m = nI k) (hk12 : k ≤ 12) (hj : j < k) (hg : guards S (12 * m + j) w)
    (e22 : S' 22 = upd (S 22) (11 * m + w) 1) (e15 : S' 15 = S 15 ∨ (¬ S 15 m = 0 ∧ j = k - 1 ∧ S' 15 = upd (S 15) m 0)) (e : ∀ q : Nat, (q = 1 ∨ q = 3 ∨ q = 7 ∨ q = 17 ∨ (23 ≤ q ∧ q ≤ 29)) → S' q = S q) : CI S' M :=
  ⟨h.1.fail hM8 hm hw hk hk12 hj hg e22 e15 e, fun y hy hy8 => by
    rw [e 17 (by omega)]
    rcases e15 with q | ⟨_, _, q⟩
    · rw [q]; exact h.2 y hy hy8
    · rw [q, upd_n _ _ (show y ≠ m by omega)]; exact h.2 y hy hy8⟩
/-- what a failed GUARD leaves -/
def FlR (S S' : MST) (f : Nat) : Prop := (∀ q : Nat, q ≠ 15 → q ≠ 16 → q ≠ 18 → q ≠ 22 → q ≠ 39 → q ≠ 40 → q ≠ 41 → q ≠ 47 → S' q = S q) ∧ ∀ t : Nat, t ≠ f → S' 39 t = S 39 t ∧ S' 40 t = S 40 t ∧ S' 41 t = S 41 t
theorem sp_fails {S : MST} {M f m n k j N at' w : Nat} {Post : MST → Prop} (hMB : MB S M) (hf : f < 16) (hm : m < M) (h38 : S 38 f = nI m) (hn : S 3 m = nI n) (hk : S 17 m = nI k) (hk12 : k ≤ 12) (hj : j < k) (h40 : S 40 f = nI (12 * m + j)) (h23 : S 23 (12 * m + j) = nI N) (hN : N ≤ 640) (hat : at' < N) (hw : w < 11) (hg : guards S (12 * m + j) w)
    (h : ∀ S' : MST, MB S' M → FlR S S' f → FrI S' M f → fm S' f ≤ 60 → Post S') : wp_X12_fails S (nI f) (nI (640 * (12 * m + j) + at')) (nI w) Post := by
  obtain ⟨⟨hM0, hM8, hT, hLk⟩, hR, hC⟩ := id hMB
  obtain ⟨l, n', hl, hl6, h3', hn1, hn60, h70, hlook⟩ := hLk m hm
  obtain ⟨nn, kk, c3, c60, c17, c12, hcod, -, -⟩ := hC.1 m hm
  obtain rfl : kk = k := nI_inj (c17.symm.trans hk) (by omega) (by omega)
  obtain rfl : nn = n' := nI_inj (c3.symm.trans h3') (by omega) (by omega)
  obtain ⟨N', N1, N6, eN, hpv, hst, hlast⟩ := hcod j hj
  obtain rfl : N' = N := nI_inj (eN.symm.trans h23) (by omega) (by omega)
  have v16 : vp_in (nI f) 16 := vp_in_nI hf (by omega)
  have v8 : vp_in (nI m) 8 := vp_in_nI (by omega) (by omega)
  have hcf : (nI f).toNatClampNeg = f := nI_clamp (by omega)
  have hcm : (nI m).toNatClampNeg = m := nI_clamp (by omega)
  have hcp : (nI (640 * (12 * m + j) + at')).toNatClampNeg = 640 * (12 * m + j) + at' := nI_clamp (by omega)
  have vp : vp_in (nI (640 * (12 * m + j) + at')) 61440 := vp_in_nI (by omega) (by omega)
  unfold wp_X12_fails
  rw [hcf, h38, hcm, ix11, nI_clamp (n := 11 * m + w) (by omega), vn_1, vn_0]
  refine ⟨v16, v8, v8, fun S13 e13 S14 e14 => ⟨vp_in_nI (by omega) (by omega), fun S15 e15 => ⟨v8, ?_⟩⟩⟩
  have s15 : ∀ q : Nat, q ≠ 18 → q ≠ 47 → q ≠ 22 → S15 q = S q := fun q a b c => by rw [e15, ms_n _ _ c, e14, ms_n _ _ b, e13, ms_n _ _ a]
  have s22 : S15 22 = upd (S 22) (11 * m + w) 1 := by rw [e15, ms_s, e14, ms_n _ _ (show 22 ≠ 47 by decide), e13, ms_n _ _ (show 22 ≠ 18 by decide)]
  -- it goes on by INSTRUCTIONS
  have f128 : ∀ (Sx : MST) (i : Nat), (∀ q : Nat, q ≠ 18 → q ≠ 47 → q ≠ 22 → q ≠ 15 → q ≠ 16 → Sx q = S q) → CI Sx M → i < nn → ¬ S 7 (60 * m + i) = -1 → wj_X12_fails_128 Sx (nI f) (nI m) (nI i) Post := by
    intro Sx i hx hCx hi hil
    unfold wj_X12_fails_128
    rw [hcf, ix60, nI_clamp (n := 60 * m + i) (by omega)]
    refine ⟨v16, fun S1 e1 => ⟨v16, fun S2 e2 => ⟨vp_in_nI (by omega) (by omega), v16, fun S4 e4 => ?_⟩⟩⟩
    obtain ⟨d, hd8, hd, _⟩ := (hlook i hi).resolve_left hil
    have g2 : ∀ q : Nat, q ≠ 40 → q ≠ 39 → S2 q = Sx q := fun q a b => by rw [e2, ms_n _ _ b, e1, ms_n _ _ a]
    have g4 : ∀ q : Nat, q ≠ 40 → q ≠ 39 → q ≠ 41 → S4 q = Sx q := fun q a b c => by rw [e4, ms_n _ _ c, g2 q a b]
    rw [g2 7 (by decide) (by decide), hx 7 (by decide) (by decide) (by decide) (by decide) (by decide), hd] at e4
    have g40 : S4 40 = upd (S 40) f (-1) := by rw [e4, ms_n _ _ (show 40 ≠ 41 by decide), e2, ms_n _ _ (show 40 ≠ 39 by decide), e1, ms_s, hx 40 (by decide) (by decide) (by decide) (by decide) (by decide)]
    have g39 : S4 39 = upd (S 39) f (nI i) := by rw [e4, ms_n _ _ (show 39 ≠ 41 by decide), e2, ms_s, e1, ms_n _ _ (show 39 ≠ 40 by decide), hx 39 (by decide) (by decide) (by decide) (by decide) (by decide)]
    have g41 : S4 41 = upd (S 41) f (nI d) := by rw [e4, ms_s, g2 41 (by decide) (by decide), hx 41 (by decide) (by decide) (by decide) (by decide) (by decide)]
    have a4 : ∀ q : Nat, q ≠ 15 → q ≠ 16 → q ≠ 18 → q ≠ 22 → q ≠ 39 → q ≠ 40 → q ≠ 41 → q ≠ 47 → S4 q = S q := fun q x1 x2 x3 x4 x5 x6 x7 x8 => by rw [g4 q x6 x5 x7, hx q x3 x8 x4 x1 x2]
    have hLk' : LkI S4 M := hMB.1.same (fun q hq => a4 q (by omega) (by omega) (by omega) (by omega) (by omega) (by omega) (by omega) (by omega))
    have hC4 : CI S4 M := hCx.same (g4 1 (by decide) (by decide) (by decide)) (g4 3 (by decide) (by decide) (by decide)) (g4 7 (by decide) (by decide) (by decide)) (g4 15 (by decide) (by decide) (by decide)) (g4 17 (by decide) (by decide) (by decide)) (g4 22 (by decide) (by decide) (by decide)) (fun q a b => g4 q (by omega) (by omega) (by omega))
    have hR4 : rowN S4 := by
      unfold rowN
      rw [a4 13 (by decide) (by decide) (by decide) (by decide) (by decide) (by decide) (by decide) (by decide)]
      exact hR
    refine h S4 ⟨hLk', hR4, hC4⟩ ⟨a4, fun t ht => ⟨by rw [g39, upd_n _ _ ht], by rw [g40, upd_n _ _ ht], by rw [g41, upd_n _ _ ht]⟩⟩ ⟨m, nn, hm, by rw [a4 38 (by decide) (by decide) (by decide) (by decide) (by decide) (by decide) (by decide) (by decide)]; exact h38, by rw [a4 3 (by decide) (by decide) (by decide) (by decide) (by decide) (by decide) (by decide) (by decide)]; exact c3, c60, Or.inl ⟨by rw [g40, upd_s], i, d, hi, by rw [g39, upd_s], hd8, by rw [a4 7 (by decide) (by decide) (by decide) (by decide) (by decide) (by decide) (by decide) (by decide)]; exact hd, by rw [g41, upd_s]⟩⟩ ?_
    unfold fm
    rw [g40, upd_s, if_pos rfl]
    omega
  have f83 : ∀ (Sx : MST), (∀ q : Nat, q ≠ 18 → q ≠ 47 → q ≠ 22 → q ≠ 15 → q ≠ 16 → Sx q = S q) → CI Sx M → wj_X12_fails_83 Sx (nI f) (nI (640 * (12 * m + j) + at')) (nI m) Post := by
    intro Sx hx hCx
    have z : wj_X12_fails_109 Sx (nI f) (nI (640 * (12 * m + j) + at')) (nI m) 0 Post := by
      unfold wj_X12_fails_109
      refine ⟨fun _ => f128 Sx 0 hx hCx (by omega) ?_, fun q => absurd rfl q⟩
      rw [Nat.add_zero, h70]; exact nI_neg1 (by omega)
    unfold wj_X12_fails_83
    refine ⟨vp, fun _ => z, fun _ => sp_isBehindCall (by omega) ⟨fun _ => z, fun q => absurd rfl q⟩ (fun p hp hdiv e25 e29 => ⟨fun q => absurd q (by decide), fun _ => ?_⟩)⟩
    unfold wj_X12_fails_109
    refine ⟨fun q => absurd q (by decide), fun _ => ⟨vp, ?_⟩⟩
    rw [hcp, ← e29]
    have hpp : p = 640 * (12 * m + j) + (p - 640 * (12 * m + j)) := by omega
    have e25' := e25
    have x25 := hx 25 (by decide) (by decide) (by decide) (by decide) (by decide)
    have x29 := hx 29 (by decide) (by decide) (by decide) (by decide) (by decide)
    rw [x25, hpp] at e25'
    rw [x29, hpp]
    obtain ⟨o', i, ho', eo, ew, hi, hil, g0, g1, g2, g3, g4, -⟩ := hpv (p - 640 * (12 * m + j)) (by omega)
    obtain rfl : o' = 10 := nI_inj (b := 10) (eo.symm.trans e25') (by omega) (by omega)
    obtain ⟨y, x, ax, _, _, _, _, _, _, _, hi1, hl1⟩ := g4 rfl
    rw [ew, nI_1]
    exact f128 Sx (i + 1) hx hCx hi1 hl1
  have hC15 : CI S15 M := hC.fail hM8 hm hw hk hk12 hj hg s22 (Or.inl (s15 15 (by decide) (by decide) (by decide))) (fun q hq => s15 q (by omega) (by omega) (by omega))
  refine ⟨fun _ => f83 S15 (fun q a b c _ _ => s15 q a b c) hC15, fun nz => ⟨v16, ?_⟩⟩
  rw [s15 15 (by decide) (by decide) (by decide)] at nz
  refine sp_codeNow (k := kk) (by omega) (by rw [s15 17 (by decide) (by decide) (by decide)]; exact hk) (by omega) hk12 ⟨fun _ => f83 S15 (fun q a b c _ _ => s15 q a b c) hC15, fun hq => ⟨v8, fun S21 e21 => ⟨v8, fun S22 e22 => ?_⟩⟩⟩
  rw [s15 40 (by decide) (by decide) (by decide), h40] at hq
  have hjk : 12 * m + j = 12 * m + (kk - 1) := nI_inj hq (by omega) (by omega)
  have t15 : S22 15 = upd (S 15) m 0 := by rw [e22, ms_n _ _ (show 15 ≠ 16 by decide), e21, ms_s, s15 15 (by decide) (by decide) (by decide)]
  have t : ∀ q : Nat, q ≠ 18 → q ≠ 47 → q ≠ 22 → q ≠ 15 → q ≠ 16 → S22 q = S q := fun q a b c d e => by rw [e22, ms_n _ _ e, e21, ms_n _ _ d, s15 q a b c]
  have t22 : S22 22 = upd (S 22) (11 * m + w) 1 := by rw [e22, ms_n _ _ (show 22 ≠ 16 by decide), e21, ms_n _ _ (show 22 ≠ 15 by decide), s22]
  exact f83 S22 t (hC.fail hM8 hm hw hk hk12 hj hg t22 (Or.inr ⟨nz, by omega, t15⟩) (fun q hq => t q (by omega) (by omega) (by omega) (by omega) (by omega)))
