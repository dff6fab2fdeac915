/-! the calls that are open, in the reference -/
/-- call f stands at an INSTRUCTION that is come to with its depth, or at a PART of a code -/
def FrI (S : MST) (M f : Nat) : Prop := ∃ (m n : Nat), m < M ∧ S 38 f = nI m ∧ S 3 m = nI n ∧ n ≤ 60 ∧ ((S 40 f = -1 ∧ ∃ (i d : Nat), i < n ∧ S 39 f = nI i ∧ d ≤ 8 ∧ S 7 (60 * m + i) = nI d ∧ S 41 f = nI d) ∨ (∃ (j k N at' : Nat), S 17 m = nI k ∧ j < k ∧ k ≤ 12 ∧ S 40 f = nI (12 * m + j) ∧ S 23 (12 * m + j) = nI N ∧ N ≤ 640 ∧ S 39 f = nI at' ∧ at' < N))
/-- .. and waits there for a CALL -/
def WtI (S : MST) (M f : Nat) : Prop := FrI S M f ∧ ∀ (m at' : Nat), m < 8 → at' < 640 → S 38 f = nI m → S 39 f = nI at' → (S 40 f = -1 → S 4 (60 * m + at') = nI 11) ∧ (∀ c : Nat, c < 96 → S 40 f = nI c → S 25 (640 * c + at') = nI 10)
def fm (S : MST) (f : Nat) : Nat := if S 40 f = -1 then 60 - (S 39 f : Int32).toNatClampNeg else 701 - (S 39 f : Int32).toNatClampNeg
theorem fm_le (S : MST) (f : Nat) : fm S f ≤ 701 := by
  unfold fm
  split <;> omega
/-- codes that are there stay as they are -/
def CdK (S S' : MST) (M : Nat) : Prop := ∀ (m k j : Nat), m < M → S 17 m = nI k → k ≤ 12 → j < k → (∃ k' : Nat, k ≤ k' ∧ k' ≤ 12 ∧ S' 17 m = nI k') ∧ S' 23 (12 * m + j) = S 23 (12 * m + j) ∧ ∀ t : Nat, 640 * (12 * m + j) ≤ t → t < 640 * (12 * m + j) + 640 → S' 25 t = S 25 t
theorem CdK.rf {S S' : MST} {M : Nat} (h17 : S' 17 = S 17) (h23 : S' 23 = S 23) (h25 : S' 25 = S 25) : CdK S S' M := fun m k j _ hk hk12 _ => ⟨⟨k, Nat.le_refl _, hk12, by rw [h17]; exact hk⟩, by rw [h23], fun _ _ _ => by rw [h25]⟩
theorem CdK.make {S S' : MST} {M m n k : Nat} (hM8 : M ≤ 8) (hk : S 17 m = nI k) (hk12 : k < 12) (g : McR S M m n k S') : CdK S S' M := by
  obtain ⟨g1, g15, g17, gp, g23, g24, gc, gg⟩ := g
  intro y ky j hy hky hky12 hj
  have hne : 12 * y + j ≠ 12 * m + k := by
    by_cases q : y = m
    · subst q
      have : ky = k := nI_inj (hky.symm.trans hk) (by omega) (by omega)
      omega
    · omega
  refine ⟨?_, g23 _ hne, fun t a b => gp 25 t (by omega) (by omega) (by omega)⟩
  by_cases q : y = m
  · subst q
    have : ky = k := nI_inj (hky.symm.trans hk) (by omega) (by omega)
    exact ⟨k + 1, by omega, by omega, by rw [g17, upd_s]⟩
  · exact ⟨ky, Nat.le_refl _, hky12, by rw [g17, upd_n _ _ q]; exact hky⟩
theorem FrI.keep {S S' : MST} {M f : Nat} (hq : ∀ q : Nat, 38 ≤ q → q ≤ 41 → S' q f = S q f) (h3 : S' 3 = S 3) (h7 : S' 7 = S 7) (hc : CdK S S' M) (h : FrI S M f) : FrI S' M f := by
  obtain ⟨m, n, hm, h38, hn, hn60, hcase⟩ := h
  refine ⟨m, n, hm, by rw [hq 38 (by omega) (by omega)]; exact h38, by rw [h3]; exact hn, hn60, ?_⟩
  rw [hq 39 (by omega) (by omega), hq 40 (by omega) (by omega), hq 41 (by omega) (by omega), h7]
  rcases hcase with w | ⟨j, k, N, at', e17, hj, hk, e40, e23, hN, e39, hat⟩
  · exact Or.inl w
  · obtain ⟨⟨k', a1, a2, a3⟩, b, _⟩ := hc m k j hm e17 hk hj
    exact Or.inr ⟨j, k', N, at', a3, by omega, a2, e40, by rw [b]; exact e23, hN, e39, hat⟩
theorem WtI.keep {S S' : MST} {M f : Nat} (hM8 : M ≤ 8) (hq : ∀ q : Nat, 38 ≤ q → q ≤ 41 → S' q f = S q f) (h3 : S' 3 = S 3) (h4 : S' 4 = S 4) (h7 : S' 7 = S 7) (hc : CdK S S' M) (h : WtI S M f) : WtI S' M f := by
  refine ⟨h.1.keep hq h3 h7 hc, fun m at' hm hat e38 e39 => ?_⟩
  rw [hq 38 (by omega) (by omega)] at e38
  rw [hq 39 (by omega) (by omega)] at e39
  rw [hq 40 (by omega) (by omega), h4]
  obtain ⟨w1, w2⟩ := h.2 m at' hm hat e38 e39
  refine ⟨w1, fun c hc96 e40 => ?_⟩
  have e25 := w2 c hc96 e40
  obtain ⟨m', n, hm', h38, hn, hn60, hcase⟩ := h.1
  rcases hcase with ⟨w, _⟩ | ⟨j, k, N, at2, e17, hj, hk, e402, e23, hN, e392, hat2⟩
  · exact absurd (e40.symm.trans w) (nI_neg1 (by omega))
  · have hcc : 12 * m' + j = c := nI_inj (e402.symm.trans e40) (by omega) (by omega)
    obtain ⟨_, _, b⟩ := hc m' k j hm' e17 hk hj
    rw [b (640 * c + at') (by omega) (by omega)]
    exact e25
theorem fm_keep {S S' : MST} {f : Nat} (hq : ∀ q : Nat, 38 ≤ q → q ≤ 41 → S' q f = S q f) : fm S' f = fm S f := by
  unfold fm
  rw [hq 39 (by omega) (by omega), hq 40 (by omega) (by omega)]
theorem sp_call_r {S : MST} {M m ax b F s : Nat} {a4 : Int32} {Post : MST → Prop} (hMB : MB S M) (hm : m < M) (hax : S 1 m = nI ax) (hax3 : ax ≤ 3) (hb : b + ax ≤ 240) (hF : S 37 0 = nI F) (hF16 : F ≤ 16) (hs : S 44 0 = nI s) (hs15 : s ≤ 1500) (h0 : S 43 0 = 0)
    (hstop : ∀ S' : MST, MB S' M → ¬ S' 43 0 = 0 → Post S')
    (h : ∀ S' : MST, MB S' M → s < 1500 → F < 16 → S' 44 0 = nI (s + 1) → S' 43 0 = 0 → S' 37 0 = nI (F + 1) → (∀ f q : Nat, f < F → 38 ≤ q → q ≤ 41 → S' q f = S q f) → (∀ q : Nat, q ≤ 7 → S' q = S q) → CdK S S' M → FrI S' M F → Post S') : wp_X12_call_r S (nI m) (nI b) a4 Post := by
  obtain ⟨⟨hM0, hM8, hT, hLk⟩, hR, hC⟩ := id hMB
  have v8 : vp_in (nI m) 8 := vp_in_nI (by omega) (by omega)
  have hcm : (nI m).toNatClampNeg = m := nI_clamp (by omega)
  have go : F < 16 → s < 1500 → ∀ Sx : MST, MB Sx M → (∀ q : Nat, q ≤ 7 → Sx q = S q) → Sx 44 0 = nI (s + 1) → Sx 43 0 = 0 → Sx 37 0 = nI F → (∀ q : Nat, 38 ≤ q → q ≤ 41 → Sx q = S q) → CdK S Sx M → wj_X12_call_r_60 Sx (nI m) (nI b) Post := by
    intro hF15 hs14 Sx hX e7 e44 e43 e37 eF hcd
    obtain ⟨n, k, h3, hn60, hk, hk12, hcod, -, hnz⟩ := hX.2.2.1 m hm
    obtain ⟨l, n', h2', hl6, h3', hn1, hn60', h70, hlook⟩ := hX.1.2.2.2 m hm
    obtain rfl : n' = n := nI_inj (h3'.symm.trans h3) (by omega) (by omega)
    refine sp_call60_r (k := k) (by omega) (by rw [e7 1 (by omega)]; exact hax) hax3 hb hF15 e37 hk hk12 (fun q => (hnz q).1) (fun S' hsame hfr f37 f38 f39 f41 f40 => ?_)
    have same : ∀ q : Nat, q ≤ 7 ∨ q = 13 ∨ q = 15 ∨ q = 17 ∨ (22 ≤ q ∧ q ≤ 29) ∨ q = 43 ∨ q = 44 → S' q = Sx q := fun q hq => hsame q (by omega) (by omega) (by omega) (by omega) (by omega) (by omega)
    have hMB' : MB S' M := hX.same (fun q hq => same q (by omega)) (same 13 (by omega)) (same 15 (by omega)) (same 17 (by omega)) (fun q a c => same q (by omega))
    have hcd' : CdK Sx S' M := CdK.rf (same 17 (by omega)) (same 23 (by omega)) (same 25 (by omega))
    refine h S' hMB' hs14 hF15 (by rw [same 44 (by omega)]; exact e44) (by rw [same 43 (by omega)]; exact e43) f37 (fun f q hf a c => by rw [hfr f q (by omega) a c, eF q a c]) (fun q hq => by rw [same q (by omega)]; exact e7 q hq) (fun y ky j hy h17 hky hj => ?_) ⟨m, n', hm, f38, by rw [same 3 (by omega)]; exact h3, hn60, ?_⟩
    · obtain ⟨⟨k1, a1, a2, a3⟩, a4, a5⟩ := hcd y ky j hy h17 hky hj
      obtain ⟨⟨k2, b1, b2, b3⟩, b4, b5⟩ := hcd' y k1 j hy a3 a2 (by omega)
      exact ⟨⟨k2, by omega, b2, b3⟩, by rw [b4, a4], fun t x z => by rw [b5 t x z, a5 t x z]⟩
    · rcases f40 with w | ⟨w1, w2⟩
      · refine Or.inl ⟨w, 0, 0, by omega, f39, by omega, ?_, f41⟩
        rw [Nat.add_zero, same 7 (by omega)]; exact h70
      · obtain ⟨k1, -⟩ := hnz w1
        obtain ⟨N, N1, N6, eN, -⟩ := hcod (k - 1) (by omega)
        exact Or.inr ⟨k - 1, k, N, 0, by rw [same 17 (by omega)]; exact hk, by omega, hk12, w2, by rw [same 23 (by omega)]; exact eN, N6, f39, by omega⟩
  unfold wp_X12_call_r
  rw [hF]
  refine ⟨fun hne => ?_, fun he => ?_⟩
  · have hF15 : F < 16 := by
      rcases Nat.lt_or_ge F 16 with q | q
      · exact q
      · exact absurd (congrArg nI (show F = 16 by omega)) hne
    refine sp_stepOn hs hs15 (fun hlt => ⟨fun _ S23 e23 => ?_, fun q => absurd q (by decide)⟩) (fun _ => ⟨fun q => absurd rfl q, fun _ => hstop _ ?_ ?_⟩)
    · rw [hcm]
      have g : ∀ q : Nat, q ≠ 44 → q ≠ 45 → S23 q = S q := fun q a c => by rw [e23, ms_n _ _ c, ms_n _ _ a]
      have hX : MB S23 M := hMB.same (fun q hq => g q (by omega) (by omega)) (g 13 (by decide) (by decide)) (g 15 (by decide) (by decide)) (g 17 (by decide) (by decide)) (fun q a c => g q (by omega) (by omega))
      have e44 : S23 44 0 = nI (s + 1) := by rw [e23, ms_n _ _ (show 44 ≠ 45 by decide), ms_s]
      have e43 : S23 43 0 = 0 := by rw [g 43 (by decide) (by decide)]; exact h0
      have e37 : S23 37 0 = nI F := by rw [g 37 (by decide) (by decide)]; exact hF
      have g1 := go hF15 hlt S23 hX (fun q hq => g q (by omega) (by omega)) e44 e43 e37 (fun q a c => g q (by omega) (by omega)) (CdK.rf (g 17 (by decide) (by decide)) (g 23 (by decide) (by decide)) (g 25 (by decide) (by decide)))
      refine ⟨v8, fun _ => g1, fun hc0 => ⟨v8, fun _ => g1, fun _ => ?_⟩⟩
      obtain ⟨n, k, h3, hn60, hk, hk12, hcod, hz, -⟩ := hX.2.2.1 m hm
      obtain ⟨l, n', h2', hl6, h3', hn1, hn60', h70, hlook⟩ := hX.1.2.2.2 m hm
      have hk11 := hz hc0
      have := vN_le S23 m
      refine sp_makeCode (by omega) hM8 hl6 h3' hn1 hn60' hk (by omega) h70 hlook (fun S28 hMc => ?_)
      have hMc2 := hMc
      obtain ⟨m1, -⟩ := hMc2
      have hX2 : MB S28 M := ⟨hX.1.same (fun q hq => m1 q (by omega) (by omega) (by omega)), by
        unfold rowN
        rw [m1 13 (by omega) (by omega) (by omega)]
        exact hX.2.1, hX.2.2.make hM8 hm h3' hn60' hk (by omega) hc0 hMc⟩
      have c1 : CdK S S23 M := CdK.rf (g 17 (by decide) (by decide)) (g 23 (by decide) (by decide)) (g 25 (by decide) (by decide))
      have c2 : CdK S23 S28 M := CdK.make hM8 hk (by omega) hMc
      refine go hF15 hlt S28 hX2 (fun q hq => by rw [m1 q (by omega) (by omega) (by omega)]; exact g q (by omega) (by omega)) (by rw [m1 44 (by omega) (by omega) (by omega)]; exact e44) (by rw [m1 43 (by omega) (by omega) (by omega)]; exact e43) (by rw [m1 37 (by omega) (by omega) (by omega)]; exact e37) (fun q a c => by rw [m1 q (by omega) (by omega) (by omega)]; exact g q (by omega) (by omega)) (fun y ky j hy h17 hky hj => ?_)
      obtain ⟨⟨k1, a1, a2, a3⟩, a4, a5⟩ := c1 y ky j hy h17 hky hj
      obtain ⟨⟨k2, b1, b2, b3⟩, b4, b5⟩ := c2 y k1 j hy a3 a2 (by omega)
      exact ⟨⟨k2, by omega, b2, b3⟩, by rw [b4, a4], fun t x z => by rw [b5 t x z, a5 t x z]⟩
    · exact hMB.same (fun q hq => ms_n _ _ (by omega)) (ms_n _ _ (by decide)) (ms_n _ _ (by decide)) (ms_n _ _ (by decide)) (fun q a c => ms_n _ _ (by omega))
    · rw [ms_s]; decide
  · have hF1 : F = 16 := nI_inj (b := 16) he (by omega) (by omega)
    refine sp_traps hF (by omega) hF16 (fun S' hT' => hstop S' ?_ ?_)
    · exact hMB.same (fun q hq => hT'.2 q (by omega) (by omega)) (hT'.2 13 (by decide) (by decide)) (hT'.2 15 (by decide) (by decide)) (hT'.2 17 (by decide) (by decide)) (fun q a c => hT'.2 q (by omega) (by omega))
    · rw [hT'.1]; decide
theorem sp_call_f {S : MST} {M m ax b F s : Nat} {a4 : Int32} {Post : MST → Prop} (hMB : MB S M) (hm : m < M) (hax : S 1 m = nI ax) (hax3 : ax ≤ 3) (hb : b + ax ≤ 3) (hF : S 37 0 = nI F) (hF16 : F ≤ 16) (hs : S 44 0 = nI s) (hs15 : s ≤ 1500) (h0 : S 43 0 = 0)
    (hstop : ∀ S' : MST, MB S' M → ¬ S' 43 0 = 0 → Post S')
    (h : ∀ S' : MST, MB S' M → s < 1500 → F < 16 → S' 44 0 = nI (s + 1) → S' 43 0 = 0 → S' 37 0 = nI (F + 1) → (∀ f q : Nat, f < F → 38 ≤ q → q ≤ 41 → S' q f = S q f) → (∀ q : Nat, q ≤ 7 → S' q = S q) → CdK S S' M → FrI S' M F → Post S') : wp_X12_call_f S (nI m) (nI b) a4 Post := by
  obtain ⟨⟨hM0, hM8, hT, hLk⟩, hR, hC⟩ := id hMB
  have v8 : vp_in (nI m) 8 := vp_in_nI (by omega) (by omega)
  have hcm : (nI m).toNatClampNeg = m := nI_clamp (by omega)
  have go : F < 16 → s < 1500 → ∀ Sx : MST, MB Sx M → (∀ q : Nat, q ≤ 7 → Sx q = S q) → Sx 44 0 = nI (s + 1) → Sx 43 0 = 0 → Sx 37 0 = nI F → (∀ q : Nat, 38 ≤ q → q ≤ 41 → Sx q = S q) → CdK S Sx M → wj_X12_call_f_60 Sx (nI m) (nI b) Post := by
    intro hF15 hs14 Sx hX e7 e44 e43 e37 eF hcd
    obtain ⟨n, k, h3, hn60, hk, hk12, hcod, -, hnz⟩ := hX.2.2.1 m hm
    obtain ⟨l, n', h2', hl6, h3', hn1, hn60', h70, hlook⟩ := hX.1.2.2.2 m hm
    obtain rfl : n' = n := nI_inj (h3'.symm.trans h3) (by omega) (by omega)
    refine sp_call60_f (k := k) (by omega) (by rw [e7 1 (by omega)]; exact hax) hax3 hb hF15 e37 hk hk12 (fun q => (hnz q).1) (fun S' hsame hfr f37 f38 f39 f41 f40 => ?_)
    have same : ∀ q : Nat, q ≤ 7 ∨ q = 13 ∨ q = 15 ∨ q = 17 ∨ (22 ≤ q ∧ q ≤ 29) ∨ q = 43 ∨ q = 44 → S' q = Sx q := fun q hq => hsame q (by omega) (by omega) (by omega) (by omega) (by omega) (by omega)
    have hMB' : MB S' M := hX.same (fun q hq => same q (by omega)) (same 13 (by omega)) (same 15 (by omega)) (same 17 (by omega)) (fun q a c => same q (by omega))
    have hcd' : CdK Sx S' M := CdK.rf (same 17 (by omega)) (same 23 (by omega)) (same 25 (by omega))
    refine h S' hMB' hs14 hF15 (by rw [same 44 (by omega)]; exact e44) (by rw [same 43 (by omega)]; exact e43) f37 (fun f q hf a c => by rw [hfr f q (by omega) a c, eF q a c]) (fun q hq => by rw [same q (by omega)]; exact e7 q hq) (fun y ky j hy h17 hky hj => ?_) ⟨m, n', hm, f38, by rw [same 3 (by omega)]; exact h3, hn60, ?_⟩
    · obtain ⟨⟨k1, a1, a2, a3⟩, a4, a5⟩ := hcd y ky j hy h17 hky hj
      obtain ⟨⟨k2, b1, b2, b3⟩, b4, b5⟩ := hcd' y k1 j hy a3 a2 (by omega)
      exact ⟨⟨k2, by omega, b2, b3⟩, by rw [b4, a4], fun t x z => by rw [b5 t x z, a5 t x z]⟩
    · rcases f40 with w | ⟨w1, w2⟩
      · refine Or.inl ⟨w, 0, 0, by omega, f39, by omega, ?_, f41⟩
        rw [Nat.add_zero, same 7 (by omega)]; exact h70
      · obtain ⟨k1, -⟩ := hnz w1
        obtain ⟨N, N1, N6, eN, -⟩ := hcod (k - 1) (by omega)
        exact Or.inr ⟨k - 1, k, N, 0, by rw [same 17 (by omega)]; exact hk, by omega, hk12, w2, by rw [same 23 (by omega)]; exact eN, N6, f39, by omega⟩
  unfold wp_X12_call_f
  rw [hF]
  refine ⟨fun hne => ?_, fun he => ?_⟩
  · have hF15 : F < 16 := by
      rcases Nat.lt_or_ge F 16 with q | q
      · exact q
      · exact absurd (congrArg nI (show F = 16 by omega)) hne
    refine sp_stepOn hs hs15 (fun hlt => ⟨fun _ S23 e23 => ?_, fun q => absurd q (by decide)⟩) (fun _ => ⟨fun q => absurd rfl q, fun _ => hstop _ ?_ ?_⟩)
    · rw [hcm]
      have g : ∀ q : Nat, q ≠ 44 → q ≠ 45 → S23 q = S q := fun q a c => by rw [e23, ms_n _ _ c, ms_n _ _ a]
      have hX : MB S23 M := hMB.same (fun q hq => g q (by omega) (by omega)) (g 13 (by decide) (by decide)) (g 15 (by decide) (by decide)) (g 17 (by decide) (by decide)) (fun q a c => g q (by omega) (by omega))
      have e44 : S23 44 0 = nI (s + 1) := by rw [e23, ms_n _ _ (show 44 ≠ 45 by decide), ms_s]
      have e43 : S23 43 0 = 0 := by rw [g 43 (by decide) (by decide)]; exact h0
      have e37 : S23 37 0 = nI F := by rw [g 37 (by decide) (by decide)]; exact hF
      have g1 := go hF15 hlt S23 hX (fun q hq => g q (by omega) (by omega)) e44 e43 e37 (fun q a c => g q (by omega) (by omega)) (CdK.rf (g 17 (by decide) (by decide)) (g 23 (by decide) (by decide)) (g 25 (by decide) (by decide)))
      refine ⟨v8, fun _ => g1, fun hc0 => ⟨v8, fun _ => g1, fun _ => ?_⟩⟩
      obtain ⟨n, k, h3, hn60, hk, hk12, hcod, hz, -⟩ := hX.2.2.1 m hm
      obtain ⟨l, n', h2', hl6, h3', hn1, hn60', h70, hlook⟩ := hX.1.2.2.2 m hm
      have hk11 := hz hc0
      have := vN_le S23 m
      refine sp_makeCode (by omega) hM8 hl6 h3' hn1 hn60' hk (by omega) h70 hlook (fun S28 hMc => ?_)
      have hMc2 := hMc
      obtain ⟨m1, -⟩ := hMc2
      have hX2 : MB S28 M := ⟨hX.1.same (fun q hq => m1 q (by omega) (by omega) (by omega)), by
        unfold rowN
        rw [m1 13 (by omega) (by omega) (by omega)]
        exact hX.2.1, hX.2.2.make hM8 hm h3' hn60' hk (by omega) hc0 hMc⟩
      have c1 : CdK S S23 M := CdK.rf (g 17 (by decide) (by decide)) (g 23 (by decide) (by decide)) (g 25 (by decide) (by decide))
      have c2 : CdK S23 S28 M := CdK.make hM8 hk (by omega) hMc
      refine go hF15 hlt S28 hX2 (fun q hq => by rw [m1 q (by omega) (by omega) (by omega)]; exact g q (by omega) (by omega)) (by rw [m1 44 (by omega) (by omega) (by omega)]; exact e44) (by rw [m1 43 (by omega) (by omega) (by omega)]; exact e43) (by rw [m1 37 (by omega) (by omega) (by omega)]; exact e37) (fun q a c => by rw [m1 q (by omega) (by omega) (by omega)]; exact g q (by omega) (by omega)) (fun y ky j hy h17 hky hj => ?_)
      obtain ⟨⟨k1, a1, a2, a3⟩, a4, a5⟩ := c1 y ky j hy h17 hky hj
      obtain ⟨⟨k2, b1, b2, b3⟩, b4, b5⟩ := c2 y k1 j hy a3 a2 (by omega)
      exact ⟨⟨k2, by omega, b2, b3⟩, by rw [b4, a4], fun t x z => by rw [b5 t x z, a5 t x z]⟩
    · exact hMB.same (fun q hq => ms_n _ _ (by omega)) (ms_n _ _ (by decide)) (ms_n _ _ (by decide)) (ms_n _ _ (by decide)) (fun q a c => ms_n _ _ (by omega))
    · rw [ms_s]; decide
  · have hF1 : F = 16 := nI_inj (b := 16) he (by omega) (by omega)
    refine sp_traps hF (by omega) hF16 (fun S' hT' => hstop S' ?_ ?_)
    · exact hMB.same (fun q hq => hT'.2 q (by omega) (by omega)) (hT'.2 13 (by decide) (by decide)) (hT'.2 15 (by decide) (by decide)) (hT'.2 17 (by decide) (by decide)) (fun q a c => hT'.2 q (by omega) (by omega))
    · rw [hT'.1]; decide
