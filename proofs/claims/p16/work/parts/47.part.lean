/-! one turn of the run by PARTS -/
theorem sp_goesByPart {S : MST} {M f s : Nat} {Post : MST → Prop} (hR : RI S M (f + 1)) (h40 : ¬ S 40 f = -1) (hs : S 44 0 = nI s) (hs15 : s ≤ 1500)
    (hstop : ∀ S' : MST, MB S' M → ¬ S' 43 0 = 0 → Post S') (hgo : ∀ (S' : MST) (F' s' : Nat), RI S' M F' → S' 44 0 = nI s' → s' ≤ 1500 → tm S' F' s' < tm S (f + 1) s → Post S') : wp_X12_goesByPart S Post := by
  obtain ⟨hMB, hF1, hF16, h37, h43, hFr, hWt⟩ := id hR
  have hM8 := hMB.1.2.1
  rw [show f + 1 - 1 = f by omega] at hFr
  obtain ⟨m, n, hm, h38, hn, hn60, hcase⟩ := hFr
  obtain ⟨e40, _⟩ | ⟨j, k, N, at', e17, hj, hk, e40, e23, hN, h39, hat⟩ := hcase
  case inl => exact absurd e40 h40
  obtain ⟨nn, kk, c3, c60, c17, c12, hcod, -, -⟩ := hMB.2.2.1 m hm
  obtain rfl : kk = k := nI_inj (c17.symm.trans e17) (by omega) (by omega)
  obtain rfl : nn = n := nI_inj (c3.symm.trans hn) (by omega) (by omega)
  obtain ⟨N', N1, N6, eN, hpv, hst, hlast⟩ := hcod j hj
  obtain rfl : N' = N := nI_inj (eN.symm.trans e23) (by omega) (by omega)
  obtain ⟨o, i, ho, eo, ew, hi, hil, p0, p1, p2, p3, p4, p5, p6, p7, p8, p9, p10⟩ := hpv at' hat
  have ne40 : ¬ nI (12 * m + j) = -1 := nI_neg1 (by omega)
  have f15 : f ≤ 15 := by omega
  unfold wp_X12_goesByPart
  rw [h37, nI_m1 (n := f + 1) (by omega), show f + 1 - 1 = f by omega, nI_clamp (n := f) (by omega), e40, h39, ix640, nI_clamp (n := 640 * (12 * m + j) + at') (by omega), ew, nI_1]
  have v16 : vp_in (nI f) 16 := vp_in_nI (by omega) (by omega)
  have vP : vp_in (nI (640 * (12 * m + j) + at')) 61440 := vp_in_nI (by omega) (by omega)
  refine ⟨v16, v16, vP, vP, vP, vP, v16, fun S9 e9 => ⟨vP, ?_⟩⟩
  have g9 : ∀ q : Nat, q ≠ 39 → S9 q = S q := fun q a => by rw [e9, ms_n _ _ a]
  have g39 : S9 39 = upd (S 39) f (nI (at' + 1)) := by rw [e9, ms_s]
  have same : ∀ S' : MST, (∀ q : Nat, q ≠ 12 → q ≠ 14 → q ≠ 39 → q ≠ 42 → q ≠ 44 → S' q = S q) → MB S' M := fun S' g => hMB.same (fun q hq => g q (by omega) (by omega) (by omega) (by omega) (by omega)) (g 13 (by decide) (by decide) (by decide) (by decide) (by decide)) (g 15 (by decide) (by decide) (by decide) (by decide) (by decide)) (g 17 (by decide) (by decide) (by decide) (by decide) (by decide)) (fun q a b => g q (by omega) (by omega) (by omega) (by omega) (by omega))
  have fmS : fm S f = 701 - at' := by
    unfold fm
    rw [e40, if_neg ne40, h39, nI_clamp (n := at') (by omega)]
  have fm60 : 60 < fm S f := by rw [fmS]; omega
  -- the next PART is x
  have at_ : ∀ (S' : MST) (x s' : Nat), MB S' M → (∀ q : Nat, q ≠ 12 → q ≠ 13 → q ≠ 14 → q ≠ 39 → q ≠ 42 → q ≠ 44 → S' q = S q) → S' 39 f = nI x → (∀ t : Nat, t ≠ f → S' 39 t = S 39 t) → x < N' → S' 44 0 = nI s' → ((s' = s ∧ at' < x) ∨ (s' = s + 1 ∧ s < 1500)) → Post S' := by
    intro S' x s' hX g e39 t39 hx e44 hs'
    have g' : ∀ q : Nat, (q < 12 ∨ (14 < q ∧ q < 39) ∨ q = 40 ∨ q = 41 ∨ q = 43) → S' q = S q := fun q hq => g q (by omega) (by omega) (by omega) (by omega) (by omega) (by omega)
    have hF' : FrI S' M f := ⟨m, nn, hm, by rw [g' 38 (by omega)]; exact h38, by rw [g' 3 (by omega)]; exact hn, hn60, Or.inr ⟨j, kk, N', x, by rw [g' 17 (by omega)]; exact e17, hj, hk, by rw [g' 40 (by omega)]; exact e40, by rw [g' 23 (by omega)]; exact e23, hN, e39, hx⟩⟩
    have hfr : ∀ t q : Nat, t ≠ f → 38 ≤ q → q ≤ 41 → S' q t = S q t := by
      intro t q ht a b
      by_cases w : q = 39
      · rw [w]; exact t39 t ht
      · rw [g' q (by omega)]
    obtain ⟨r1, r2⟩ := hR.top (s := s) (s' := s') hX (g' 37 (by omega)) (g' 43 (by omega)) (g' 3 (by omega)) (g' 4 (by omega)) (g' 7 (by omega)) (CdK.rf (g' 17 (by omega)) (g' 23 (by omega)) (g' 25 (by omega))) hfr hF' (by
      rcases hs' with ⟨w1, w2⟩ | w
      · refine Or.inl ⟨w1, ?_⟩
        rw [fmS]
        unfold fm
        rw [g' 40 (by omega), e40, if_neg ne40, e39, nI_clamp (n := x) (by omega)]
        omega
      · exact Or.inr w)
    exact hgo S' (f + 1) s' r1 e44 (by omega) r2
  have s9 : MB S9 M := same S9 (fun q _ _ a _ _ => g9 q a)
  have s937 : S9 37 0 = nI (f + 1) := by rw [g9 37 (by decide)]; exact h37
  have s943 : S9 43 0 = 0 := by rw [g9 43 (by decide)]; exact h43
  have s944 : S9 44 0 = nI s := by rw [g9 44 (by decide)]; exact hs
  have eop : S9 25 (640 * (12 * m + j) + at') = nI o := by rw [g9 25 (by decide)]; exact eo
  have s940 : S9 40 f = nI (12 * m + j) := by rw [g9 40 (by decide)]; exact e40
  have nlast : ¬ o = 8 → ¬ o = 11 → at' + 1 < N' := by
    intro o8 o11
    rcases Nat.lt_or_ge (at' + 1) N' with q | q
    · exact q
    · have e : N' - 1 = at' := by omega
      rw [e, eo] at hlast
      rcases hlast with w | w
      · exact absurd (nI_inj w (by omega) (by omega)) o8
      · exact absurd (nI_inj w (by omega) (by omega)) o11
  have nxt : ¬ o = 8 → ¬ o = 11 → ∀ S' : MST, MB S' M → (∀ q : Nat, q ≠ 12 → q ≠ 13 → q ≠ 14 → q ≠ 42 → S' q = S9 q) → Post S' := by
    intro o8 o11 S' hX g
    have := nlast o8 o11
    exact at_ S' (at' + 1) s hX (fun q a b c d1 e1 _ => by rw [g q a b c e1]; exact g9 q d1) (by rw [g 39 (by decide) (by decide) (by decide) (by decide), g39, upd_s]) (fun t ht => by rw [g 39 (by decide) (by decide) (by decide) (by decide), g39, upd_n _ _ ht]) this (by rw [g 44 (by decide) (by decide) (by decide) (by decide)]; exact s944) (Or.inl ⟨rfl, by omega⟩)
  have e649 : ∀ (S3 : MST) (no : Int32), MB S3 M → S3 37 0 = nI (f + 1) → (no = 0 → Post S3) → wj_X12_goesByPart_649 S3 (nI i) no Post := by
    intro S3 no hX e37 hp
    unfold wj_X12_goesByPart_649
    refine ⟨hp, fun _ => sp_traps e37 (by omega) hF16 (fun S' hT' => hstop S' ?_ ?_)⟩
    · exact hX.same (fun q hq => hT'.2 q (by omega) (by omega)) (hT'.2 13 (by decide) (by decide)) (hT'.2 15 (by decide) (by decide)) (hT'.2 17 (by decide) (by decide)) (fun q a c => hT'.2 q (by omega) (by omega))
    · rw [hT'.1]; decide
  have put : ¬ o = 8 → ¬ o = 11 → ∀ (S' : MST) (k : Nat) (g : Nat → Int32), (k = 42 ∨ k = 12 ∨ k = 14) → S' = ms S9 k g → ∀ no : Int32, wj_X12_goesByPart_649 S' (nI i) no Post := by
    intro o8 o11 S' k g hk e' no
    have hX : MB S' M := same S' (fun q a b c d1 e1 => by rw [e', ms_n _ _ (by omega)]; exact g9 q c)
    exact e649 S' no hX (by rw [e', ms_n _ _ (by omega)]; exact s937) (fun _ => nxt o8 o11 S' hX (fun q a b c d1 => by rw [e', ms_n _ _ (by omega)]))
  have e649' : ¬ o = 8 → ¬ o = 11 → ∀ no : Int32, wj_X12_goesByPart_649 S9 (nI i) no Post := fun o8 o11 no => e649 S9 no s9 s937 (fun _ => nxt o8 o11 S9 s9 (fun _ _ _ _ _ => rfl))
  rw [eop, s940]
  generalize hD : S 26 (640 * (12 * m + j) + at') = D at p0 p3 p4 p7 p8 p9 p10 ⊢
  generalize hA : S 27 (640 * (12 * m + j) + at') = A at p1 p4 p5 p6 ⊢
  generalize hB : S 28 (640 * (12 * m + j) + at') = B at p2 ⊢
  have ek : ∀ k : Nat, k < 19 → nI o = nI k → o = k := fun k hk q => nI_inj q (by omega) (by omega)
  have hcf : (nI f).toNatClampNeg = f := nI_clamp (by omega)
  have hcP : (nI (640 * (12 * m + j) + at')).toNatClampNeg = 640 * (12 * m + j) + at' := nI_clamp (by omega)
  have cd9 : CdK S S9 M := CdK.rf (g9 17 (by decide)) (g9 23 (by decide)) (g9 25 (by decide))
  have fr9 : ∀ t q : Nat, t ≠ f → 38 ≤ q → q ≤ 41 → S9 q t = S q t := by
    intro t q ht a b
    by_cases w : q = 39
    · rw [w, g39, upd_n _ _ ht]
    · rw [g9 q w]
  have w9 : ∀ t : Nat, t < f → WtI S9 M t := fun t ht => (hWt t (by omega)).keep hM8 (fun q a b => fr9 t q (by omega) a b) (g9 3 (by decide)) (g9 4 (by decide)) (g9 7 (by decide)) cd9
  have two : 2 ≤ o → o ≤ 7 → wj_X12_goesByPart_573 S9 (nI (640 * (12 * m + j) + at')) (15 * nI f) D A B (nI i) Post := by
    intro o2 o7
    obtain ⟨x, hx, rfl⟩ := p0 (by omega)
    obtain ⟨y, hy, rfl⟩ := p1 (by omega)
    obtain ⟨z, hz, rfl⟩ := p2 (by omega)
    unfold wj_X12_goesByPart_573
    rw [hcP, eop, ix15, ix15, ix15]
    have vx : vp_in (nI (15 * f + x)) 240 := vp_in_nI (by omega) (by omega)
    have vy : vp_in (nI (15 * f + y)) 240 := vp_in_nI (by omega) (by omega)
    have vz : vp_in (nI (15 * f + z)) 240 := vp_in_nI (by omega) (by omega)
    have o8 : ¬ o = 8 := by omega
    have o11 : ¬ o = 11 := by omega
    refine ⟨vP, fun n5 => ⟨vP, vy, vz, sp_sumOf (fun q => ?_) (fun r => ⟨vx, fun S6 e6 => put o8 o11 S6 42 _ (Or.inl rfl) e6 0⟩)⟩, fun _ => ⟨vz, fun nz => ⟨vP, vy, vz, sp_sumOf (fun _ => nz) (fun r => ⟨vx, fun S6 e6 => put o8 o11 S6 42 _ (Or.inl rfl) e6 0⟩)⟩, fun _ => e649' o8 o11 1⟩⟩
    rw [nI_1] at q
    have : o + 1 = 6 := nI_inj (b := 6) q (by omega) (by omega)
    exact absurd (show nI o = 5 by rw [show o = 5 by omega]; rfl) n5
  have arm2 : ∀ k : Nat, 2 ≤ k → k ≤ 7 → nI o = nI k → wj_X12_goesByPart_573 S9 (nI (640 * (12 * m + j) + at')) (15 * nI f) D A B (nI i) Post := fun k a b c => by
    have := ek k (by omega) c
    exact two (by omega) (by omega)
  -- to the PARTS of another INSTRUCTION
  have jmp : ∀ x : Nat, x < nn → ¬ S 7 (60 * m + x) = -1 → ((nI i < nI x → (vp_in (nI f) 16 ∧ (vp_in ((60 * nI (12 * m + j)) + nI x) 5760 ∧ (vp_in (nI f) 16 ∧ (∀ S31 : MST, S31 = ms S9 39 (upd (S9 39) f (S9 24 ((60 * nI (12 * m + j)) + nI x : Int32).toNatClampNeg)) → (wj_X12_goesByPart_649 S31 (nI i) 0 Post)))))) ∧ ((¬ (nI i < nI x)) → (wp_X12_stepOn S9 (fun S32 r32 => (((r32 : Int32) = 0) → (wj_X12_goesByPart_649 S32 (nI i) 0 Post)) ∧ ((¬ ((r32 : Int32) = 0)) → (vp_in (nI f) 16 ∧ (vp_in ((60 * (S32 40 f)) + nI x) 5760 ∧ (vp_in (nI f) 16 ∧ (∀ S36 : MST, S36 = ms S32 39 (upd (S32 39) f (S32 24 ((60 * (S32 40 f)) + nI x : Int32).toNatClampNeg)) → (wj_X12_goesByPart_649 S36 (nI i) 0 Post)))))))))) := by
    intro x hx hlx
    obtain ⟨s0, hs0, e24, hfw⟩ := hst x hx hlx
    have v57 : vp_in (nI (60 * (12 * m + j) + x)) 5760 := vp_in_nI (by omega) (by omega)
    have e924 : S9 24 (60 * (12 * m + j) + x) = nI s0 := by rw [g9 24 (by decide)]; exact e24
    rw [ix60, nI_clamp (n := 60 * (12 * m + j) + x) (by omega), e924]
    refine ⟨fun lt => ⟨v16, v57, v16, fun S16 e16 => ?_⟩, fun _ => ?_⟩
    · have lt' : i < x := by
        rcases Nat.lt_or_ge i x with q | q
        · exact q
        · exact absurd lt (Int32.not_lt.mpr (nI_le q (by omega)))
      have hX : MB S16 M := same S16 (fun q a b c d1 e1 => by rw [e16, ms_n _ _ c]; exact g9 q c)
      refine e649 S16 0 hX (by rw [e16, ms_n _ _ (show 37 ≠ 39 by decide)]; exact s937) (fun _ => ?_)
      exact at_ S16 s0 s hX (fun q a b c d1 e1 _ => by rw [e16, ms_n _ _ d1]; exact g9 q d1) (by rw [e16, ms_s, upd_s]) (fun t ht => by rw [e16, ms_s, upd_n _ _ ht, g39, upd_n _ _ ht]) hs0 (by rw [e16, ms_n _ _ (show 44 ≠ 39 by decide)]; exact s944) (Or.inl ⟨rfl, hfw at' i hat (by omega) ew lt'⟩)
    · refine sp_stepOn s944 hs15 (fun hlt => ⟨fun q => absurd q (by decide), fun _ => ?_⟩) (fun _ => ⟨fun _ => e649 _ 0 ?_ ?_ (fun _ => hstop _ ?_ ?_), fun q => absurd rfl q⟩)
      · rw [ms_n _ _ (show 40 ≠ 44 by decide), ms_n _ _ (show 24 ≠ 44 by decide), s940, ix60, nI_clamp (n := 60 * (12 * m + j) + x) (by omega), e924]
        refine ⟨v16, v57, v16, fun S19 e19 => ?_⟩
        have g19 : ∀ q : Nat, q ≠ 39 → q ≠ 44 → S19 q = S9 q := fun q a b => by rw [e19, ms_n _ _ a, ms_n _ _ b]
        have hX : MB S19 M := same S19 (fun q a b c d1 e1 => by rw [g19 q c e1]; exact g9 q c)
        refine e649 S19 0 hX (by rw [g19 37 (by decide) (by decide)]; exact s937) (fun _ => ?_)
        exact at_ S19 s0 (s + 1) hX (fun q a b c d1 e1 h1 => by rw [g19 q d1 h1]; exact g9 q d1) (by rw [e19, ms_s, upd_s]) (fun t ht => by rw [e19, ms_s, upd_n _ _ ht, ms_n _ _ (show 39 ≠ 44 by decide), g39, upd_n _ _ ht]) hs0 (by rw [e19, ms_n _ _ (show 44 ≠ 39 by decide), ms_s]) (Or.inr ⟨rfl, hlt⟩)
      · exact s9.same (fun q hq => ms_n _ _ (by omega)) (ms_n _ _ (by decide)) (ms_n _ _ (by decide)) (ms_n _ _ (by decide)) (fun q a c => ms_n _ _ (by omega))
      · rw [ms_n _ _ (show 37 ≠ 43 by decide)]; exact s937
      · exact s9.same (fun q hq => ms_n _ _ (by omega)) (ms_n _ _ (by decide)) (ms_n _ _ (by decide)) (ms_n _ _ (by decide)) (fun q a c => ms_n _ _ (by omega))
      · rw [ms_s]; decide
  have fl : ∀ w : Nat, w < 11 → guards S9 (12 * m + j) w → wp_X12_fails S9 (nI f) (nI (640 * (12 * m + j) + at')) (nI w) (fun S72 => wj_X12_goesByPart_649 S72 (nI i) 0 Post) := by
    intro w hw hg
    refine sp_fails s9 (by omega) hm (by rw [g9 38 (by decide)]; exact h38) (by rw [g9 3 (by decide)]; exact hn) (by rw [g9 17 (by decide)]; exact e17) hk hj s940 (by rw [g9 23 (by decide)]; exact e23) hN hat hw hg (fun S' hX hFl hF' hfm => e649 S' 0 hX ?_ (fun _ => ?_))
    · rw [hFl.1 37 (by decide) (by decide) (by decide) (by decide) (by decide) (by decide) (by decide) (by decide)]; exact s937
    · obtain ⟨l1, l2⟩ := hFl
      have l : ∀ q : Nat, (q = 3 ∨ q = 4 ∨ q = 7 ∨ q = 17 ∨ q = 23 ∨ q = 25 ∨ q = 37 ∨ q = 38 ∨ q = 43 ∨ q = 44) → S' q = S q := fun q hq => by rw [l1 q (by omega) (by omega) (by omega) (by omega) (by omega) (by omega) (by omega) (by omega)]; exact g9 q (by omega)
      obtain ⟨r1, r2⟩ := hR.top (s := s) (s' := s) hX (l 37 (by omega)) (l 43 (by omega)) (l 3 (by omega)) (l 4 (by omega)) (l 7 (by omega)) (CdK.rf (l 17 (by omega)) (l 23 (by omega)) (l 25 (by omega))) (fun t q ht a b => by
        rw [← fr9 t q ht a b]
        rcases (show q = 38 ∨ q = 39 ∨ q = 40 ∨ q = 41 by omega) with w | w | w | w
        · rw [w, l1 38 (by decide) (by decide) (by decide) (by decide) (by decide) (by decide) (by decide) (by decide)]
        · rw [w]; exact (l2 t ht).1
        · rw [w]; exact (l2 t ht).2.1
        · rw [w]; exact (l2 t ht).2.2) hF' (Or.inl ⟨rfl, Nat.lt_of_le_of_lt hfm fm60⟩)
      exact hgo S' (f + 1) s r1 (by rw [l 44 (by omega)]; exact hs) hs15 r2
  refine ⟨fun c => ?_, fun c => ?_, fun c => ?_, arm2 2 (by omega) (by omega), arm2 3 (by omega) (by omega), arm2 4 (by omega) (by omega), arm2 5 (by omega) (by omega), arm2 6 (by omega) (by omega), arm2 7 (by omega) (by omega), fun c => ?_, fun c => ?_, fun c => ?_, fun c => ?_, fun c => ?_, fun c => ?_, fun c => ?_, fun c => ?_, fun c => ?_, fun c => ?_, fun c => ?_⟩
  · rw [nI_toInt (by omega)] at c
    exact absurd c (by omega)
  · obtain rfl := ek 0 (by omega) c
    obtain ⟨x, hx, rfl⟩ := p0 (by omega)
    rw [ix15]
    exact ⟨vp_in_nI (by omega) (by omega), fun S' e' => put (by decide) (by decide) S' 42 _ (Or.inl rfl) e' 0⟩
  · obtain rfl := ek 1 (by omega) c
    obtain ⟨x, hx, rfl⟩ := p0 (by omega)
    obtain ⟨y, hy, rfl⟩ := p1 (by omega)
    rw [ix15, ix15]
    exact ⟨vp_in_nI (by omega) (by omega), vp_in_nI (by omega) (by omega), fun S' e' => put (by decide) (by decide) S' 42 _ (Or.inl rfl) e' 0⟩
  · obtain rfl := ek 8 (by omega) c
    obtain ⟨x, hx, rfl, hlx⟩ := p3 (by omega)
    exact jmp x hx hlx
  · obtain rfl := ek 9 (by omega) c
    obtain ⟨x, hx, rfl, hlx⟩ := p3 (by omega)
    obtain ⟨y, hy, rfl⟩ := p1 (by omega)
    rw [ix15]
    exact ⟨vp_in_nI (by omega) (by omega), fun _ => e649' (by decide) (by decide) 0, fun _ => jmp x hx hlx⟩
  · obtain rfl := ek 10 (by omega) c
    obtain ⟨y, x, ax, hy, rfl, hy1, hax3, rfl, hxa, hx, hi1, hl1⟩ := p4 rfl
    refine ⟨v16, fun S26 e26 => ?_⟩
    rw [ix15]
    have g26 : ∀ q : Nat, q ≠ 39 → S26 q = S q := fun q a => by rw [e26, ms_n _ _ a]; exact g9 q a
    have t39 : S26 39 = upd (S9 39) f (nI at') := by rw [e26, ms_s]
    have ax1 : S26 1 y = nI ax := by rw [g26 1 (by decide)]; exact hy1
    have hX : MB S26 M := same S26 (fun q _ _ a _ _ => g26 q a)
    have fr26 : ∀ t q : Nat, t ≠ f → 38 ≤ q → q ≤ 41 → S26 q t = S q t := by
      intro t q ht a b
      by_cases w : q = 39
      · rw [w, t39, upd_n _ _ ht, g39, upd_n _ _ ht]
      · rw [g26 q w]
    have cd26 : CdK S S26 M := CdK.rf (g26 17 (by decide)) (g26 23 (by decide)) (g26 25 (by decide))
    have fm26 : fm S26 f = fm S f := by
      unfold fm
      rw [g26 40 (by decide), t39, upd_s, h39]
    have w26 : ∀ t : Nat, t < f + 1 → WtI S26 M t := by
      intro t ht
      by_cases q : t = f
      · subst q
        refine ⟨⟨m, nn, hm, by rw [g26 38 (by decide)]; exact h38, by rw [g26 3 (by decide)]; exact hn, hn60, Or.inr ⟨j, kk, N', at', by rw [g26 17 (by decide)]; exact e17, hj, hk, by rw [g26 40 (by decide)]; exact e40, by rw [g26 23 (by decide)]; exact e23, hN, by rw [t39, upd_s], hat⟩⟩, fun m2 at2 hm2 hat2 q38 q39 => ?_⟩
        rw [t39, upd_s] at q39
        have e2 : at' = at2 := nI_inj q39 (by omega) (by omega)
        subst e2
        refine ⟨fun q40 => ?_, fun c2 hc2 q40 => ?_⟩
        · rw [g26 40 (by decide), e40] at q40
          exact absurd q40 ne40
        · rw [g26 40 (by decide), e40] at q40
          have : 12 * m + j = c2 := nI_inj q40 (by omega) (by omega)
          rw [← this, g26 25 (by decide)]
          exact eo
      · exact (hWt t (by omega)).keep hM8 (fun q a b => fr26 t q (by omega) a b) (g26 3 (by decide)) (g26 4 (by decide)) (g26 7 (by decide)) cd26
    refine sp_call_r (s := s) (F := f + 1) hX hy ax1 hax3 (by omega) (by rw [g26 37 (by decide)]; exact h37) hF16 (by rw [g26 44 (by decide)]; exact hs) hs15 (by rw [g26 43 (by decide)]; exact h43) (fun S' hX' hne => ⟨fun _ => hstop S' hX' hne, fun q => absurd rfl q⟩) (fun S' hX' hlt hF15 e44 e43 e37 hfr e7' hcd hF' => ⟨fun _ => ?_, fun q => absurd rfl q⟩)
    refine hgo S' (f + 1 + 1) (s + 1) ⟨hX', by omega, by omega, e37, e43, by rw [show f + 1 + 1 - 1 = f + 1 by omega]; exact hF', fun t ht => (w26 t (by omega)).keep hM8 (fun q a b => hfr t q (by omega) a b) (e7' 3 (by omega)) (e7' 4 (by omega)) (e7' 7 (by omega)) hcd⟩ e44 (by omega) ?_
    unfold tm
    have e1 : sN (fm S') (f + 1) = sN (fm S) (f + 1) := sN_eq (f + 1) (fun t ht => by
      rw [fm_keep (fun q a b => hfr t q ht a b)]
      by_cases q : t = f
      · rw [q]; exact fm26
      · exact fm_keep (fun q a b => fr26 t q (by omega) a b))
    have := fm_le S' (f + 1)
    have e2 : sN (fm S') (f + 1 + 1) = sN (fm S') (f + 1) + fm S' (f + 1) := rfl
    rw [e2, e1]
    omega
  · obtain rfl := ek 11 (by omega) c
    obtain ⟨y, hy, rfl⟩ := p1 (by omega)
    rw [ix15]
    refine ⟨vp_in_nI (by omega) (by omega), sp_returns s9 s937 (by omega) (fun hf1 => w9 (f - 1) (by omega)) (fun S' hX' hne => ⟨fun _ => hstop S' hX' hne, fun q => absurd rfl q⟩) (fun S' hf1 hRt hF' hfm => ⟨fun _ => ?_, fun q => absurd rfl q⟩)⟩
    obtain ⟨r1, r2, r3⟩ := hRt
    have hX' : MB S' M := s9.same (fun q hq => r1 q (by omega) (by omega) (by omega) (by omega)) (r1 13 (by decide) (by decide) (by decide) (by decide)) (r1 15 (by decide) (by decide) (by decide) (by decide)) (r1 17 (by decide) (by decide) (by decide) (by decide)) (fun q a b => r1 q (by omega) (by omega) (by omega) (by omega))
    have fr' : ∀ t q : Nat, t ≠ f - 1 → 38 ≤ q → q ≤ 41 → S' q t = S9 q t := by
      intro t q ht a b
      rcases (show q = 38 ∨ q = 39 ∨ q = 40 ∨ q = 41 by omega) with w | w | w | w
      · rw [w, r1 38 (by decide) (by decide) (by decide) (by decide)]
      · rw [w]; exact (r2 t ht).1
      · rw [w, r1 40 (by decide) (by decide) (by decide) (by decide)]
      · rw [w]; exact (r2 t ht).2
    have cd' : CdK S9 S' M := CdK.rf (r1 17 (by decide) (by decide) (by decide) (by decide)) (r1 23 (by decide) (by decide) (by decide) (by decide)) (r1 25 (by decide) (by decide) (by decide) (by decide))
    refine hgo S' f s ⟨hX', hf1, by omega, r3, by rw [r1 43 (by decide) (by decide) (by decide) (by decide)]; exact s943, hF', fun t ht => (w9 t (by omega)).keep hM8 (fun q a b => fr' t q (by omega) a b) (r1 3 (by decide) (by decide) (by decide) (by decide)) (r1 4 (by decide) (by decide) (by decide) (by decide)) (r1 7 (by decide) (by decide) (by decide) (by decide)) cd'⟩ (by rw [r1 44 (by decide) (by decide) (by decide) (by decide)]; exact s944) hs15 ?_
    unfold tm
    have e1 : sN (fm S') f < sN (fm S9) f := sN_lt f (fun t ht => by
      by_cases q : t = f - 1
      · rw [q]; exact Nat.le_of_lt hfm
      · rw [fm_keep (fun q a b => fr' t q (by omega) a b)]; exact Nat.le_refl _) (f - 1) (by omega) hfm
    have e2 : sN (fm S9) f = sN (fm S) f := sN_eq f (fun t ht => fm_keep (fun q a b => fr9 t q (by omega) a b))
    have e3 : sN (fm S) (f + 1) = sN (fm S) f + fm S f := rfl
    omega
  · obtain rfl := ek 12 (by omega) c
    obtain ⟨x, hx, rfl⟩ := p0 (by omega)
    obtain ⟨y, hy, rfl⟩ := p5 rfl
    rw [ix15]
    exact ⟨vp_in_nI (by omega) (by omega), vp_in_nI (by omega) (by omega), fun S' e' => put (by decide) (by decide) S' 42 _ (Or.inl rfl) e' 0⟩
  · obtain rfl := ek 13 (by omega) c
    obtain ⟨y, hy, rfl⟩ := p1 (by omega)
    obtain ⟨x, hx, rfl⟩ := p7 rfl
    rw [ix15]
    exact ⟨vp_in_nI (by omega) (by omega), vp_in_nI (by omega) (by omega), fun S' e' => put (by decide) (by decide) S' 12 _ (Or.inr (Or.inl rfl)) e' 0⟩
  · obtain rfl := ek 14 (by omega) c
    obtain ⟨y, hy, rfl⟩ := p1 (by omega)
    obtain ⟨x, hx, rfl⟩ := p8 (by omega)
    rw [ix15]
    refine ⟨vp_in_nI (by omega) (by omega), sp_makesRow (by omega) (e649' (by decide) (by decide) 4) (e649' (by decide) (by decide) 5) (fun n' S' hn' hRw => ?_)⟩
    have g' : ∀ q : Nat, q ≠ 13 → q ≠ 14 → S' q = S9 q := hRw.2
    have hX : MB S' M := by
      refine ⟨s9.1.same (fun q hq => g' q (by omega) (by omega)), fun r hr => ?_, s9.2.2.same (g' 1 (by decide) (by decide)) (g' 3 (by decide) (by decide)) (g' 7 (by decide) (by decide)) (g' 15 (by decide) (by decide)) (g' 17 (by decide) (by decide)) (g' 22 (by decide) (by decide)) (fun q a b => g' q (by omega) (by omega))⟩
      rw [hRw.1]
      by_cases q : r = x
      · rw [q, upd_s]; exact Or.inr ⟨n', hn', rfl⟩
      · rw [upd_n _ _ q]; exact s9.2.1 r hr
    exact e649 S' 0 hX (by rw [g' 37 (by decide) (by decide)]; exact s937) (fun _ => nxt (by decide) (by decide) S' hX (fun q a b c d1 => g' q b c))
  · obtain rfl := ek 15 (by omega) c
    obtain ⟨x, hx, rfl⟩ := p0 (by omega)
    obtain ⟨z, hz, rfl⟩ := p2 (by omega)
    obtain ⟨y, hy, rfl⟩ := p6 rfl
    rw [ix15, ix15]
    have vz : vp_in (nI (15 * f + z)) 240 := vp_in_nI (by omega) (by omega)
    refine ⟨vz, sp_refuses (by omega) s9.2.1 ⟨fun _ => e649' (by decide) (by decide) 2, fun q => absurd q (by decide)⟩ ⟨fun _ => e649' (by decide) (by decide) 3, fun q => absurd q (by decide)⟩ (fun i2 n2 hi2 hn2 _ ev => ⟨fun q => absurd rfl q, fun _ => ⟨vz, ?_⟩⟩)⟩
    rw [ev, ix20]
    exact ⟨vp_in_nI (by omega) (by omega), vp_in_nI (by omega) (by omega), fun S' e' => put (by decide) (by decide) S' 42 _ (Or.inl rfl) e' 0⟩
  · obtain rfl := ek 16 (by omega) c
    obtain ⟨y, hy, rfl⟩ := p1 (by omega)
    obtain ⟨z, hz, rfl⟩ := p2 (by omega)
    obtain ⟨x, hx, rfl⟩ := p8 (by omega)
    rw [ix15, ix15]
    have vy : vp_in (nI (15 * f + y)) 240 := vp_in_nI (by omega) (by omega)
    refine ⟨vy, sp_refuses (by omega) s9.2.1 ⟨fun _ => e649' (by decide) (by decide) 2, fun q => absurd q (by decide)⟩ ⟨fun _ => e649' (by decide) (by decide) 3, fun q => absurd q (by decide)⟩ (fun i2 n2 hi2 hn2 _ ev => ⟨fun q => absurd rfl q, fun _ => ⟨vy, vp_in_nI (by omega) (by omega), ?_⟩⟩)⟩
    rw [ev, ix20]
    exact ⟨vp_in_nI (by omega) (by omega), fun S' e' => put (by decide) (by decide) S' 14 _ (Or.inr (Or.inr rfl)) e' 0⟩
  · obtain rfl := ek 17 (by omega) c
    obtain ⟨x, hx, rfl⟩ := p9 rfl
    rw [ix15]
    refine ⟨vp_in_nI (by omega) (by omega), fun _ => e649' (by decide) (by decide) 0, fun _ => fl x (by omega) ⟨N', at', hN, by rw [g9 23 (by decide)]; exact e23, hat, Or.inl ⟨hx, by rw [g9 25 (by decide)]; exact eo, by rw [g9 26 (by decide)]; exact hD⟩⟩⟩
  · obtain rfl := ek 18 (by omega) c
    obtain ⟨x, hx, rfl⟩ := p10 rfl
    rw [show (3 : Int32) + nI x = nI (3 + x) from nI_add 3 x]
    exact ⟨vp_in_nI (by omega) (by omega), fun _ => e649' (by decide) (by decide) 0, fun _ => fl (3 + x) (by omega) ⟨N', at', hN, by rw [g9 23 (by decide)]; exact e23, hat, Or.inr ⟨x, hx, rfl, by rw [g9 25 (by decide)]; exact eo, by rw [g9 26 (by decide)]; exact hD⟩⟩⟩
