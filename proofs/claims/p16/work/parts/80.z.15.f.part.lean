/-! BOTH: one step by PARTS -/
/-- the reference behind, at a head's GUARD -/
theorem js_catch {S : CST} {Sm : MST} {f s m j c N h0 n p t : Nat} {P : Nat → T5} {as : Nat → Bool} {val : Nat → Int32} {st : Nat → Nat} (hM8 : cnP S ≤ 8) (hR : RnR S Sm (f + 1) s) (hf : f < 16) (hF : FrC S Sm f m) (h37 : Sm 37 0 = nI (f + 1)) (h43 : Sm 43 0 = 0) (h40 : Sm 40 f = nI (12 * m + j)) (hj : j < 12) (h221 : cv S 221 f 0 = nI c) (hc : c < cnC S) (hx : CdX S Sm m j c N h0 n P as val st) (h39 : Sm 39 f = nI p) (hp : p < N) (h222 : cv S 222 f 0 = nI h0) (hph : p < h0) (ht : t < 11) (hat : as t = true) (eP : P p = gdT val 0 t) (hall : ∀ u : Nat, u < 11 → as u = true → OkT Sm f val u) : wp_X12_goesByPart Sm (fun Sm1 => OutR S Sm1) := by
  obtain ⟨x1, x2, x3, x4, x5, x6, ⟨c1, c2, c3, c4, c5, c6⟩, m1, m2, m3⟩ := id hx
  have hm := hF.1
  have hcb : h0 ≤ N := x5.1
  have out : OutR S (ms Sm 39 (upd (Sm 39) f (nI (p + 1)))) := by
    have em : Fm [12, 13, 14, 39, 41, 42, 44] Sm (ms Sm 39 (upd (Sm 39) f (nI (p + 1)))) := Fm.put rfl rfl Fm.rf
    refine Or.inr ⟨f + 1, s, by omega, by rw [em 37 rfl]; exact h37, by rw [em 43 rfl]; exact h43, hR.top hM8 Ex.rf (fun _ _ => rfl) (fun _ _ => rfl) em (fun g hg => ⟨by rw [ms_s, upd_n _ _ hg], by rw [ms_n _ _ (by decide)]⟩) (fun g t _ _ => by rw [ms_n _ _ (by decide)]) (hR.2.1.same rfl rfl rfl (ms_n _ _ (by decide)) (ms_n _ _ (by decide)) (ms_n _ _ (by decide))) (fun t ht => by rw [ms_n _ _ (by decide)]; exact hF.2.2.2 t ht) (fun m' hF' _ => ?_) hR.2.2.2.2.2.2.1 (by rw [ms_n _ _ (by decide)]; exact hR.2.2.2.2.2.2.2.1) hR.2.2.2.2.2.2.2.2.1⟩
    have h2 := hF'.1
    obtain rfl : m' = m := nI_inj (hF'.2.1.symm.trans hF.2.1) (by omega) (by omega)
    exact Or.inr ⟨j, c, N, h0, n, P, as, val, st, p + 1, h0, by rw [ms_n _ _ (by decide)]; exact h40, hj, h221, hc, hx.ex (Ex.rf (L := [])) rfl em rfl, by rw [ms_s, upd_s], by omega, h222, Or.inr ⟨by omega, rfl, fun u hu ha => (hall u hu ha).keep (fun _ => by rw [ms_n _ _ (by decide)]) (fun _ => by rw [ms_n _ _ (by decide)])⟩⟩
  obtain ⟨q0, q1, q2, q3, q4⟩ := m2 p hp
  have ok := hall t ht hat
  unfold OkT at ok
  by_cases w : t < 3
  · have e : P p = (nI 17, nI t, val t, 0, 0) := eP.trans (if_pos w)
    rw [e] at q0 q1 q2 q3 q4
    rw [if_pos w] at ok
    have ev : (ms Sm 39 (upd (Sm 39) f (nI (p + 1)))) 42 (nI (15 * f) + nI t : Int32).toNatClampNeg = val t := by rw [rgc hf (by omega), ms_n _ _ (by decide)]; exact ok
    exact mt_part h37 hf h40 (by omega) h39 (by omega) q0 q1 q2 q3 q4 (gp_17 ⟨rgv hf (by omega), fun _ => w649 out, fun c => absurd ev c⟩)
  · have e : P p = (nI 18, nI (t - 3), val t, 0, 0) := eP.trans (if_neg w)
    rw [e] at q0 q1 q2 q3 q4
    rw [if_neg w] at ok
    have ev : (ms Sm 39 (upd (Sm 39) f (nI (p + 1)))) 12 (nI (t - 3) : Int32).toNatClampNeg = val t := by rw [nI_clamp (by omega), ms_n _ _ (by decide)]; exact ok
    exact mt_part h37 hf h40 (by omega) h39 (by omega) q0 q1 q2 q3 q4 (gp_18 ⟨vp_in_nI (by omega) (by omega), fun _ => w649 out, fun c => absurd ev c⟩)
theorem zs_part {S : CST} {Sm : MST} {M f s : Nat} (hM : cnP S = M) (hC : cnC S ≤ 2 ^ 31) (hJ : J S) (hRI : RI Sm M (f + 1)) (hR : RnR S Sm (f + 1) s) (h40n : ¬ Sm 40 f = -1) : ResR S (wp_X12_goesByPart Sm) := by
  obtain ⟨hMB, hF1, hF16, h37, h43, hFr, hWt⟩ := id hRI
  have hM8 := hMB.1.2.1
  rw [show f + 1 - 1 = f by omega] at hFr
  obtain ⟨m, hF, hMo⟩ := hR.2.2.2.2.2.2.2.2.2.1
  rw [show f + 1 - 1 = f by omega] at hF hMo
  rcases hMo with ⟨w, _⟩ | ⟨j, c, N, h0, n, P, as, val, st, p, q, h40, hj, h221, hc, hx, h39, hpN, h222, hcase⟩
  · exact absurd w h40n
  have hm := hF.1
  have hf : f < 16 := by omega
  obtain ⟨x1, x2, x3, x4, x5, x6, hxC, m1, m2, m3⟩ := id hx
  obtain ⟨k, hk, hjk, hk12⟩ := hRI.codes hM8 f m j (by omega) (by omega) hj hF.2.2.1 h40
  have hp : p < N := by
    obtain ⟨m', n', w1, w2, w3, w4, w5⟩ := hFr
    obtain rfl : m' = m := nI_inj (w2.symm.trans hF.2.2.1) (by omega) (by omega)
    rcases w5 with ⟨w, _⟩ | ⟨j', k', N', at', a1, a2, a3, a4, a5, a6, a7, a8⟩
    · exact absurd w h40n
    · have e1 : 12 * m' + j' = 12 * m' + j := nI_inj (a4.symm.trans h40) (by omega) (by omega)
      rw [e1] at a5
      have e2 : N' = N := nI_inj (a5.symm.trans m1) (by omega) (by omega)
      have e3 : at' = p := nI_inj (a7.symm.trans h39) (by omega) (by omega)
      omega
  obtain ⟨nn, kk, b3, b60, b17, b12, hcod, -, -⟩ := hMB.2.2.1 m (by omega)
  obtain rfl : kk = k := nI_inj (b17.symm.trans hk) (by omega) (by omega)
  obtain rfl : nn = n := nI_inj (b3.symm.trans x1) (by omega) (by omega)
  obtain ⟨N', N1, N6, eN, hpv, hst, hlast⟩ := hcod j hjk
  obtain rfl : N' = N := nI_inj (eN.symm.trans m1) (by omega) (by omega)
  have pvP : ∀ r : Nat, r < N' → pv Sm M m nn (P r).1 (P r).2.1 (P r).2.2.1 (P r).2.2.2.1 (P r).2.2.2.2 := fun r hr => by
    obtain ⟨q0, q1, q2, q3, q4⟩ := m2 r hr
    rw [← q0, ← q1, ← q2, ← q3, ← q4]
    exact hpv r hr
  have main : cv S 222 f 0 = nI p → (∀ u : Nat, u < 11 → as u = true → OkT Sm f val u ∨ PeT val N' P p u) → ResR S (wp_X12_goesByPart Sm) := fun h222 hok => by
    have h : StP S Sm f s m j c N' h0 nn p P as val st := ⟨by omega, hC, hR, hf, hF, h37, h40, hj, h221, hc, hx, h39, hp, h222, h43, hok⟩
    obtain ⟨o, i, ho, eo, ew, hi, hil, p0, p1, p2, p3, p4, p5, p6, p7, p8, p9, p10⟩ := pvP p hp
    have gd : ∀ (t w : Nat) (i0 : Int32), t < 11 → P p = gdT val i0 t → i0 = nI w → GuS h0 p t w P → (h0 ≤ p → w + 1 < nn) → ResR S (wp_X12_goesByPart Sm) := fun t w i0 ht eP e0 hsh hw => by
      rw [e0] at eP
      rcases Nat.lt_or_ge t 3 with w3 | w3
      · exact zs_17 h hM hMB w3 eP hsh hw hk hjk hk12
      · exact zs_18 h hM hMB w3 ht eP hsh hw hk hjk hk12
    rcases Nat.lt_or_ge p h0 with w | w
    · obtain ⟨t, ht, hat, eP⟩ := x5.2.1 p w
      exact gd t 0 0 ht eP rfl (Or.inl w) (fun q => absurd q (by omega))
    rcases x5.2.2.2 p w hp with hsm | ⟨e10, _, _⟩ | ⟨t, r0, ht3, ht, hat, hr0, hr0p, eP, e10, hbt⟩
    · obtain ⟨s1, s2, s3, s4, s5⟩ := hsm
      have ek : ∀ k : Nat, o = k → (P p).1 = nI k := fun k q => by rw [← q]; exact eo
      rcases (show o = 0 ∨ o = 1 ∨ o = 2 ∨ o = 3 ∨ o = 4 ∨ o = 5 ∨ o = 6 ∨ o = 7 ∨ o = 8 ∨ o = 9 ∨ o = 10 ∨ o = 11 ∨ o = 12 ∨ o = 13 ∨ o = 14 ∨ o = 15 ∨ o = 16 ∨ o = 17 ∨ o = 18 by omega) with rfl | rfl | rfl | rfl | rfl | rfl | rfl | rfl | rfl | rfl | rfl | rfl | rfl | rfl | rfl | rfl | rfl | rfl | rfl
      · obtain ⟨x, hx15, ex, hxa⟩ := s4 (by rw [eo]; decide)
        exact zs_0 h (Prod.ext eo (Prod.ext ex rfl)) hx15 hxa
      · obtain ⟨x, hx15, ex, hxa⟩ := s4 (by rw [eo]; decide)
        obtain ⟨y, hy, ey⟩ := p1 (by omega)
        exact zs_1 h (Prod.ext eo (Prod.ext ex (Prod.ext ey rfl))) hx15 hxa hy
      · obtain ⟨x, hx15, ex, hxa⟩ := s4 (by rw [eo]; decide)
        obtain ⟨y, hy, ey⟩ := p1 (by omega)
        obtain ⟨z, hz, ez⟩ := p2 (by omega)
        exact zs_2 h (Prod.ext eo (Prod.ext ex (Prod.ext ey (Prod.ext ez rfl)))) hx15 hxa hy hz
      · obtain ⟨x, hx15, ex, hxa⟩ := s4 (by rw [eo]; decide)
        obtain ⟨y, hy, ey⟩ := p1 (by omega)
        obtain ⟨z, hz, ez⟩ := p2 (by omega)
        exact zs_3 h (Prod.ext eo (Prod.ext ex (Prod.ext ey (Prod.ext ez rfl)))) hx15 hxa hy hz
      · obtain ⟨x, hx15, ex, hxa⟩ := s4 (by rw [eo]; decide)
        obtain ⟨y, hy, ey⟩ := p1 (by omega)
        obtain ⟨z, hz, ez⟩ := p2 (by omega)
        exact zs_4 h (Prod.ext eo (Prod.ext ex (Prod.ext ey (Prod.ext ez rfl)))) hx15 hxa hy hz
      · obtain ⟨x, hx15, ex, hxa⟩ := s4 (by rw [eo]; decide)
        obtain ⟨y, hy, ey⟩ := p1 (by omega)
        obtain ⟨z, hz, ez⟩ := p2 (by omega)
        exact zs_5 h (Prod.ext eo (Prod.ext ex (Prod.ext ey (Prod.ext ez rfl)))) hx15 hxa hy hz
      · obtain ⟨x, hx15, ex, hxa⟩ := s4 (by rw [eo]; decide)
        obtain ⟨y, hy, ey⟩ := p1 (by omega)
        obtain ⟨z, hz, ez⟩ := p2 (by omega)
        exact zs_6 h (Prod.ext eo (Prod.ext ex (Prod.ext ey (Prod.ext ez rfl)))) hx15 hxa hy hz
      · obtain ⟨x, hx15, ex, hxa⟩ := s4 (by rw [eo]; decide)
        obtain ⟨y, hy, ey⟩ := p1 (by omega)
        obtain ⟨z, hz, ez⟩ := p2 (by omega)
        exact zs_7 h (Prod.ext eo (Prod.ext ex (Prod.ext ey (Prod.ext ez rfl)))) hx15 hxa hy hz
      · obtain ⟨x, hxn, ex, hlv⟩ := p3 (by omega)
        obtain ⟨s0, hs0, e24, _⟩ := hst x hxn hlv
        exact zs_8 h (Prod.ext eo (Prod.ext ex (Prod.ext rfl (Prod.ext rfl ew)))) hxn hlv (by omega) hs0 e24
      · obtain ⟨x, hxn, ex, hlv⟩ := p3 (by omega)
        obtain ⟨y, hy, ey⟩ := p1 (by omega)
        obtain ⟨s0, hs0, e24, _⟩ := hst x hxn hlv
        exact zs_9 h (Prod.ext eo (Prod.ext ex (Prod.ext ey (Prod.ext rfl ew)))) hy hxn hlv (by omega) hs0 e24
      · exact absurd eo s1
      · obtain ⟨y, hy, ey⟩ := p1 (by omega)
        exact zs_11 h (Prod.ext eo (Prod.ext rfl (Prod.ext ey rfl))) hy
      · obtain ⟨x, hx15, ex, hxa⟩ := s4 (by rw [eo]; decide)
        obtain ⟨y, hy, ey⟩ := p5 rfl
        exact zs_12 h (Prod.ext eo (Prod.ext ex (Prod.ext ey rfl))) hx15 hxa hy
      · obtain ⟨y, hy, ey⟩ := p1 (by omega)
        obtain ⟨x, hx8, ex, hxa⟩ := s5 eo
        exact zs_13 h (Prod.ext eo (Prod.ext ex (Prod.ext ey rfl))) hx8 hxa hy
      · obtain ⟨y, hy, ey⟩ := p1 (by omega)
        obtain ⟨x, hx4, ex⟩ := p8 (by omega)
        exact zs_14 h (Prod.ext eo (Prod.ext ex (Prod.ext ey rfl))) hx4 hy
      · obtain ⟨x, hx15, ex, hxa⟩ := s4 (by rw [eo]; decide)
        obtain ⟨z, hz, ez⟩ := p2 (by omega)
        obtain ⟨y, hy, ey⟩ := p6 rfl
        exact zs_15 h (Prod.ext eo (Prod.ext ex (Prod.ext ey (Prod.ext ez rfl)))) hMB.2.1 hx15 hxa hy hz
      · obtain ⟨y, hy, ey⟩ := p1 (by omega)
        obtain ⟨z, hz, ez⟩ := p2 (by omega)
        obtain ⟨x, hx4, ex⟩ := p8 (by omega)
        exact zs_16 h (Prod.ext eo (Prod.ext ex (Prod.ext ey (Prod.ext ez rfl)))) hMB.2.1 hx4 hy hz
      · exact absurd eo s2
      · exact absurd eo s3
    · obtain rfl : o = 10 := nI_inj (b := 10) (eo.symm.trans e10) (by omega) (by omega)
      obtain ⟨y, x, ax, hy, ey, hy1, hax3, ex, hxa, hx15, _, _⟩ := p4 rfl
      exact zs_10 h hM hJ hRI (Prod.ext eo (Prod.ext ex (Prod.ext ey rfl))) hy hy1 hax3 hxa hx15
    · obtain ⟨o2, i2, ho2, eo2, ew2, hi2, hil2, _, _, _, _, r4, _⟩ := pvP r0 (by omega)
      obtain rfl : o2 = 10 := nI_inj (b := 10) (eo2.symm.trans e10) (by omega) (by omega)
      obtain ⟨_, _, _, _, _, _, _, _, _, _, hi1, _⟩ := r4 rfl
      exact gd t i2 _ ht eP ew2 (Or.inr ⟨w, (hbt p hr0p (Nat.le_refl _)).1, r0, hr0, hr0p, e10, ew2, hbt⟩) (fun _ => hi1)
  rcases hcase with ⟨rfl, hok⟩ | ⟨hpq, rfl, hall⟩
  · exact main h222 hok
  · rcases Nat.lt_or_ge p q with w | w
    · obtain ⟨t, ht, hat, eP⟩ := x5.2.1 p w
      exact Or.inl (js_catch (by omega) hR hf hF h37 h43 h40 hj h221 hc hx h39 hp h222 w ht hat eP hall)
    · obtain rfl : q = p := by omega
      exact main h222 (fun u hu ha => Or.inl (hall u hu ha))
