/-! BOTH: one step by INSTRUCTIONS -/
theorem zs_ins {S : CST} {Sm : MST} {M f s : Nat} (hM : cnP S = M) (hC : cnC S ≤ 2 ^ 31) (hJ : J S) (hRI : RI Sm M (f + 1)) (hR : RnR S Sm (f + 1) s) (h40 : Sm 40 f = -1) : ResR S (wp_X12_goes Sm) := by
  obtain ⟨hMB, hF1, hF16, h37, h43, hFr, hWt⟩ := id hRI
  have hM8 := hMB.1.2.1
  rw [show f + 1 - 1 = f by omega] at hFr
  obtain ⟨m, hF, hMo⟩ := hR.2.2.2.2.2.2.2.2.2.1
  rw [show f + 1 - 1 = f by omega] at hF hMo
  have hm := hF.1
  have hf : f < 16 := by omega
  obtain ⟨m', n, w1, w2, hn, hn60, w5⟩ := hFr
  obtain rfl : m' = m := nI_inj (w2.symm.trans hF.2.2.1) (by omega) (by omega)
  rcases w5 with ⟨_, i, d, hi, h39, hd8, h7, h41⟩ | ⟨j', k', N', at', a1, a2, a3, a4, _⟩
  case inr => exact absurd (a4.symm.trans h40) (nI_neg1 (by omega))
  rcases hMo with ⟨_, i', c, hi60, h39', h221, h249, hc, h222⟩ | ⟨j, c, N, h0, n', P, as, val, st, p, q, g40, hj, _⟩
  case inr => exact absurd (g40.symm.trans h40) (nI_neg1 (by omega))
  obtain rfl : i' = i := nI_inj (h39'.symm.trans h39) (by omega) (by omega)
  obtain ⟨l, n', hl, hl6, h3', hn1, hn60', h70, hlook⟩ := hMB.1.2.2.2 m' w1
  obtain rfl : n' = n := nI_inj (h3'.symm.trans hn) (by omega) (by omega)
  obtain ⟨d', _, hd', hr⟩ := (hlook i' hi).resolve_left (by rw [h7]; exact nI_neg1 (by omega))
  obtain rfl : d' = d := nI_inj (hd'.symm.trans h7) (by omega) (by omega)
  obtain ⟨o, ax, ho, h4, hk, hax, htk, h8, hj, hnx⟩ := hr
  have h61 := hMB.1.1.2.1 m' w1
  obtain ⟨pa1, pa2, pa3, pa4, pa5, pa6, pa7⟩ := hR.1.1.1 m' hF.1
  have h270 : cv S 248 m' 0 ≠ -1 ∧ ∀ j : Nat, j < 60 → cv S 270 m' j = Sm 7 (60 * m' + j) := by
    rcases pa7 with v | v
    · rw [v.2] at h61; exact absurd h61 (by decide)
    · obtain ⟨_, v2, ⟨bb, hb8, v3⟩, v4⟩ := v
      exact ⟨fun w => by rw [v2, v3] at w; exact nI_neg1 (by omega) w, v4⟩
  obtain ⟨pl, n2, g1, g2, g3, g4, g5⟩ := hR.1.2.2.1 m' hF.1 h270.1
  obtain rfl : n2 = n' := nI_inj (g3.symm.trans (pa5.trans hn)) (by omega) (by omega)
  obtain rfl : pl = c := nI_inj (g1.symm.trans h249) (by omega) (by omega)
  obtain ⟨e250, e260⟩ := pa6 n2 i' g3 g4 hi
  have e270 : cv S 270 m' i' = nI d' := by rw [h270.2 i' (by omega)]; exact h7
  have hlv : ¬ o = 19 → lvC S m' i' = true := fun q => decide_eq_true ⟨by rw [e270]; exact nI_neg1 (by omega), by rw [e250, h4]; exact fun w => q (nI_inj (b := 19) w (by omega) (by omega))⟩
  have hpo : o = 19 → lvC S m' i' = false := fun q => decide_eq_false (fun w => w.2 (by rw [e250, h4, q]; rfl))
  have h : StI S Sm f s m' n2 pl i' d' o ax (if o = 11 then d' else d' - tkN o ax + lyN o) (Sm 5 (60 * m' + i')) (cv S 270 m' (i' + 1)) := ⟨by omega, hC, hR, hf, hF, h37, h40, h221, h249, hc, h39, hi, hn60, h222, h41, hd8, ho, ⟨h4, rfl⟩, g5, hlv, hpo, htk, h8, rfl, fun q => by
      obtain ⟨y, y1, y2, y3, y4⟩ := hax q
      exact ⟨y, by omega, y2, y3⟩, h43, fun q => by
      have := g5.2.2.2.2.2 i' o hi (hlv q) (e250.trans h4) ho
      rw [e260, e270] at this
      exact this⟩
  rcases z20 ho with rfl | rfl | rfl | rfl | rfl | rfl | rfl | rfl | rfl | rfl | rfl | rfl | rfl | rfl | rfl | rfl | rfl | rfl | rfl | rfl
  · exact zi_0 h
  · obtain ⟨y, y1, y2⟩ := hk.1 (Or.inl rfl)
    exact zi_1 h (by omega) y2
  · obtain ⟨y, y1, y2⟩ := hk.1 (Or.inr rfl)
    exact zi_2 h (by omega) y2
  · exact zi_3 h
  · exact zi_4 h
  · exact zi_5 h
  · exact zi_6 h
  · exact zi_7 h
  · exact zi_8 h
  · obtain ⟨y, y1, y2, y3⟩ := hj (Or.inl rfl)
    exact zi_9 h y1 y2
  · obtain ⟨y, y1, y2, y3⟩ := hj (Or.inr rfl)
    exact zi_10 h y1 y2
  · obtain ⟨y, y1, y2, y3, y4⟩ := hax rfl
    obtain ⟨x1, x2⟩ := hnx (by decide) (by decide)
    exact zi_11 h hM hJ hRI y1 y2 y3 y4 (by rw [h270.2 (i' + 1) (by omega)]; exact x2)
  · exact zi_12 h
  · obtain ⟨y, y1, y2⟩ := hk.2.2.1 (Or.inl rfl)
    exact zi_13 h y1 y2
  · obtain ⟨y, y1, y2⟩ := hk.2.2.1 (Or.inr rfl)
    exact zi_14 h y1 y2
  · obtain ⟨y, y1, y2⟩ := hk.2.2.2 (by decide)
    exact zi_15 h y1 y2
  · obtain ⟨y, y1, y2⟩ := hk.2.2.2 (by decide)
    exact zi_16 h hMB.2.1 y1 y2
  · obtain ⟨y, y1, y2⟩ := hk.2.2.2 (by decide)
    exact zi_17 h hMB.2.1 y1 y2
  · exact zi_18 h
  · exact zi_19 h
