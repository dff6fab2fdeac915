/-! BOTH at a PART: the ops, one by one -/
theorem rk {k : Nat} {a b : Int32} {Post : Int32 → Prop} (h2 : 2 ≤ k) (h7 : k ≤ 7) (hb : k = 5 → ¬ b = 0) (h : Post (clc (k + 1) a b)) : wp_X11_reckoned (nI k) a b Post := by
  have e : (nI k : Int32) = nI (k + 1) - 3 + 2 := by
    rcases (show k = 2 ∨ k = 3 ∨ k = 4 ∨ k = 5 ∨ k = 6 ∨ k = 7 by omega) with rfl | rfl | rfl | rfl | rfl | rfl <;> decide
  rw [e]
  exact xg_reckoned (by omega) (by omega) (fun q => hb (by omega)) h
theorem w573 {S : CST} {Sm : MST} {f s m j c N h0 n p : Nat} {P : Nat → T5} {as : Nat → Bool} {val : Nat → Int32} {st : Nat → Nat} (h : StP S Sm f s m j c N h0 n p P as val st) {k x y z : Nat} {i : Int32} {Post : MST → Prop} (e : P p = (nI k, nI x, nI y, nI z, i)) (h2 : 2 ≤ k) (h7 : k ≤ 7) (hx15 : x < 15) (hy : y < 15) (hz : z < 15) (hb : k = 5 → ¬ (ms Sm 39 (upd (Sm 39) f (nI (p + 1)))) 42 (15 * f + z) = 0) (hq : Post (ms (ms Sm 39 (upd (Sm 39) f (nI (p + 1)))) 42 (upd ((ms Sm 39 (upd (Sm 39) f (nI (p + 1)))) 42) (15 * f + x) (clc (k + 1) ((ms Sm 39 (upd (Sm 39) f (nI (p + 1)))) 42 (15 * f + y)) ((ms Sm 39 (upd (Sm 39) f (nI (p + 1)))) 42 (15 * f + z)))))) : wj_X12_goesByPart_573 (ms Sm 39 (upd (Sm 39) f (nI (p + 1)))) (nI (640 * (12 * m + j) + p)) (nI (15 * f)) (nI x) (nI y) (nI z) i Post := by
  have hf := h.2.2.2.1
  unfold wj_X12_goesByPart_573
  rw [js_op h e, rgc hf hx15, rgc hf hy, rgc hf hz, nI_1]
  have go : wp_X12_sumOf (nI (k + 1)) ((ms Sm 39 (upd (Sm 39) f (nI (p + 1)))) 42 (15 * f + y)) ((ms Sm 39 (upd (Sm 39) f (nI (p + 1)))) 42 (15 * f + z)) (fun r8 => vp_in (nI (15 * f) + nI x) 240 ∧ (∀ S9 : MST, S9 = ms (ms Sm 39 (upd (Sm 39) f (nI (p + 1)))) 42 (upd ((ms Sm 39 (upd (Sm 39) f (nI (p + 1)))) 42) (15 * f + x) r8) → wj_X12_goesByPart_649 S9 i 0 Post)) := mg_sumOf (by omega) (by omega) (fun q => hb (by omega)) ⟨rgv hf hx15, fun S9 e9 => w649 (by rw [e9]; exact hq)⟩
  exact ⟨js_vp h, fun _ => ⟨js_vp h, rgv hf hy, rgv hf hz, go⟩, fun q => ⟨rgv hf hz, fun _ => ⟨js_vp h, rgv hf hy, rgv hf hz, go⟩, fun z0 => absurd z0 (hb (nI_inj (b := 5) q (by omega) (by omega)))⟩⟩
theorem zs_0 {S : CST} {Sm : MST} {f s m j c N h0 n p : Nat} {P : Nat → T5} {as : Nat → Bool} {val : Nat → Int32} {st : Nat → Nat} (h : StP S Sm f s m j c N h0 n p P as val st) {x : Nat} {a b i : Int32} (e : P p = (nI 0, nI x, a, b, i)) (hx15 : x < 15) (hxa : x < 3 → as x = false) : ResR S (wp_X12_goesByPart Sm) := by
  have hf := h.2.2.2.1
  have hall := js_all h (by rw [e]; exact (by decide : ¬ (nI 0 : Int32) = 17)) (by rw [e]; exact (by decide : ¬ (nI 0 : Int32) = 18))
  refine js_step h e (tu_0 ⟨cin_22 hf, xr_put hf hx15 (Or.inl (js_ref h e (gp_0 ⟨rgv hf hx15, fun S25 e25 => w649 ?_⟩)))⟩)
  rw [e25, rgc hf hx15]
  exact js_reg h hx15 hxa hall a
theorem zs_1 {S : CST} {Sm : MST} {f s m j c N h0 n p : Nat} {P : Nat → T5} {as : Nat → Bool} {val : Nat → Int32} {st : Nat → Nat} (h : StP S Sm f s m j c N h0 n p P as val st) {x y : Nat} {b i : Int32} (e : P p = (nI 1, nI x, nI y, b, i)) (hx15 : x < 15) (hxa : x < 3 → as x = false) (hy : y < 15) : ResR S (wp_X12_goesByPart Sm) := by
  have hf := h.2.2.2.1
  have hall := js_all h (by rw [e]; exact (by decide : ¬ (nI 1 : Int32) = 17)) (by rw [e]; exact (by decide : ¬ (nI 1 : Int32) = 18))
  refine js_step h e (tu_1 ⟨cin_22 hf, xr_val hf hy ⟨cin_22 hf, xr_put hf hx15 (Or.inl (js_ref h e (gp_1 ⟨rgv hf hy, rgv hf hx15, fun S25 e25 => w649 ?_⟩)))⟩⟩)
  rw [e25, rgc hf hx15, rgc hf hy, js_v h hy]
  exact js_reg h hx15 hxa hall _
theorem zs_2 {S : CST} {Sm : MST} {f s m j c N h0 n p : Nat} {P : Nat → T5} {as : Nat → Bool} {val : Nat → Int32} {st : Nat → Nat} (h : StP S Sm f s m j c N h0 n p P as val st) {x y z : Nat} {i : Int32} (e : P p = (nI 2, nI x, nI y, nI z, i)) (hx15 : x < 15) (hxa : x < 3 → as x = false) (hy : y < 15) (hz : z < 15) : ResR S (wp_X12_goesByPart Sm) := by
  have hf := h.2.2.2.1
  have hall := js_all h (by rw [e]; exact (by decide : ¬ (nI 2 : Int32) = 17)) (by rw [e]; exact (by decide : ¬ (nI 2 : Int32) = 18))
  refine js_step h e (tu_2 ?_)
  unfold wp_X7_turnThatMayTrap
  refine ⟨fun _ => ⟨fun _ => ⟨cin_22 hf, xr_val hf hy ⟨cin_22 hf, xr_val hf hz (rk (by decide) (by decide) (fun q => absurd q (by decide)) ⟨cin_22 hf, xr_put hf hx15 (Or.inl (js_ref h e (gp_2 (w573 h e (by decide) (by decide) hx15 hy hz (fun q => absurd q (by decide)) ?_))))⟩)⟩⟩, fun q => absurd q (by decide)⟩, fun q => absurd q (by decide), fun q => absurd q (by decide), fun q => absurd q (by decide)⟩
  rw [js_v h hy, js_v h hz]
  exact js_reg h hx15 hxa hall _
theorem zs_3 {S : CST} {Sm : MST} {f s m j c N h0 n p : Nat} {P : Nat → T5} {as : Nat → Bool} {val : Nat → Int32} {st : Nat → Nat} (h : StP S Sm f s m j c N h0 n p P as val st) {x y z : Nat} {i : Int32} (e : P p = (nI 3, nI x, nI y, nI z, i)) (hx15 : x < 15) (hxa : x < 3 → as x = false) (hy : y < 15) (hz : z < 15) : ResR S (wp_X12_goesByPart Sm) := by
  have hf := h.2.2.2.1
  have hall := js_all h (by rw [e]; exact (by decide : ¬ (nI 3 : Int32) = 17)) (by rw [e]; exact (by decide : ¬ (nI 3 : Int32) = 18))
  refine js_step h e (tu_3 ?_)
  unfold wp_X7_turnThatMayTrap
  refine ⟨fun _ => ⟨fun _ => ⟨cin_22 hf, xr_val hf hy ⟨cin_22 hf, xr_val hf hz (rk (by decide) (by decide) (fun q => absurd q (by decide)) ⟨cin_22 hf, xr_put hf hx15 (Or.inl (js_ref h e (gp_3 (w573 h e (by decide) (by decide) hx15 hy hz (fun q => absurd q (by decide)) ?_))))⟩)⟩⟩, fun q => absurd q (by decide)⟩, fun q => absurd q (by decide), fun q => absurd q (by decide), fun q => absurd q (by decide)⟩
  rw [js_v h hy, js_v h hz]
  exact js_reg h hx15 hxa hall _
theorem zs_4 {S : CST} {Sm : MST} {f s m j c N h0 n p : Nat} {P : Nat → T5} {as : Nat → Bool} {val : Nat → Int32} {st : Nat → Nat} (h : StP S Sm f s m j c N h0 n p P as val st) {x y z : Nat} {i : Int32} (e : P p = (nI 4, nI x, nI y, nI z, i)) (hx15 : x < 15) (hxa : x < 3 → as x = false) (hy : y < 15) (hz : z < 15) : ResR S (wp_X12_goesByPart Sm) := by
  have hf := h.2.2.2.1
  have hall := js_all h (by rw [e]; exact (by decide : ¬ (nI 4 : Int32) = 17)) (by rw [e]; exact (by decide : ¬ (nI 4 : Int32) = 18))
  refine js_step h e (tu_4 ?_)
  unfold wp_X7_turnThatMayTrap
  refine ⟨fun _ => ⟨fun _ => ⟨cin_22 hf, xr_val hf hy ⟨cin_22 hf, xr_val hf hz (rk (by decide) (by decide) (fun q => absurd q (by decide)) ⟨cin_22 hf, xr_put hf hx15 (Or.inl (js_ref h e (gp_4 (w573 h e (by decide) (by decide) hx15 hy hz (fun q => absurd q (by decide)) ?_))))⟩)⟩⟩, fun q => absurd q (by decide)⟩, fun q => absurd q (by decide), fun q => absurd q (by decide), fun q => absurd q (by decide)⟩
  rw [js_v h hy, js_v h hz]
  exact js_reg h hx15 hxa hall _
theorem zs_6 {S : CST} {Sm : MST} {f s m j c N h0 n p : Nat} {P : Nat → T5} {as : Nat → Bool} {val : Nat → Int32} {st : Nat → Nat} (h : StP S Sm f s m j c N h0 n p P as val st) {x y z : Nat} {i : Int32} (e : P p = (nI 6, nI x, nI y, nI z, i)) (hx15 : x < 15) (hxa : x < 3 → as x = false) (hy : y < 15) (hz : z < 15) : ResR S (wp_X12_goesByPart Sm) := by
  have hf := h.2.2.2.1
  have hall := js_all h (by rw [e]; exact (by decide : ¬ (nI 6 : Int32) = 17)) (by rw [e]; exact (by decide : ¬ (nI 6 : Int32) = 18))
  refine js_step h e (tu_6 ?_)
  unfold wp_X7_turnThatMayTrap
  refine ⟨fun _ => ⟨fun _ => ⟨cin_22 hf, xr_val hf hy ⟨cin_22 hf, xr_val hf hz (rk (by decide) (by decide) (fun q => absurd q (by decide)) ⟨cin_22 hf, xr_put hf hx15 (Or.inl (js_ref h e (gp_6 (w573 h e (by decide) (by decide) hx15 hy hz (fun q => absurd q (by decide)) ?_))))⟩)⟩⟩, fun q => absurd q (by decide)⟩, fun q => absurd q (by decide), fun q => absurd q (by decide), fun q => absurd q (by decide)⟩
  rw [js_v h hy, js_v h hz]
  exact js_reg h hx15 hxa hall _
theorem zs_7 {S : CST} {Sm : MST} {f s m j c N h0 n p : Nat} {P : Nat → T5} {as : Nat → Bool} {val : Nat → Int32} {st : Nat → Nat} (h : StP S Sm f s m j c N h0 n p P as val st) {x y z : Nat} {i : Int32} (e : P p = (nI 7, nI x, nI y, nI z, i)) (hx15 : x < 15) (hxa : x < 3 → as x = false) (hy : y < 15) (hz : z < 15) : ResR S (wp_X12_goesByPart Sm) := by
  have hf := h.2.2.2.1
  have hall := js_all h (by rw [e]; exact (by decide : ¬ (nI 7 : Int32) = 17)) (by rw [e]; exact (by decide : ¬ (nI 7 : Int32) = 18))
  refine js_step h e (tu_7 ?_)
  unfold wp_X7_turnThatMayTrap
  refine ⟨fun _ => ⟨fun _ => ⟨cin_22 hf, xr_val hf hy ⟨cin_22 hf, xr_val hf hz (rk (by decide) (by decide) (fun q => absurd q (by decide)) ⟨cin_22 hf, xr_put hf hx15 (Or.inl (js_ref h e (gp_7 (w573 h e (by decide) (by decide) hx15 hy hz (fun q => absurd q (by decide)) ?_))))⟩)⟩⟩, fun q => absurd q (by decide)⟩, fun q => absurd q (by decide), fun q => absurd q (by decide), fun q => absurd q (by decide)⟩
  rw [js_v h hy, js_v h hz]
  exact js_reg h hx15 hxa hall _
theorem zs_5 {S : CST} {Sm : MST} {f s m j c N h0 n p : Nat} {P : Nat → T5} {as : Nat → Bool} {val : Nat → Int32} {st : Nat → Nat} (h : StP S Sm f s m j c N h0 n p P as val st) {x y z : Nat} {i : Int32} (e : P p = (nI 5, nI x, nI y, nI z, i)) (hx15 : x < 15) (hxa : x < 3 → as x = false) (hy : y < 15) (hz : z < 15) : ResR S (wp_X12_goesByPart Sm) := by
  have hf := h.2.2.2.1
  have hall := js_all h (by rw [e]; exact (by decide : ¬ (nI 5 : Int32) = 17)) (by rw [e]; exact (by decide : ¬ (nI 5 : Int32) = 18))
  refine js_step h e (tu_5 ?_)
  unfold wp_X7_turnThatMayTrap
  refine ⟨fun _ => ⟨fun q => absurd (by decide) q, fun _ => ⟨cin_22 hf, xr_val hf hz ⟨fun nz => ⟨cin_22 hf, xr_val hf hy ⟨cin_22 hf, xr_val hf hz (rk (by decide) (by decide) (fun _ => nz) ⟨cin_22 hf, xr_put hf hx15 (Or.inl (js_ref h e (gp_5 (w573 h e (by decide) (by decide) hx15 hy hz (fun _ => by rw [← js_v h hz]; exact nz) ?_))))⟩)⟩⟩, fun z0 => js_trap h (by decide) e (fun _ w => w) (fun Post w => gp_5 ?_)⟩⟩⟩, fun q => absurd q (by decide), fun q => absurd q (by decide), fun q => absurd q (by decide)⟩
  · rw [js_v h hy, js_v h hz]
    exact js_reg h hx15 hxa hall _
  · unfold wj_X12_goesByPart_573
    rw [js_op h e, rgc hf hx15, rgc hf hy, rgc hf hz]
    exact ⟨js_vp h, fun q => absurd (by decide) q, fun _ => ⟨rgv hf hz, fun nz => absurd (by rw [← js_v h hz]; exact z0) nz, fun _ => w⟩⟩
theorem js_jmp {S : CST} {Sm : MST} {f s m j c N h0 n p : Nat} {P : Nat → T5} {as : Nat → Bool} {val : Nat → Int32} {st : Nat → Nat} (h : StP S Sm f s m j c N h0 n p P as val st) {x i s0 : Nat} {K : CST → Prop} (hxn : x < n) (hlv : ¬ Sm 7 (60 * m + x) = -1) (hi : i < 60) (hs0 : s0 < N) (h24 : Sm 24 (60 * (12 * m + j) + x) = nI s0) (hall : ∀ u : Nat, u < 11 → as u = true → OkT Sm f val u) (hK : ∀ S1 : CST, jpD (ms Sm 39 (upd (Sm 39) f (nI (p + 1)))) (nI f) (nI i) (nI x) (fun Sm1 => OutR S1 Sm1) → K S1) : wp_X7_goTo (cs S 222 f (fun _ => nI (p + 1))) f (nI x) (nI i) K := by
  obtain ⟨hM8, hC, hR, hf, hF, h37, h40, hj, h221, hc, hx, h39, hp, h222, h43, hok⟩ := id h
  obtain ⟨x1, x2, x3, x4, x5, x6, ⟨c1, c2, c3, c4, c5, c6⟩, m1, m2, m3⟩ := id hx
  have hm := hF.1
  have hm3 := m3 x hxn hlv
  have hpl : ∃ y : Nat, cv S 340 c x = nI y ∧ (y = s0 ∨ (s0 ≤ y ∧ y = h0)) := by
    have h6 := c6 x hxn hlv
    by_cases w : x = 0
    · rw [if_pos w, h24] at hm3
      have : s0 = 0 := nI_inj hm3 (by omega) (by omega)
      exact ⟨h0, by rw [h6, w, x6], Or.inr ⟨by omega, rfl⟩⟩
    · rw [if_neg w] at hm3
      exact ⟨s0, by rw [h6, ← hm3, h24], Or.inl rfl⟩
  obtain ⟨y, h340, hy⟩ := hpl
  have hcf : (nI f).toNatClampNeg = f := nI_clamp (by omega)
  have v16 : vp_in (nI f) 16 := vp_in_nI hf (by omega)
  have v57 : vp_in ((60 * nI (12 * m + j)) + nI x) 5760 := by
    rw [ix60]; exact vp_in_nI (by omega) (by omega)
  have i57 : ((60 : Int32) * nI (12 * m + j) + nI x).toNatClampNeg = 60 * (12 * m + j) + x := by
    rw [ix60, nI_clamp (by omega)]
  have hit : nI i < nI x ↔ i < x := ⟨fun q => Nat.not_le.mp (fun w => absurd q (Int32.not_lt.mpr (nI_le w (by omega)))), fun q => Int32.not_le.mp (nI_ge q (by omega))⟩
  have g40 : (ms Sm 39 (upd (Sm 39) f (nI (p + 1)))) 40 f = nI (12 * m + j) := by
    rw [ms_n _ _ (by decide)]; exact h40
  have g24 : (ms Sm 39 (upd (Sm 39) f (nI (p + 1)))) 24 (60 * (12 * m + j) + x) = nI s0 := by
    rw [ms_n _ _ (by decide)]; exact h24
  have g44 : (ms Sm 39 (upd (Sm 39) f (nI (p + 1)))) 44 0 = nI s := by
    rw [ms_n _ _ (by decide)]; exact hR.2.2.2.2.2.2.2.1
  have fin : ∀ (S1 : CST) (Sm1 : MST) (s1 : Nat), Ex [201, 222] S S1 → (∀ g : Nat, g ≠ f → cv S1 222 g = cv S 222 g) → cv S1 222 f 0 = nI y → Fm [39, 44] Sm Sm1 → (∀ g : Nat, g ≠ f → Sm1 39 g = Sm 39 g) → Sm1 39 f = nI s0 → cv S1 201 0 0 = nI s1 → Sm1 44 0 = nI s1 → s1 ≤ 1500 → OutR S1 Sm1 := fun S1 Sm1 s1 e o222 g222 em o39 g39 hs hs2 hs3 => by
    have okk : ∀ u : Nat, u < 11 → as u = true → OkT Sm1 f val u := fun u hu ha => (hall u hu ha).keep (fun _ => by rw [em 42 rfl]) (fun _ => by rw [em 12 rfl])
    exact js_to h (Ex.step e (by decide) Ex.rf) o222 (fun g _ => by rw [e.2 230 rfl]) (Fm.step em (by decide) Fm.rf) o39 (fun g t _ _ => by rw [em 42 rfl]) (hR.2.1.same (e.2 40 rfl) (e.2 50 rfl) (e.2 60 rfl) (em 12 rfl) (em 13 rfl) (em 14 rfl)) (fun t ht => by rw [e.2 230 rfl, em 42 rfl]; exact hF.2.2.2 t ht) g222 g39 (by omega) (hy.imp (fun w => ⟨w, fun u hu ha => Or.inl (okk u hu ha)⟩) (fun w => ⟨w.1, w.2, okk⟩)) hs hs2 hs3
  refine xr_goTo (c := c) (n := n) (s := s) (t := y) hf (by rw [cs_c (by decide)]; exact h221) hc (by omega) (by rw [cs_c (by decide)]; exact c4) x2 hxn hi (by rw [cs_c (by decide)]; exact h340) (by rw [cs_c (by decide)]; exact hR.2.2.2.2.2.2.1) hR.2.2.2.2.2.2.2.2.1 (fun w => hK _ ?_) (fun w w2 => hK _ ?_) (fun w w2 => hK _ ?_)
  · unfold jpD
    refine ⟨fun _ => ?_, fun q => absurd (hit.mpr w) q⟩
    rw [hcf, g40, i57, g24]
    refine ⟨v16, v57, v16, fun S31 e31 => w649 (fin _ S31 s ?_ ?_ ?_ ?_ ?_ ?_ ?_ ?_ hR.2.2.2.2.2.2.2.2.1)⟩
    · exact Ex.cs (by decide) (Ex.cs (by decide) Ex.rf)
    · intro g hg
      rw [cs_i hg, cs_i hg]
    · rw [cs_s]
    · rw [e31]; exact Fm.put rfl rfl (Fm.put rfl rfl Fm.rf)
    · intro g hg
      rw [e31, ms_s, upd_n _ _ hg, ms_s, upd_n _ _ hg]
    · rw [e31, ms_s, upd_s]
    · rw [cs_c (by decide), cs_c (by decide)]; exact hR.2.2.2.2.2.2.1
    · rw [e31, ms_n _ _ (by decide)]; exact g44
  · unfold jpD
    refine ⟨fun q => absurd (hit.mp q) w, fun _ => sp_stepOn g44 hR.2.2.2.2.2.2.2.2.1 (fun _ => ⟨fun q => absurd q (by decide), fun _ => ?_⟩) (fun q => absurd q (by omega))⟩
    rw [hcf, ms_n _ _ (show 40 ≠ 44 by decide), ms_n _ _ (show 24 ≠ 44 by decide), ms_n _ _ (show 39 ≠ 44 by decide), g40, i57, g24]
    refine ⟨v16, v57, v16, fun S31 e31 => w649 (fin _ S31 (s + 1) ?_ ?_ ?_ ?_ ?_ ?_ ?_ ?_ (by omega))⟩
    · exact Ex.cs (by decide) (Ex.cs (by decide) (Ex.cs (by decide) Ex.rf))
    · intro g hg
      rw [cs_i hg, cs_c (by decide), cs_i hg]
    · rw [cs_s]
    · rw [e31]; exact Fm.put rfl rfl (Fm.put rfl rfl (Fm.put rfl rfl Fm.rf))
    · intro g hg
      rw [e31, ms_s, upd_n _ _ hg, ms_s, upd_n _ _ hg]
    · rw [e31, ms_s, upd_s]
    · rw [cs_c (by decide), cs_s]
    · rw [e31, ms_n _ _ (by decide), ms_s]
  · unfold jpD
    refine ⟨fun q => absurd (hit.mp q) w, fun _ => sp_stepOn g44 hR.2.2.2.2.2.2.2.2.1 (fun q => absurd q (by omega)) (fun _ => ⟨fun _ => w649 (Or.inl ?_), fun q => absurd rfl q⟩)⟩
    have e : Ex [127, 201, 222] S (cs (cs (cs (cs S 222 f (fun _ => nI (p + 1))) 201 0 (fun _ => nI (s + 1))) 127 0 (fun _ => 3)) 222 f (fun _ => nI y)) := Ex.cs (by decide) (Ex.cs (by decide) (Ex.cs (by decide) (Ex.cs (by decide) Ex.rf)))
    have em : Fm [39, 43] Sm (ms (ms Sm 39 (upd (Sm 39) f (nI (p + 1)))) 43 (fun _ => 3)) := Fm.put rfl rfl (Fm.put rfl rfl Fm.rf)
    obtain ⟨t1, t2, t3, t4, t5, t6, t7⟩ := hR.2.2.1
    exact ⟨⟨hR.1.ex e rfl em rfl, hR.2.1.same (e.2 40 rfl) (e.2 50 rfl) (e.2 60 rfl) (em 12 rfl) (em 13 rfl) (em 14 rfl), by rw [e.2 200 rfl, em 48 rfl]; exact t1, by rw [em 48 rfl]; exact t2, by rw [e.2 202 rfl, em 45 rfl]; exact t3, by rw [e.2 203 rfl, em 46 rfl]; exact t4, by rw [e.2 204 rfl, em 47 rfl]; exact t5, by rw [e.2 205 rfl, em 49 rfl]; exact t6, fun t ht => by rw [e.2 210 rfl, em 50 rfl]; exact t7 t ht⟩, Or.inr (Or.inr ⟨by rw [ms_s], by rw [cs_c (by decide), cs_s]⟩)⟩
theorem zs_8 {S : CST} {Sm : MST} {f s m j c N h0 n p : Nat} {P : Nat → T5} {as : Nat → Bool} {val : Nat → Int32} {st : Nat → Nat} (h : StP S Sm f s m j c N h0 n p P as val st) {x i s0 : Nat} {a b : Int32} (e : P p = (nI 8, nI x, a, b, nI i)) (hxn : x < n) (hlv : ¬ Sm 7 (60 * m + x) = -1) (hi : i < 60) (hs0 : s0 < N) (h24 : Sm 24 (60 * (12 * m + j) + x) = nI s0) : ResR S (wp_X12_goesByPart Sm) := by
  have hall := js_all h (by rw [e]; exact (by decide : ¬ (nI 8 : Int32) = 17)) (by rw [e]; exact (by decide : ¬ (nI 8 : Int32) = 18))
  exact js_step h e (tu_8 (js_jmp h hxn hlv hi hs0 h24 hall (fun S1 w => Or.inl (js_ref h e (gp_8 w)))))
theorem zs_9 {S : CST} {Sm : MST} {f s m j c N h0 n p : Nat} {P : Nat → T5} {as : Nat → Bool} {val : Nat → Int32} {st : Nat → Nat} (h : StP S Sm f s m j c N h0 n p P as val st) {x y i s0 : Nat} {b : Int32} (e : P p = (nI 9, nI x, nI y, b, nI i)) (hy : y < 15) (hxn : x < n) (hlv : ¬ Sm 7 (60 * m + x) = -1) (hi : i < 60) (hs0 : s0 < N) (h24 : Sm 24 (60 * (12 * m + j) + x) = nI s0) : ResR S (wp_X12_goesByPart Sm) := by
  have hf := h.2.2.2.1
  have hall := js_all h (by rw [e]; exact (by decide : ¬ (nI 9 : Int32) = 17)) (by rw [e]; exact (by decide : ¬ (nI 9 : Int32) = 18))
  have ev : (ms Sm 39 (upd (Sm 39) f (nI (p + 1)))) 42 (nI (15 * f) + nI y : Int32).toNatClampNeg = cv (cs S 222 f (fun _ => nI (p + 1))) 230 f y := by rw [rgc hf hy, js_v h hy]
  exact js_step h e (tu_9 ⟨cin_22 hf, xr_val hf hy ⟨fun nz => Or.inl (js_ref h e (gp_9 ⟨rgv hf hy, fun _ => w649 (js_id h (fun u hu ha => Or.inl (hall u hu ha))), fun z => absurd (ev.symm.trans z) nz⟩)), fun z => js_jmp h hxn hlv hi hs0 h24 hall (fun S1 w => Or.inl (js_ref h e (gp_9 ⟨rgv hf hy, fun nz => absurd (ev.trans z) nz, fun _ => w⟩)))⟩⟩)
theorem zs_12 {S : CST} {Sm : MST} {f s m j c N h0 n p : Nat} {P : Nat → T5} {as : Nat → Bool} {val : Nat → Int32} {st : Nat → Nat} (h : StP S Sm f s m j c N h0 n p P as val st) {x q : Nat} {b i : Int32} (e : P p = (nI 12, nI x, nI q, b, i)) (hx15 : x < 15) (hxa : x < 3 → as x = false) (hq : q < 8) : ResR S (wp_X12_goesByPart Sm) := by
  have hf := h.2.2.2.1
  have hall := js_all h (by rw [e]; exact (by decide : ¬ (nI 12 : Int32) = 17)) (by rw [e]; exact (by decide : ¬ (nI 12 : Int32) = 18))
  have ef : (ms Sm 39 (upd (Sm 39) f (nI (p + 1)))) 12 (nI q : Int32).toNatClampNeg = cv (cs S 222 f (fun _ => nI (p + 1))) 40 0 q := by
    rw [nI_clamp (by omega), ms_n _ _ (by decide), cs_c (by decide)]
    exact (h.2.2.1.2.1.1 q hq).symm
  refine js_step h e (tu_12 (xr_fval hq ⟨cin_22 hf, xr_put hf hx15 (Or.inl (js_ref h e (gp_12 ⟨vp_in_nI hq (by omega), rgv hf hx15, fun S25 e25 => w649 ?_⟩)))⟩))
  rw [e25, rgc hf hx15, ef]
  exact js_reg h hx15 hxa hall _
/-- one FIELD has changed -/
theorem js_fld {S : CST} {Sm : MST} {f s m j c N h0 n p : Nat} {P : Nat → T5} {as : Nat → Bool} {val : Nat → Int32} {st : Nat → Nat} (h : StP S Sm f s m j c N h0 n p P as val st) {q : Nat} (hq : q < 8) (hqa : as (3 + q) = false) (hall : ∀ u : Nat, u < 11 → as u = true → OkT Sm f val u) (v : Int32) : OutR (cs (cs S 222 f (fun _ => nI (p + 1))) 40 0 (upd (cv (cs S 222 f (fun _ => nI (p + 1))) 40 0) q v)) (ms (ms Sm 39 (upd (Sm 39) f (nI (p + 1)))) 12 (upd ((ms Sm 39 (upd (Sm 39) f (nI (p + 1)))) 12) q v)) := by
  obtain ⟨hM8, hC, hR, hf, hF, h37, h40, hj, h221, hc, hx, h39, hp, h222, h43, hok⟩ := id h
  have e : Ex [40, 50, 60, 201, 222, 230] S (cs (cs S 222 f (fun _ => nI (p + 1))) 40 0 (upd (cv (cs S 222 f (fun _ => nI (p + 1))) 40 0) q v)) := Ex.cs (by decide) (Ex.cs (by decide) Ex.rf)
  have em : Fm [12, 13, 14, 39, 42, 44] Sm (ms (ms Sm 39 (upd (Sm 39) f (nI (p + 1)))) 12 (upd ((ms Sm 39 (upd (Sm 39) f (nI (p + 1)))) 12) q v)) := Fm.put rfl rfl (Fm.put rfl rfl Fm.rf)
  refine js_to h e (fun g hg => ?_) (fun g hg => ?_) em (fun g hg => ?_) (fun g t hg ht => ?_) (hR.2.1.field hq (v := v) (by rw [cs_s, cs_c (by decide)]) (by rw [cs_c (by decide), cs_c (by decide)]) (by rw [cs_c (by decide), cs_c (by decide)]) (by rw [ms_s, ms_n _ _ (by decide)]) (by rw [ms_n _ _ (by decide), ms_n _ _ (by decide)]) (by rw [ms_n _ _ (by decide), ms_n _ _ (by decide)])) (fun t ht => ?_) (x := p + 1) (y := p + 1) (s1 := s) ?_ ?_ (by omega) (Or.inl ⟨rfl, fun u hu ha => Or.inl ?_⟩) ?_ ?_ hR.2.2.2.2.2.2.2.2.1
  · rw [cs_c (by decide), cs_i hg]
  · rw [cs_c (by decide), cs_c (by decide)]
  · rw [ms_n _ _ (by decide), ms_s, upd_n _ _ hg]
  · rw [ms_n _ _ (by decide), ms_n _ _ (by decide)]
  · rw [cs_c (by decide), cs_c (by decide), ms_n _ _ (by decide), ms_n _ _ (by decide)]; exact hF.2.2.2 t ht
  · rw [cs_c (by decide), cs_s]
  · rw [ms_n _ _ (by decide), ms_s, upd_s]
  · refine (hall u hu ha).keep (fun _ => by rw [ms_n _ _ (by decide), ms_n _ _ (by decide)]) (fun w => ?_)
    have : u - 3 ≠ q := fun w2 => by
      rw [show u = 3 + q by omega, hqa] at ha
      cases ha
    rw [ms_s, upd_n _ _ this, ms_n _ _ (by decide)]
  · rw [cs_c (by decide), cs_c (by decide)]; exact hR.2.2.2.2.2.2.1
  · rw [ms_n _ _ (by decide), ms_n _ _ (by decide)]; exact hR.2.2.2.2.2.2.2.1
theorem zs_13 {S : CST} {Sm : MST} {f s m j c N h0 n p : Nat} {P : Nat → T5} {as : Nat → Bool} {val : Nat → Int32} {st : Nat → Nat} (h : StP S Sm f s m j c N h0 n p P as val st) {q y : Nat} {b i : Int32} (e : P p = (nI 13, nI q, nI y, b, i)) (hq : q < 8) (hqa : as (3 + q) = false) (hy : y < 15) : ResR S (wp_X12_goesByPart Sm) := by
  have hf := h.2.2.2.1
  have hall := js_all h (by rw [e]; exact (by decide : ¬ (nI 13 : Int32) = 17)) (by rw [e]; exact (by decide : ¬ (nI 13 : Int32) = 18))
  refine js_step h e (tu_13 ⟨cin_22 hf, xr_val hf hy (xr_fput hq (Or.inl (js_ref h e (gp_13 ⟨rgv hf hy, vp_in_nI hq (by omega), fun S25 e25 => w649 ?_⟩))))⟩)
  rw [e25, rgc hf hy, nI_clamp (n := q) (by omega), js_v h hy]
  exact js_fld h hq hqa hall _
/-- a ROW was made, or one item has changed -/
theorem js_row {S : CST} {Sm : MST} {f s m j c N h0 n p : Nat} {P : Nat → T5} {as : Nat → Bool} {val : Nat → Int32} {st : Nat → Nat} (h : StP S Sm f s m j c N h0 n p P as val st) {S1 : CST} {Sm1 : MST} (hall : ∀ u : Nat, u < 11 → as u = true → OkT Sm f val u) (hE : Ex [50, 60] (cs S 222 f (fun _ => nI (p + 1))) S1) (hEm : Fm [13, 14] (ms Sm 39 (upd (Sm 39) f (nI (p + 1)))) Sm1) (hd : DaR S1 Sm1) : OutR S1 Sm1 := by
  obtain ⟨hM8, hC, hR, hf, hF, h37, h40, hj, h221, hc, hx, h39, hp, h222, h43, hok⟩ := id h
  have e : Ex [40, 50, 60, 201, 222, 230] S S1 := Ex.step hE (by decide) (Ex.cs (by decide) Ex.rf)
  have em : Fm [12, 13, 14, 39, 42, 44] Sm Sm1 := Fm.step hEm (by decide) (Fm.put rfl rfl Fm.rf)
  refine js_to h e (fun g hg => ?_) (fun g hg => ?_) em (fun g hg => ?_) (fun g t hg ht => ?_) hd (fun t ht => ?_) (x := p + 1) (y := p + 1) (s1 := s) ?_ ?_ (by omega) (Or.inl ⟨rfl, fun u hu ha => Or.inl ?_⟩) ?_ ?_ hR.2.2.2.2.2.2.2.2.1
  · rw [hE.2 222 rfl, cs_i hg]
  · rw [hE.2 230 rfl, cs_c (by decide)]
  · rw [hEm 39 rfl, ms_s, upd_n _ _ hg]
  · rw [hEm 42 rfl, ms_n _ _ (by decide)]
  · rw [hE.2 230 rfl, cs_c (by decide), hEm 42 rfl, ms_n _ _ (by decide)]; exact hF.2.2.2 t ht
  · rw [hE.2 222 rfl, cs_s]
  · rw [hEm 39 rfl, ms_s, upd_s]
  · exact (hall u hu ha).keep (fun _ => by rw [hEm 42 rfl, ms_n _ _ (by decide)]) (fun _ => by rw [hEm 12 rfl, ms_n _ _ (by decide)])
  · rw [hE.2 201 rfl, cs_c (by decide)]; exact hR.2.2.2.2.2.2.1
  · rw [hEm 44 rfl, ms_n _ _ (by decide)]; exact hR.2.2.2.2.2.2.2.1
theorem zs_14 {S : CST} {Sm : MST} {f s m j c N h0 n p : Nat} {P : Nat → T5} {as : Nat → Bool} {val : Nat → Int32} {st : Nat → Nat} (h : StP S Sm f s m j c N h0 n p P as val st) {r y : Nat} {b i : Int32} (e : P p = (nI 14, nI r, nI y, b, i)) (hr : r < 4) (hy : y < 15) : ResR S (wp_X12_goesByPart Sm) := by
  have hf := h.2.2.2.1
  have hall := js_all h (by rw [e]; exact (by decide : ¬ (nI 14 : Int32) = 17)) (by rw [e]; exact (by decide : ¬ (nI 14 : Int32) = 18))
  have hD := h.2.2.1.2.1
  have ev : (ms Sm 39 (upd (Sm 39) f (nI (p + 1)))) 42 (nI (15 * f) + nI y : Int32).toNatClampNeg = cv (cs S 222 f (fun _ => nI (p + 1))) 230 f y := by rw [rgc hf hy, js_v h hy]
  refine js_step h e (tu_14 ?_)
  unfold wp_X7_turnThatMayTrap
  refine ⟨fun q => absurd q (by decide), fun _ => ⟨cin_22 hf, xr_val hf hy ?_⟩, fun q => absurd q (by decide), fun q => absurd q (by decide)⟩
  unfold wp_X7_newRow
  refine ⟨fun c0 => ⟨fun c1 => xr_renew hr (Int32.not_lt.mpr (Int32.le_trans (by decide) c0)) (Int32.not_lt.mpr c1) (fun S' hE h50 h60 => Or.inl (js_ref h e (gp_14 ⟨rgv hf hy, ?_⟩))), fun c1 => js_trap h (by decide) e (fun _ w => w) (fun Post w => gp_14 ⟨rgv hf hy, ?_⟩)⟩, fun c0 => js_trap h (by decide) e (fun _ w => w) (fun Post w => gp_14 ⟨rgv hf hy, ?_⟩)⟩
  · rw [ev]
    refine mr_makesRow hr (fun q => absurd c0 (Int32.not_le.mpr q)) (fun _ q => absurd c1 (Int32.not_le.mpr q)) (fun nn Sm1 hnn hv hEm h13 h14 => w649 (js_row h hall hE hEm ?_))
    refine hD.row hr hnn ?_ ?_ (fun t ht => ?_) ?_ ?_ (fun t => ?_)
    · rw [hE.2 40 rfl, cs_c (by decide)]
    · rw [h50, hv, cs_c (by decide)]
    · rw [h60 t ht, cs_c (by decide)]
    · rw [hEm 12 rfl, ms_n _ _ (by decide)]
    · rw [h13, ms_n _ _ (by decide)]
    · rw [h14 t, ms_n _ _ (by decide)]
  · rw [ev]
    exact mr_makesRow hr (fun q => absurd c0 (Int32.not_le.mpr q)) (fun _ _ => w) (fun nn Sm1 hnn hv _ _ _ => absurd (by rw [hv]; exact nI_le (b := 20) hnn (by omega)) c1)
  · rw [ev]
    exact mr_makesRow hr (fun _ => w) (fun q _ => absurd (Int32.not_lt.mp q) c0) (fun nn Sm1 hnn hv _ _ _ => absurd (by rw [hv]; exact nI_pos' (by omega)) c0)
/-- whether an item is there, in both -/
theorem js_there {S : CST} {Sm : MST} {f s m j c N h0 n p : Nat} {P : Nat → T5} {as : Nat → Bool} {val : Nat → Int32} {st : Nat → Nat} (h : StP S Sm f s m j c N h0 n p P as val st) {r : Nat} {v i o d a b : Int32} {Q : CST → Int32 → Prop} {G : (MST → Prop) → Int32 → Prop} (e : P p = (o, d, a, b, i)) (hRw : rowN Sm) (hr : r < 4) (hQ : ∀ S' : CST, TwR (wp_X12_goesByPart Sm) S' → Q S' 0) (hg : ∀ Post : MST → Prop, wp_X12_refuses (ms Sm 39 (upd (Sm 39) f (nI (p + 1)))) (nI r) v (G Post) → gpD Sm (ms Sm 39 (upd (Sm 39) f (nI (p + 1)))) (nI f) (nI (15 * f)) (nI (640 * (12 * m + j) + p)) o d a b i Post) (hG : ∀ (Post : MST → Prop) (no : Int32), ¬ no = 0 → wj_X12_goesByPart_649 (ms Sm 39 (upd (Sm 39) f (nI (p + 1)))) i no Post → G Post no)
    (hok : ∀ x nn : Nat, x < nn → nn ≤ 20 → cv (cs S 222 f (fun _ => nI (p + 1))) 50 0 r = nI nn → v = nI x → (∀ Post : MST → Prop, G Post 0 → gpD Sm (ms Sm 39 (upd (Sm 39) f (nI (p + 1)))) (nI f) (nI (15 * f)) (nI (640 * (12 * m + j) + p)) o d a b i Post) → Q (cs S 222 f (fun _ => nI (p + 1))) 1) : wp_X7_isThere (cs S 222 f (fun _ => nI (p + 1))) f (nI r) v i Q := by
  have hD := h.2.2.1.2.1
  have hRw' : rowN (ms Sm 39 (upd (Sm 39) f (nI (p + 1)))) := fun r' hr' => by rw [ms_n _ _ (by decide)]; exact hRw r' hr'
  have el : cv (cs S 222 f (fun _ => nI (p + 1))) 50 0 r = (ms Sm 39 (upd (Sm 39) f (nI (p + 1)))) 13 r := by
    rw [cs_c (by decide), ms_n _ _ (by decide)]; exact (hD.2 r hr).1
  refine xr_isThere hr (fun c2 => js_trap h (by decide) e hQ (fun Post w => hg Post (mr_refuses hr hRw' (fun _ => hG Post 2 (by decide) w) (fun nn hn q _ => ?_) (fun x nn hx hn q _ => ?_)))) (fun nn hn c3 hv => js_trap h (by decide) e hQ (fun Post w => hg Post (mr_refuses hr hRw' (fun q => ?_) (fun _ _ _ _ => hG Post 3 (by decide) w) (fun x nn' hx hn' q hq => ?_)))) (fun x nn hx hn c3 hv => hok x nn hx hn c3 hv (fun Post w => hg Post (mr_refuses hr hRw' (fun q => ?_) (fun nn' hn' q hq => ?_) (fun _ _ _ _ _ _ => w)))) (by rw [cs_c (by decide)]; exact hD.len hRw hr)
  · exact absurd (q.symm.trans (el.symm.trans c2)) (nI_neg1 (by omega))
  · exact absurd (q.symm.trans (el.symm.trans c2)) (nI_neg1 (by omega))
  · exact absurd (c3.symm.trans (el.trans q)) (nI_neg1 (by omega))
  · have : nn = nn' := nI_inj (c3.symm.trans (el.trans q)) (by omega) (by omega)
    exact absurd hq (hv x (by omega))
  · exact absurd (c3.symm.trans (el.trans q)) (nI_neg1 (by omega))
  · have : nn = nn' := nI_inj (c3.symm.trans (el.trans q)) (by omega) (by omega)
    exact absurd hv (hq x (by omega))
theorem zs_15 {S : CST} {Sm : MST} {f s m j c N h0 n p : Nat} {P : Nat → T5} {as : Nat → Bool} {val : Nat → Int32} {st : Nat → Nat} (h : StP S Sm f s m j c N h0 n p P as val st) {x r z : Nat} {i : Int32} (e : P p = (nI 15, nI x, nI r, nI z, i)) (hRw : rowN Sm) (hx15 : x < 15) (hxa : x < 3 → as x = false) (hr : r < 4) (hz : z < 15) : ResR S (wp_X12_goesByPart Sm) := by
  have hf := h.2.2.2.1
  have hall := js_all h (by rw [e]; exact (by decide : ¬ (nI 15 : Int32) = 17)) (by rw [e]; exact (by decide : ¬ (nI 15 : Int32) = 18))
  have hD := h.2.2.1.2.1
  have ev : (ms Sm 39 (upd (Sm 39) f (nI (p + 1)))) 42 (nI (15 * f) + nI z : Int32).toNatClampNeg = cv (cs S 222 f (fun _ => nI (p + 1))) 230 f z := by rw [rgc hf hz, js_v h hz]
  refine js_step h e (tu_15 ?_)
  unfold wp_X7_turnThatMayTrap
  refine ⟨fun q => absurd q (by decide), fun q => absurd q (by decide), fun _ => ⟨cin_22 hf, xr_val hf hz ?_⟩, fun q => absurd q (by decide)⟩
  refine js_there h e hRw hr (G := fun Post r59 => ((¬ ((r59 : Int32) = 0)) → (wj_X12_goesByPart_649 (ms Sm 39 (upd (Sm 39) f (nI (p + 1)))) i r59 Post)) ∧ (((r59 : Int32) = 0) → (vp_in (nI (15 * f) + nI z) 240 ∧ (vp_in ((20 * nI r) + ((ms Sm 39 (upd (Sm 39) f (nI (p + 1)))) 42 (nI (15 * f) + nI z : Int32).toNatClampNeg)) 80 ∧ (vp_in (nI (15 * f) + nI x) 240 ∧ (∀ S63 : MST, S63 = ms (ms Sm 39 (upd (Sm 39) f (nI (p + 1)))) 42 (upd ((ms Sm 39 (upd (Sm 39) f (nI (p + 1)))) 42) (nI (15 * f) + nI x : Int32).toNatClampNeg ((ms Sm 39 (upd (Sm 39) f (nI (p + 1)))) 14 ((20 * nI r) + ((ms Sm 39 (upd (Sm 39) f (nI (p + 1)))) 42 (nI (15 * f) + nI z : Int32).toNatClampNeg) : Int32).toNatClampNeg)) → (wj_X12_goesByPart_649 S63 i r59 Post))))))) (fun S' w => ⟨fun _ => w, fun q => absurd rfl q⟩) (fun Post w => gp_15 ⟨rgv hf hz, by rw [ev]; rw [ev] at w; exact w⟩) (fun Post no hn w => ⟨fun _ => w, fun q => absurd q hn⟩) (fun x0 nn hx0 hnn hl hv hp => ⟨fun q => absurd q (by decide), fun _ => ⟨cin_22 hf, xr_val hf hz ?_⟩⟩)
  rw [hv]
  refine xr_itemOf hr hl hnn hx0 ⟨cin_22 hf, xr_put hf hx15 (Or.inl (js_ref h e (hp _ ⟨fun q => absurd rfl q, fun _ => ⟨rgv hf hz, ?_, rgv hf hx15, fun S63 e63 => w649 ?_⟩⟩)))⟩
  · rw [ev, hv, ix20]; exact vp_in_nI (by omega) (by omega)
  · rw [ev, hv, ix20, nI_clamp (n := 20 * r + x0) (by omega), rgc hf hx15] at e63
    have ei : (ms Sm 39 (upd (Sm 39) f (nI (p + 1)))) 14 (20 * r + x0) = cv (cs S 222 f (fun _ => nI (p + 1))) 60 0 (20 * r + x0) := by
      rw [ms_n _ _ (by decide), cs_c (by decide)]
      rw [cs_c (by decide)] at hl
      exact ((hD.2 r hr).2 nn x0 ((hD.2 r hr).1.symm.trans hl) hnn hx0).symm
    rw [e63, ei]
    exact js_reg h hx15 hxa hall _
theorem zs_16 {S : CST} {Sm : MST} {f s m j c N h0 n p : Nat} {P : Nat → T5} {as : Nat → Bool} {val : Nat → Int32} {st : Nat → Nat} (h : StP S Sm f s m j c N h0 n p P as val st) {r y z : Nat} {i : Int32} (e : P p = (nI 16, nI r, nI y, nI z, i)) (hRw : rowN Sm) (hr : r < 4) (hy : y < 15) (hz : z < 15) : ResR S (wp_X12_goesByPart Sm) := by
  have hf := h.2.2.2.1
  have hall := js_all h (by rw [e]; exact (by decide : ¬ (nI 16 : Int32) = 17)) (by rw [e]; exact (by decide : ¬ (nI 16 : Int32) = 18))
  have hD := h.2.2.1.2.1
  have ev : (ms Sm 39 (upd (Sm 39) f (nI (p + 1)))) 42 (nI (15 * f) + nI y : Int32).toNatClampNeg = cv (cs S 222 f (fun _ => nI (p + 1))) 230 f y := by rw [rgc hf hy, js_v h hy]
  refine js_step h e (tu_16 ?_)
  unfold wp_X7_turnThatMayTrap
  refine ⟨fun q => absurd q (by decide), fun q => absurd q (by decide), fun q => absurd q (by decide), fun _ => ⟨cin_22 hf, xr_val hf hy ?_⟩⟩
  refine js_there h e hRw hr (G := fun Post r65 => ((¬ ((r65 : Int32) = 0)) → (wj_X12_goesByPart_649 (ms Sm 39 (upd (Sm 39) f (nI (p + 1)))) i r65 Post)) ∧ (((r65 : Int32) = 0) → (vp_in (nI (15 * f) + nI y) 240 ∧ (vp_in (nI (15 * f) + nI z) 240 ∧ (vp_in ((20 * nI r) + ((ms Sm 39 (upd (Sm 39) f (nI (p + 1)))) 42 (nI (15 * f) + nI y : Int32).toNatClampNeg)) 80 ∧ (∀ S69 : MST, S69 = ms (ms Sm 39 (upd (Sm 39) f (nI (p + 1)))) 14 (upd ((ms Sm 39 (upd (Sm 39) f (nI (p + 1)))) 14) ((20 * nI r) + ((ms Sm 39 (upd (Sm 39) f (nI (p + 1)))) 42 (nI (15 * f) + nI y : Int32).toNatClampNeg) : Int32).toNatClampNeg ((ms Sm 39 (upd (Sm 39) f (nI (p + 1)))) 42 (nI (15 * f) + nI z : Int32).toNatClampNeg)) → (wj_X12_goesByPart_649 S69 i r65 Post))))))) (fun S' w => ⟨fun _ => w, fun q => absurd rfl q⟩) (fun Post w => gp_16 ⟨rgv hf hy, by rw [ev]; rw [ev] at w; exact w⟩) (fun Post no hn w => ⟨fun _ => w, fun q => absurd q hn⟩) (fun x0 nn hx0 hnn hl hv hp => ⟨fun q => absurd q (by decide), fun _ => ⟨cin_22 hf, xr_val hf hy ⟨cin_22 hf, xr_val hf hz ?_⟩⟩⟩)
  rw [hv]
  refine xr_putItem hr hl hnn hx0 (Or.inl (js_ref h e (hp _ ⟨fun q => absurd rfl q, fun _ => ⟨rgv hf hy, rgv hf hz, ?_, fun S69 e69 => w649 ?_⟩⟩)))
  · rw [ev, hv, ix20]; exact vp_in_nI (by omega) (by omega)
  · rw [ev, hv, ix20, nI_clamp (n := 20 * r + x0) (by omega), rgc hf hz, ← js_v h hz] at e69
    rw [e69]
    refine js_row h hall (Ex.cs (by decide) Ex.rf) (Fm.put rfl rfl Fm.rf) (hD.item (q := 20 * r + x0) (v := cv (cs S 222 f (fun _ => nI (p + 1))) 230 f z) ?_ ?_ ?_ ?_ ?_ ?_)
    · rw [cs_c (by decide), cs_c (by decide)]
    · rw [cs_c (by decide), cs_c (by decide)]
    · rw [cs_s, cs_c (k' := 60) (by decide)]
    · rw [ms_n _ _ (by decide), ms_n _ _ (by decide)]
    · rw [ms_n _ _ (by decide), ms_n _ _ (by decide)]
    · rw [ms_s, ms_n _ _ (show 14 ≠ 39 by decide)]
