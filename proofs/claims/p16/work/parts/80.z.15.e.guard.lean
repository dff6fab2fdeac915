/-! BOTH at a PART: GUARDs -/
theorem gdT_inj {val : Nat → Int32} {i i' : Int32} {u t : Nat} (hu : u < 11) (ht : t < 11) (e : gdT val i u = gdT val i' t) : u = t := by
  unfold gdT at e
  by_cases a : u < 3
  · by_cases b : t < 3
    · rw [if_pos a, if_pos b] at e
      exact nI_inj (congrArg (fun z : T5 => z.2.1) e) (by omega) (by omega)
    · rw [if_pos a, if_neg b] at e
      exact absurd (show (17 : Int32) = 18 from congrArg (fun z : T5 => z.1) e) (by decide)
  · by_cases b : t < 3
    · rw [if_neg a, if_pos b] at e
      exact absurd (show (18 : Int32) = 17 from congrArg (fun z : T5 => z.1) e) (by decide)
    · rw [if_neg a, if_neg b] at e
      have : u - 3 = t - 3 := nI_inj (congrArg (fun z : T5 => z.2.1) e) (by omega) (by omega)
      omega
theorem mono_fails {S : MST} {a b c : Int32} {P Q : MST → Prop} (h : wp_X12_fails S a b c P) (hq : ∀ S' : MST, P S' → Q S') : wp_X12_fails S a b c Q := an_X12_fails h h (fun S' _ p _ => hq S' p)
/-- where a GUARD stands -/
def GuS (h0 p t w : Nat) (P : Nat → T5) : Prop := p < h0 ∨ (h0 ≤ p ∧ (P p).1 = 18 ∧ ∃ p0 : Nat, h0 ≤ p0 ∧ p0 < p ∧ (P p0).1 = 10 ∧ (P p0).2.2.2.2 = nI w ∧ ∀ r : Nat, p0 < r → r ≤ p → (P r).1 = 18 ∧ (P r).2.2.2.2 = (P p0).2.2.2.2)
theorem js_gok {S : CST} {Sm : MST} {f s m j c N h0 n p : Nat} {P : Nat → T5} {as : Nat → Bool} {val : Nat → Int32} {st : Nat → Nat} (h : StP S Sm f s m j c N h0 n p P as val st) {t : Nat} {i0 : Int32} (ht : t < 11) (eP : P p = gdT val i0 t) (hold : OkT Sm f val t) : ∀ u : Nat, u < 11 → as u = true → OkT Sm f val u ∨ PeT val N P (p + 1) u := by
  obtain ⟨hM8, hC, hR, hf, hF, h37, h40, hj, h221, hc, hx, h39, hp, h222, h43, hok⟩ := h
  intro u hu ha
  rcases hok u hu ha with w | ⟨p', a1, a2, a3, i1, a4⟩
  · exact Or.inl w
  · by_cases w : p' = p
    · rw [w, eP] at a4
      obtain rfl : t = u := gdT_inj ht hu a4
      exact Or.inl hold
    · exact Or.inr ⟨p', by omega, a2, fun r x y => a3 r (by omega) y, i1, a4⟩
theorem js_fail {S : CST} {Sm : MST} {f s m j c N h0 n p : Nat} {P : Nat → T5} {as : Nat → Bool} {val : Nat → Int32} {st : Nat → Nat} (h : StP S Sm f s m j c N h0 n p P as val st) {M t w k : Nat} {K : CST → Prop} (hM : cnP S = M) (hMB : MB Sm M) (ht : t < 11) (hi : (P p).2.2.2.2 = nI w) (hsh : GuS h0 p t w P) (hw : h0 ≤ p → w + 1 < n) (hk : Sm 17 m = nI k) (hjk : j < k) (hk12 : k ≤ 12) (hK : ∀ S1 : CST, wp_X12_fails (ms Sm 39 (upd (Sm 39) f (nI (p + 1)))) (nI f) (nI (640 * (12 * m + j) + p)) (nI t) (fun Sm1 => OutR S1 Sm1) → K S1) : wp_X7_guard (cs S 222 f (fun _ => nI (p + 1))) f (nI t) 0 (nI w) K := by
  obtain ⟨hM8, hC, hR, hf, hF, h37, h40, hj, h221, hc, hx, h39, hp, h222, h43, hok⟩ := id h
  obtain ⟨x1, x2, x3, x4, x5, x6, ⟨c1, c2, c3, c4, c5, c6⟩, m1, m2, m3⟩ := id hx
  have hm := hF.1
  have h61 := hMB.1.1.2.1 m (by omega)
  obtain ⟨pa1, pa2, pa3, pa4, pa5, pa6, pa7⟩ := hR.1.1.1 m hF.1
  have h248 : ¬ cv S 248 m 0 = -1 := fun w => by
    rcases pa7 with v | v
    · rw [v.2] at h61; exact absurd h61 (by decide)
    · obtain ⟨_, v2, ⟨bb, hb8, v3⟩, _⟩ := v
      rw [v2, v3] at w; exact nI_neg1 (by omega) w
  obtain ⟨pl, n', g1, g2, g3, g4, g5⟩ := hR.1.2.2.1 m hF.1 h248
  obtain rfl : n' = n := nI_inj (g3.symm.trans (pa5.trans x1)) (by omega) (by omega)
  have g25 : ∀ q : Nat, q < N → (ms Sm 39 (upd (Sm 39) f (nI (p + 1)))) 25 (640 * (12 * m + j) + q) = (P q).1 ∧ (ms Sm 39 (upd (Sm 39) f (nI (p + 1)))) 29 (640 * (12 * m + j) + q) = (P q).2.2.2.2 := fun q hq => by
    rw [ms_n _ _ (by decide), ms_n _ _ (by decide)]
    exact ⟨(m2 q hq).1, (m2 q hq).2.2.2.2⟩
  have hcb : h0 ≤ N := x5.1
  refine xr_guard (S := (cs S 222 f (fun _ => nI (p + 1)))) (y := m) (cd := c) (pl := pl) (h := h0) (n := n') (place := p + 1) (tt := posN (lvC S m) (w + 1)) (w := w) hf hF.1 (by omega) ht (by rw [cs_c (by decide)]; exact hF.2.1) (by rw [cs_c (by decide)]; exact h221) hc (by omega) (by rw [cs_c (by decide)]; exact c2) (by omega) (by rw [cs_s]) (by omega) (by rw [cs_c (by decide)]; exact g1) g2 (by omega) (by rw [cs_c (by decide)]; exact g5.2.2.1) x2 rfl (fun q => ⟨hw (by omega), by rw [cs_c (by decide)]; exact g5.2.2.2.2.1 (w + 1) (hw (by omega))⟩) (fun S' hG => hK S' ?_)
  have h38' : (ms Sm 39 (upd (Sm 39) f (nI (p + 1)))) 38 f = nI m := by rw [ms_n _ _ (by decide)]; exact hF.2.2.1
  have hk' : (ms Sm 39 (upd (Sm 39) f (nI (p + 1)))) 17 m = nI k := by rw [ms_n _ _ (by decide)]; exact hk
  rcases hsh with hlt | ⟨hge, h18, p0, hp0, hpp, e10, ew0, hbt⟩
  · rw [if_neg (by omega)] at hG
    refine mr_fails (i' := 0) (w := w) hf (by omega) (by omega) (by omega) ht h38' hk' (by omega) hk12 (by omega) (Or.inl ⟨rfl, fun _ q hq => ?_⟩) (fun Sm1 hfm => Or.inr ⟨f + 1, s, by omega, by rw [hfm.1 37 rfl, ms_n _ _ (by decide)]; exact h37, by rw [hfm.1 43 rfl, ms_n _ _ (by decide)]; exact h43, jn_fail hM8 hR hF h40 hj h221 hc hx ht hk (by omega) hk12 (by omega) g1 g2 rfl rfl hG hfm rfl⟩)
    rw [(g25 q (by omega)).1]
    obtain ⟨t', _, _, ep⟩ := x5.2.1 q (by omega)
    rw [ep]
    intro q10
    rcases gdT_op (val := val) (i := 0) (t := t') with v | v
    · rw [q10] at v; exact absurd v (by decide)
    · rw [q10] at v; exact absurd v (by decide)
  · rw [if_pos (by omega)] at hG
    have hw1 := hw hge
    refine mr_fails (i' := w + 1) (w := w) hf (by omega) (by omega) (by omega) ht h38' hk' (by omega) hk12 (by omega) (Or.inr ⟨rfl, by rw [(g25 p hp).2]; exact hi, by rw [(g25 p hp).1]; exact h18, p0, hpp, by rw [(g25 p0 (by omega)).1]; exact e10, by rw [(g25 p0 (by omega)).2, (g25 p hp).2]; exact (hbt p hpp (Nat.le_refl _)).2.symm, fun q x y => ?_⟩) (fun Sm1 hfm => Or.inr ⟨f + 1, s, by omega, by rw [hfm.1 37 rfl, ms_n _ _ (by decide)]; exact h37, by rw [hfm.1 43 rfl, ms_n _ _ (by decide)]; exact h43, jn_fail hM8 hR hF h40 hj h221 hc hx ht hk (by omega) hk12 (by omega) g1 g2 rfl rfl hG hfm rfl⟩)
    rw [(g25 q (by omega)).1, (g25 q (by omega)).2, (g25 p hp).2]
    exact ⟨(hbt q x (by omega)).1, (hbt q x (by omega)).2.trans (hbt p hpp (Nat.le_refl _)).2.symm⟩
theorem zs_17 {S : CST} {Sm : MST} {f s m j c N h0 n p : Nat} {P : Nat → T5} {as : Nat → Bool} {val : Nat → Int32} {st : Nat → Nat} (h : StP S Sm f s m j c N h0 n p P as val st) {M t w k : Nat} (hM : cnP S = M) (hMB : MB Sm M) (ht : t < 3) (eP : P p = gdT val (nI w) t) (hsh : GuS h0 p t w P) (hw : h0 ≤ p → w + 1 < n) (hk : Sm 17 m = nI k) (hjk : j < k) (hk12 : k ≤ 12) : ResR S (wp_X12_goesByPart Sm) := by
  have hf := h.2.2.2.1
  have e : P p = (nI 17, nI t, val t, 0, nI w) := eP.trans (if_pos ht)
  have ev : (ms Sm 39 (upd (Sm 39) f (nI (p + 1)))) 42 (nI (15 * f) + nI t : Int32).toNatClampNeg = cv (cs S 222 f (fun _ => nI (p + 1))) 230 f t := by rw [rgc hf (by omega), js_v h (by omega)]
  refine js_step h e (tu_17 ⟨cin_22 hf, xr_val hf (by omega) ⟨fun ne => ?_, fun eq => ?_⟩⟩)
  · exact js_fail h hM hMB (by omega) (by rw [e]) hsh hw hk hjk hk12 (fun S1 q => Or.inl (js_ref h e (gp_17 ⟨rgv hf (by omega), fun c => absurd (ev.symm.trans c) ne, fun _ => mono_fails q (fun _ w => w649 w)⟩)))
  · unfold wp_X7_guard
    refine ⟨fun q => absurd q (by decide), fun _ => Or.inl (js_ref h e (gp_17 ⟨rgv hf (by omega), fun _ => w649 (js_id h (js_gok h (by omega) eP ?_)), fun c => absurd (ev.trans eq) c⟩))⟩
    unfold OkT
    rw [if_pos ht, ← eq, cs_c (by decide)]
    exact (h.2.2.2.2.1.2.2.2 t (by omega)).symm
theorem zs_18 {S : CST} {Sm : MST} {f s m j c N h0 n p : Nat} {P : Nat → T5} {as : Nat → Bool} {val : Nat → Int32} {st : Nat → Nat} (h : StP S Sm f s m j c N h0 n p P as val st) {M t w k : Nat} (hM : cnP S = M) (hMB : MB Sm M) (ht3 : 3 ≤ t) (ht : t < 11) (eP : P p = gdT val (nI w) t) (hsh : GuS h0 p t w P) (hw : h0 ≤ p → w + 1 < n) (hk : Sm 17 m = nI k) (hjk : j < k) (hk12 : k ≤ 12) : ResR S (wp_X12_goesByPart Sm) := by
  have hf := h.2.2.2.1
  have e : P p = (nI 18, nI (t - 3), val t, 0, nI w) := eP.trans (if_neg (by omega))
  have ef : (ms Sm 39 (upd (Sm 39) f (nI (p + 1)))) 12 (nI (t - 3) : Int32).toNatClampNeg = cv (cs S 222 f (fun _ => nI (p + 1))) 40 0 (t - 3) := by
    rw [nI_clamp (by omega), ms_n _ _ (by decide), cs_c (by decide)]
    exact (h.2.2.1.2.1.1 (t - 3) (by omega)).symm
  have e3 : (3 : Int32) + nI (t - 3) = nI t := by rw [show (3 : Int32) + nI (t - 3) = nI (3 + (t - 3)) from nI_add 3 _, show 3 + (t - 3) = t by omega]
  have v8 : vp_in (nI (t - 3)) 8 := vp_in_nI (by omega) (by omega)
  refine js_step h e (tu_18 (xr_fval (by omega) ⟨fun ne => ?_, fun eq => ?_⟩))
  · rw [e3]
    exact js_fail h hM hMB ht (by rw [e]) hsh hw hk hjk hk12 (fun S1 q => Or.inl (js_ref h e (gp_18 ⟨v8, fun c => absurd (ef.symm.trans c) ne, fun _ => by rw [e3]; exact mono_fails q (fun _ w => w649 w)⟩)))
  · unfold wp_X7_guard
    refine ⟨fun q => absurd q (by decide), fun _ => Or.inl (js_ref h e (gp_18 ⟨v8, fun _ => w649 (js_id h (js_gok h ht eP ?_)), fun c => absurd (ef.trans eq) c⟩))⟩
    unfold OkT
    rw [if_neg (by omega), ← eq, cs_c (by decide)]
    exact (h.2.2.1.2.1.1 (t - 3) (by omega)).symm
