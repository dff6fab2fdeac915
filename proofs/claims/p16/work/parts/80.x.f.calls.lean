/-! the calls, side by side -/
theorem zr_method {S : CST} {Sm : MST} {a l : Int32} (hJ : J S) (hM : MI Sm (cnP S)) (hR : PR S Sm) : wp_X11_method S a l (fun S' r => J S' ∧ wp_X12_method Sm a l (fun Sm' r' => FR (r = r') S' Sm')) := by
  have hM8 := hJ.1
  obtain ⟨hP0, hP8, hT, hlk, hz⟩ := hM.1
  have h11 := hJ.2.1
  have bad : zmeth a l = -2 → wp_X12_method Sm a l (fun Sm' r' => FR (-2 = r') S Sm') := fun z => sp_method hP0 hP8 (fun _ => ⟨hM, hR, rfl⟩) (fun w _ => absurd (z.symm.trans w) (by decide)) (fun w => absurd (z.symm.trans w) (by decide))
  have full : zmeth a l = 0 → cnP S = 8 → wp_X12_method Sm a l (fun Sm' r' => FR (-4 = r') S Sm') := fun z h8 => sp_method hP0 hP8 (fun w => absurd (z.symm.trans w) (by decide)) (fun _ _ => ⟨hM, hR, rfl⟩) (fun _ w => absurd h8 (by omega))
  unfold wp_X11_method
  refine ⟨fun c => ⟨hJ, bad (if_pos c)⟩, fun c1 => ⟨fun c => ⟨hJ, bad ?_⟩, fun c2 => ⟨fun c => ⟨hJ, bad ?_⟩, fun c3 => ⟨fun c4 => ?_, fun c4 => ⟨hJ, bad ?_⟩⟩⟩⟩⟩
  · unfold zmeth; rw [if_neg c1, if_pos c]
  · unfold zmeth; rw [if_neg c1, if_neg c2, if_pos c]
  rotate_left
  · unfold zmeth; rw [if_neg c1, if_neg c2, if_neg c3, if_neg c4]
  have z : zmeth a l = 0 := by unfold zmeth; rw [if_neg c1, if_neg c2, if_neg c3, if_pos c4]
  unfold wp_X0_tell
  refine ⟨fun c8 => ?_, fun c8 => ⟨hJ, full z ?_⟩⟩
  rotate_left
  · rw [h11] at c8
    exact Nat.le_antisymm hM8 (Nat.not_lt.mp (fun q => c8 (Int32.not_le.mp (nI_ge (b := 8) q (by omega)))))
  have hP : cnP S < 8 := by
    rw [h11] at c8
    exact Nat.not_le.mp (fun q => absurd c8 (Int32.not_lt.mpr (nI_le (a := 8) q (by omega))))
  refine ⟨hJ.2.2.1, by rw [h11]; exact nI_nn _ (by omega), by rw [h11]; exact nI_clamp (by omega), hP, fun S1 e1 S2 e2 S7 e7 => ?_⟩
  obtain ⟨q1, q2, q3⟩ := hJ.tell hP e1 e2 e7
  rw [q3, nI_m1 (by omega)]
  refine ⟨q2, ?_⟩
  have hc : (cv S 11 0 0).toNatClampNeg = cnP S := by rw [h11]; exact nI_clamp (by omega)
  have l2 : ∀ k i : Nat, k ≠ 11 → k ≠ 20 → cv S7 k i = cv S1 k i := fun k i a b => by
    rw [e7, cs_n _ _ (fun w => a w.1), e2, cs_n _ _ (fun w => b w.1)]
  have old : ∀ k i : Nat, k ≠ 11 → k ≠ 20 → ¬ (i = cnP S ∧ 240 ≤ k ∧ k < 320) → cv S7 k i = cv S k i := fun k i a b c => (l2 k i a b).trans (by rw [e1]; exact if_neg c)
  have new : ∀ k : Nat, 240 ≤ k → k < 320 → cv S7 k (cnP S) 0 = newP (cv S 11 0 0) a l k := fun k x y => by
    rw [l2 k _ (by omega) (by omega), e1, show cv (addP S (cv S 11 0 0) a l) k (cnP S) = fun _ => newP (cv S 11 0 0) a l k from if_pos ⟨rfl, x, y⟩]
  have v20 : ∀ j : Nat, cv S7 20 0 j = if j = cnP S then nI (cnP S) else cv S 20 0 j := fun j => by
    rw [e7, cs_n _ _ (fun w => absurd w.1 (by decide)), e2, cs_s, hc]
    show (if j = cnP S then nI (cnP S) else cv S1 20 0 j) = _
    rw [e1, show cv (addP S (cv S 11 0 0) a l) 20 0 = cv S 20 0 from if_neg (fun w => by omega)]
  have g : ∀ q : Nat, q ≠ 0 → q ≠ 1 → q ≠ 2 → mtS Sm (cnP S) a l q = Sm q := fun q x y z => by unfold mtS; rw [ms_n _ _ x, ms_n _ _ z, ms_n _ _ y]
  have g1 : mtS Sm (cnP S) a l 1 = upd (Sm 1) (cnP S) a := by unfold mtS; rw [ms_n _ _ (show 1 ≠ 0 by decide), ms_n _ _ (show 1 ≠ 2 by decide), ms_s]
  have g2 : mtS Sm (cnP S) a l 2 = upd (Sm 2) (cnP S) l := by unfold mtS; rw [ms_n _ _ (show 2 ≠ 0 by decide), ms_s]
  have key : PR S7 (mtS Sm (cnP S) a l) := by
    refine ⟨fun y hy => ?_, ?_⟩
    · rw [q1] at hy
      by_cases hyP : y = cnP S
      · subst hyP
        obtain ⟨z3, z6⟩ := hz _ (Nat.le_refl _) hP
        unfold PRy
        rw [v20, if_pos rfl, new 240 (by decide) (by decide), new 241 (by decide) (by decide), new 242 (by decide) (by decide), new 247 (by decide) (by decide), new 248 (by decide) (by decide), g1, g2, upd_s, upd_s, g 3 (by decide) (by decide) (by decide), g 6 (by decide) (by decide) (by decide)]
        refine ⟨rfl, h11, rfl, rfl, z3.symm, fun n i en hn hi => ?_, Or.inl ⟨rfl, z6⟩⟩
        have : n = 0 := nI_inj (a := n) (b := 0) en.symm (by omega) (by omega)
        omega
      · have hyo : y < cnP S := by omega
        refine (hR.1 y hyo).same (by rw [v20, if_neg hyP]) (fun k hk => old k y (by omega) (by omega) (by omega)) (fun k hk => ?_) (fun k j hk _ => by rw [g k (by omega) (by omega) (by omega)])
        rcases hk with rfl | rfl | rfl | rfl | rfl
        · rw [g1, upd_n _ _ hyP]
        · rw [g2, upd_n _ _ hyP]
        · rw [g 3 (by decide) (by decide) (by decide)]
        · rw [g 6 (by decide) (by decide) (by decide)]
        · rw [g 8 (by decide) (by decide) (by decide)]
    · rw [old 103 0 (by decide) (by decide) (by omega), g 9 (by decide) (by decide) (by decide)]
      exact hR.2
  exact an_X12_method (mi_method (Post := fun S' r => (zmeth a l = 0 → cnP S < 8 → MI S' (cnP S + 1))) hM (fun w => absurd (z.symm.trans w) (by decide)) (fun _ w => absurd w (by omega)) (fun _ _ S' m _ _ => m)) (sp_method (Post := fun Sm' r' => PR S7 Sm' ∧ nI (cnP S) = r') hP0 hP8 (fun w => absurd (z.symm.trans w) (by decide)) (fun _ w => absurd w (by omega)) (fun _ _ _ _ _ _ _ _ _ => ⟨key, rfl⟩)) (fun Sm' r' _ hm hq => ⟨by rw [q1]; exact hm z hP, hq⟩)
theorem zr_run {S : CST} {Sm : MST} {a b c d : Int32} (hJ : J S) (hM : MI Sm (cnP S)) (hR : PR S Sm) : wp_X11_run S a b c d (fun S' r => J S' ∧ wp_X12_run Sm a b c d (fun Sm' r' => FR True S' Sm')) := by
  have h1 := jm_run (a1 := a) (a2 := b) (a3 := c) (a4 := d) (Post := fun S' r => cnP S' = cnP S ∧ J S') hJ (fun S' r a b => ⟨a, b⟩)
  have h2 := mi_run (a := a) (b := b) (c := c) (d := d) (Post := fun S' r => MI S' (cnP S)) hM (fun S' r h => h)
  exact an_X11_run h1 h1 (fun S' r f hp _ => ⟨hp.2, an_X12_run h2 h2 (fun Sm' r' fm hm _ => ⟨by rw [hp.1]; exact hm, hR.frame f hp.1 rfl fm rfl, trivial⟩)⟩)
theorem zr_keep {S : CST} {Sm : MST} {a b : Int32} (hJ : J S) (hM : MI Sm (cnP S)) (hR : PR S Sm) : wp_X11_keep S a b (fun S' r => J S' ∧ wp_X12_keep Sm a b (fun Sm' r' => FR True S' Sm')) := by
  have h1 := jm_keep (a1 := a) (a2 := b) (Post := fun S' r => cnP S' = cnP S ∧ J S') hJ (fun S' r a b => ⟨a, b⟩)
  have h2 := mi_keep (a := a) (v := b) (Post := fun S' r => MI S' (cnP S)) hM (fun S' r h => h)
  exact an_X11_keep h1 h1 (fun S' r f hp _ => ⟨hp.2, an_X12_keep h2 h2 (fun Sm' r' fm hm _ => ⟨by rw [hp.1]; exact hm, hR.frame f hp.1 rfl fm rfl, trivial⟩)⟩)
theorem zr_lose {S : CST} {Sm : MST} {a : Int32} (hJ : J S) (hM : MI Sm (cnP S)) (hR : PR S Sm) : wp_X11_lose S a (fun S' r => J S' ∧ wp_X12_lose Sm a (fun Sm' r' => FR True S' Sm')) := by
  have h1 := jm_lose (a1 := a) (Post := fun S' r => cnP S' = cnP S ∧ J S') hJ (fun S' r a b => ⟨a, b⟩)
  have h2 := mi_lose (a := a) (Post := fun S' r => MI S' (cnP S)) hM (fun S' r h => h)
  exact an_X11_lose h1 h1 (fun S' r f hp _ => ⟨hp.2, an_X12_lose h2 h2 (fun Sm' r' fm hm _ => ⟨by rw [hp.1]; exact hm, hR.frame f hp.1 rfl fm rfl, trivial⟩)⟩)
theorem zr_fault {S : CST} {Sm : MST} (hR : PR S Sm) : wp_X11_fault S (fun r => wp_X12_fault Sm (fun r' => r = r')) := hR.2
theorem zr_depth {S : CST} {Sm : MST} {a x : Int32} (hJ : J S) (hM : MI Sm (cnP S)) (hR : PR S Sm) : wp_X11_depth S a x (fun r => wp_X12_depth Sm a x (fun r' => r = r')) := by
  have hM8 := hJ.1
  have hP0 := hM.1.1
  have ino : ∀ {m : Nat}, m < cnP S → a = nI m → (∀ z : Nat, z < cnP S → ¬ a = nI z) → False := fun hm e q => q _ hm e
  unfold wp_X11_depth
  refine xp_X0_at (BK.of hJ hR) (fun y hy e => ⟨fun q => absurd q (nI_nn y (by omega)), fun _ => ?_⟩) (fun hno => ⟨fun _ => ?_, fun q => absurd (by decide) q⟩)
  rotate_left
  · unfold wp_X12_depth
    exact sp_isMethod hP0 hM8 (fun _ => ⟨fun _ => rfl, fun q => absurd rfl q⟩) (fun m hm e => absurd e (hno m hm))
  rw [nI_clamp (by omega)]
  obtain ⟨ax, l, n, q1, q2, q3, q4, q5, q6, q7, q8, q9⟩ := hR.nums hM hy
  obtain ⟨a1, a2, a3, a4, a5, a6, a7⟩ := hR.1 y hy
  have hv : vp_in (nI y) 8 := vp_in_nI (by omega) (by omega)
  -- the reference's side, from here on
  have ref : ∀ r : Int32, ((∀ i : Nat, i < n → ¬ x = nI i) → r = -2) → (∀ i : Nat, i < n → x = nI i → (Sm 6 y = 0 → r = -1) ∧ (¬ Sm 6 y = 0 → r = Sm 7 (60 * y + i))) → wp_X12_depth Sm a x (fun r' => r = r') := by
    intro r h1 h2
    unfold wp_X12_depth
    refine sp_isMethod hP0 hM8 (fun q => absurd e (z_out (by omega) q y hy)) (fun m hm e2 => ⟨fun q => absurd q (by decide), fun _ => ?_⟩)
    obtain rfl : m = y := nI_inj (e2.symm.trans e) (by omega) (by omega)
    rw [e, nI_clamp (n := m) (by omega), q5]
    refine ⟨hv, sp_in0 (n := n) (by omega) rfl (fun q => ⟨fun q => absurd rfl q, fun _ => h1 (z_out (by omega) q)⟩) (fun i hi ei => ⟨fun _ => ⟨hv, fun q => (h2 i hi ei).1 q, fun q => ?_⟩, fun q => absurd q (by decide)⟩)⟩
    rw [ei, ix60, nI_clamp (by omega)]
    exact ⟨vp_in_nI (by omega) (by omega), (h2 i hi ei).2 q⟩
  refine ⟨cin_24 rfl hy, xp_X8_has hy q7 q6 (fun i hi ei => ⟨fun _ => ⟨cin_24 rfl hy, xp_X8_isRight hy (fun c => ⟨fun _ => ref (-1) (fun w => absurd ei (w i hi)) (fun j hj ej => ⟨fun _ => rfl, fun q => absurd ((PR.right (hR.1 y hy)).mp c) q⟩), fun q => absurd rfl q⟩) (fun c => ⟨fun q => absurd q (by decide), fun _ => ⟨cin_24 rfl hy, ?_⟩⟩)⟩, fun q => absurd q (by decide)⟩) (fun hno => ⟨fun q => absurd rfl q, fun _ => ref (-2) (fun _ => rfl) (fun i hi ei => absurd ei (hno i hi))⟩)⟩
  rw [ei]
  refine xp_X8_depthAt hy q7 q6 hi ?_
  rw [← ei]
  refine ref _ (fun w => absurd ei (w i hi)) (fun j hj ej => ⟨fun q => absurd ((PR.right (hR.1 y hy)).mpr q) c, fun _ => ?_⟩)
  obtain rfl : j = i := nI_inj (ej.symm.trans ei) (by omega) (by omega)
  rcases a7 with ⟨w, _⟩ | ⟨_, _, _, w⟩
  · exact absurd w c
  · exact w j (by omega)
