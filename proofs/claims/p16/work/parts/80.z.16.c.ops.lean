/-! BOTH at an INSTRUCTION: the ops, one by one -/
theorem ji_jmp {S : CST} {Sm : MST} {f s m n c i d o ax e : Nat} {x Dn : Int32} (h : StI S Sm f s m n c i d o ax e x Dn) {y : Nat} {K : CST → Prop} (hy : y < n) (hK : ∀ S1 : CST, jiD (ms (ms Sm 39 (upd (Sm 39) f (nI (i + 1)))) 41 (upd (Sm 41) f (nI e))) (nI f) (nI i) (nI y) 0 (fun Sm1 => OutR S1 Sm1) → K S1) : wp_X7_goTo (cs S 222 f (fun _ => nI (posN (lvC S m) i + 1))) f (nI y) (nI i) K := by
  obtain ⟨hM8, hC, hR, hf, hF, h37, h40, h221, h249, hc, h39, hi, hn60, h222, h41, hd8, ho, h4, hPl, hlv, hpo, htk, h8, he, hax, h43, hpc⟩ := id h
  have h340 := hPl.2.2.2.2.1 y hy
  have hcf : (nI f).toNatClampNeg = f := nI_clamp (by omega)
  have v16 : vp_in (nI f) 16 := vp_in_nI hf (by omega)
  have hit : nI i < nI y ↔ i < y := ⟨fun q => Nat.not_le.mp (fun w => absurd q (Int32.not_lt.mpr (nI_le w (by omega)))), fun q => Int32.not_le.mp (nI_ge q (by omega))⟩
  have g44 : (ms (ms Sm 39 (upd (Sm 39) f (nI (i + 1)))) 41 (upd (Sm 41) f (nI e))) 44 0 = nI s := by
    rw [ms_n _ _ (by decide), ms_n _ _ (by decide)]; exact hR.2.2.2.2.2.2.2.1
  have fin : ∀ (S1 : CST) (Sm1 : MST) (s1 : Nat), Ex [201, 222] S S1 → (∀ g : Nat, g ≠ f → cv S1 222 g = cv S 222 g) → cv S1 222 f 0 = nI (posN (lvC S m) y) → Fm [39, 41, 44] Sm Sm1 → (∀ g : Nat, g ≠ f → Sm1 39 g = Sm 39 g ∧ Sm1 41 g = Sm 41 g) → Sm1 39 f = nI y → cv S1 201 0 0 = nI s1 → Sm1 44 0 = nI s1 → s1 ≤ 1500 → OutR S1 Sm1 := fun S1 Sm1 s1 e1 o222 g222 em o39 g39 hs hs2 hs3 =>
    ji_to h (Ex.step e1 (by decide) Ex.rf) o222 (fun g _ => by rw [e1.2 230 rfl]) (Fm.step em (by decide) Fm.rf) o39 (fun g t _ _ => by rw [em 42 rfl]) (hR.2.1.same (e1.2 40 rfl) (e1.2 50 rfl) (e1.2 60 rfl) (em 12 rfl) (em 13 rfl) (em 14 rfl)) (fun t ht => by rw [e1.2 230 rfl, em 42 rfl]; exact hF.2.2.2 t ht) g222 g39 (by omega) hs hs2 hs3
  refine xr_goTo (c := c) (n := n) (s := s) (t := posN (lvC S m) y) hf (by rw [cs_c (by decide)]; exact h221) hc (by omega) (by rw [cs_c (by decide)]; exact hPl.2.2.1) hn60 hy (by omega) (by rw [cs_c (by decide)]; exact h340) (by rw [cs_c (by decide)]; exact hR.2.2.2.2.2.2.1) hR.2.2.2.2.2.2.2.2.1 (fun w => hK _ ?_) (fun w w2 => hK _ ?_) (fun w w2 => hK _ ?_)
  · unfold jiD
    refine ⟨fun _ => ?_, fun q => absurd (hit.mpr w) q⟩
    rw [hcf]
    refine ⟨v16, fun S16 e16 => w604 (fin _ S16 s ?_ ?_ ?_ ?_ ?_ ?_ ?_ ?_ hR.2.2.2.2.2.2.2.2.1)⟩
    · exact Ex.cs (by decide) (Ex.cs (by decide) Ex.rf)
    · intro g hg
      rw [cs_i hg, cs_i hg]
    · rw [cs_s]
    · rw [e16]; exact Fm.put rfl rfl (Fm.put rfl rfl (Fm.put rfl rfl Fm.rf))
    · intro g hg
      rw [e16, ms_s, upd_n _ _ hg, ms_n _ _ (show 39 ≠ 41 by decide), ms_s, upd_n _ _ hg, ms_n _ _ (show 41 ≠ 39 by decide), ms_s, upd_n _ _ hg]
      exact ⟨rfl, rfl⟩
    · rw [e16, ms_s, upd_s]
    · rw [cs_c (by decide), cs_c (by decide)]; exact hR.2.2.2.2.2.2.1
    · rw [e16, ms_n _ _ (by decide)]; exact g44
  · unfold jiD
    refine ⟨fun q => absurd (hit.mp q) w, fun _ => sp_stepOn g44 hR.2.2.2.2.2.2.2.2.1 (fun _ => ⟨fun q => absurd q (by decide), fun _ => ?_⟩) (fun q => absurd q (by omega))⟩
    rw [hcf]
    refine ⟨v16, fun S16 e16 => w604 (fin _ S16 (s + 1) ?_ ?_ ?_ ?_ ?_ ?_ ?_ ?_ (by omega))⟩
    · exact Ex.cs (by decide) (Ex.cs (by decide) (Ex.cs (by decide) Ex.rf))
    · intro g hg
      rw [cs_i hg, cs_c (by decide), cs_i hg]
    · rw [cs_s]
    · rw [e16]; exact Fm.put rfl rfl (Fm.put rfl rfl (Fm.put rfl rfl (Fm.put rfl rfl Fm.rf)))
    · intro g hg
      rw [e16, ms_s, upd_n _ _ hg, ms_n _ _ (show 39 ≠ 44 by decide), ms_n _ _ (show 39 ≠ 41 by decide), ms_s, upd_n _ _ hg, ms_n _ _ (show 41 ≠ 39 by decide), ms_n _ _ (show 41 ≠ 44 by decide), ms_s, upd_n _ _ hg]
      exact ⟨rfl, rfl⟩
    · rw [e16, ms_s, upd_s]
    · rw [cs_c (by decide), cs_s]
    · rw [e16, ms_n _ _ (by decide), ms_s]
  · unfold jiD
    refine ⟨fun q => absurd (hit.mp q) w, fun _ => sp_stepOn g44 hR.2.2.2.2.2.2.2.2.1 (fun q => absurd q (by omega)) (fun _ => ⟨fun _ => w604 (Or.inl ?_), fun q => absurd rfl q⟩)⟩
    have e1 : Ex [127, 201, 222] S (cs (cs (cs (cs S 222 f (fun _ => nI (posN (lvC S m) i + 1))) 201 0 (fun _ => nI (s + 1))) 127 0 (fun _ => 3)) 222 f (fun _ => nI (posN (lvC S m) y))) := Ex.cs (by decide) (Ex.cs (by decide) (Ex.cs (by decide) (Ex.cs (by decide) Ex.rf)))
    have em : Fm [39, 41, 43] Sm (ms (ms (ms Sm 39 (upd (Sm 39) f (nI (i + 1)))) 41 (upd (Sm 41) f (nI e))) 43 (fun _ => 3)) := Fm.put rfl rfl (Fm.put rfl rfl (Fm.put rfl rfl Fm.rf))
    obtain ⟨t1, t2, t3, t4, t5, t6, t7⟩ := hR.2.2.1
    exact ⟨⟨hR.1.ex e1 rfl em rfl, hR.2.1.same (e1.2 40 rfl) (e1.2 50 rfl) (e1.2 60 rfl) (em 12 rfl) (em 13 rfl) (em 14 rfl), by rw [e1.2 200 rfl, em 48 rfl]; exact t1, by rw [em 48 rfl]; exact t2, by rw [e1.2 202 rfl, em 45 rfl]; exact t3, by rw [e1.2 203 rfl, em 46 rfl]; exact t4, by rw [e1.2 204 rfl, em 47 rfl]; exact t5, by rw [e1.2 205 rfl, em 49 rfl]; exact t6, fun t ht => by rw [e1.2 210 rfl, em 50 rfl]; exact t7 t ht⟩, Or.inr (Or.inr ⟨by rw [ms_s], by rw [cs_c (by decide), cs_s]⟩)⟩
/-- whether an item is there, in both -/
theorem ji_there {S : CST} {Sm : MST} {f s m n c i d o ax e : Nat} {x Dn : Int32} (h : StI S Sm f s m n c i d o ax e x Dn) {r : Nat} {v : Int32} {Q : CST → Int32 → Prop} {G : (MST → Prop) → Int32 → Prop} (hRw : rowN Sm) (hr : r < 4) (hQ : ∀ S' : CST, TwR (wp_X12_goes Sm) S' → Q S' 0) (hg : ∀ Post : MST → Prop, wp_X12_refuses (ms (ms Sm 39 (upd (Sm 39) f (nI (i + 1)))) 41 (upd (Sm 41) f (nI e))) (nI r) v (G Post) → wj_X12_goes_134 (ms (ms Sm 39 (upd (Sm 39) f (nI (i + 1)))) 41 (upd (Sm 41) f (nI e))) (nI f) (nI i) (nI o) x (nI (15 * f + 7)) (nI d) (tvM Sm f d) 0 Post) (hG : ∀ (Post : MST → Prop) (no : Int32), ¬ no = 0 → (∀ Sx : MST, Fm [42] (ms (ms Sm 39 (upd (Sm 39) f (nI (i + 1)))) 41 (upd (Sm 41) f (nI e))) Sx → wp_X12_traps Sx no (nI i) (fun S2 => Post S2)) → G Post no)
    (hok : ∀ y nn : Nat, y < nn → nn ≤ 20 → cv (cs S 222 f (fun _ => nI (posN (lvC S m) i + 1))) 50 0 r = nI nn → v = nI y → (∀ Post : MST → Prop, G Post 0 → wj_X12_goes_134 (ms (ms Sm 39 (upd (Sm 39) f (nI (i + 1)))) 41 (upd (Sm 41) f (nI e))) (nI f) (nI i) (nI o) x (nI (15 * f + 7)) (nI d) (tvM Sm f d) 0 Post) → Q (cs S 222 f (fun _ => nI (posN (lvC S m) i + 1))) 1) : wp_X7_isThere (cs S 222 f (fun _ => nI (posN (lvC S m) i + 1))) f (nI r) v (nI i) Q := by
  have hD := h.2.2.1.2.1
  have hRw' : rowN (ms (ms Sm 39 (upd (Sm 39) f (nI (i + 1)))) 41 (upd (Sm 41) f (nI e))) := fun r' hr' => by rw [ms_n _ _ (by decide), ms_n _ _ (by decide)]; exact hRw r' hr'
  have el : cv (cs S 222 f (fun _ => nI (posN (lvC S m) i + 1))) 50 0 r = (ms (ms Sm 39 (upd (Sm 39) f (nI (i + 1)))) 41 (upd (Sm 41) f (nI e))) 13 r := by
    rw [cs_c (by decide), ms_n _ _ (by decide), ms_n _ _ (by decide)]; exact (hD.2 r hr).1
  refine xr_isThere hr (fun c2 => ji_trap h (by decide) hQ (fun Post w => hg Post (mr_refuses hr hRw' (fun _ => hG Post 2 (by decide) w) (fun nn hn q _ => ?_) (fun x nn hx hn q _ => ?_)))) (fun nn hn c3 hv => ji_trap h (by decide) hQ (fun Post w => hg Post (mr_refuses hr hRw' (fun q => ?_) (fun _ _ _ _ => hG Post 3 (by decide) w) (fun x nn' hx hn' q hq => ?_)))) (fun x nn hx hn c3 hv => hok x nn hx hn c3 hv (fun Post w => hg Post (mr_refuses hr hRw' (fun q => ?_) (fun nn' hn' q hq => ?_) (fun _ _ _ _ _ _ => w)))) (by rw [cs_c (by decide)]; exact hD.len hRw hr)
  · exact absurd (q.symm.trans (el.symm.trans c2)) (nI_neg1 (by omega))
  · exact absurd (q.symm.trans (el.symm.trans c2)) (nI_neg1 (by omega))
  · exact absurd (c3.symm.trans (el.trans q)) (nI_neg1 (by omega))
  · have : nn = nn' := nI_inj (c3.symm.trans (el.trans q)) (by omega) (by omega)
    exact absurd hq (hv x (by omega))
  · exact absurd (c3.symm.trans (el.trans q)) (nI_neg1 (by omega))
  · have : nn = nn' := nI_inj (c3.symm.trans (el.trans q)) (by omega) (by omega)
    exact absurd hv (hq x (by omega))
theorem zi_0 {S : CST} {Sm : MST} {f s m n c i d ax e : Nat} {x Dn : Int32} (h : StI S Sm f s m n c i d 0 ax e x Dn) : ResR S (wp_X12_goes Sm) := by
  obtain ⟨hM8, hC, hR, hf, hF, h37, h40, h221, h249, hc, h39, hi, hn60, h222, h41, hd8, ho, h4, hPl, hlv, hpo, htk, h8, he, hax, h43, hpc⟩ := id h
  simp [tkN, lyN] at htk h8
  refine ji_step h (k := nI 0) (dd := nI (7 + d)) (a := x) (b := 0) (by decide) (by have t : tpl 0 x (nI d) Dn = (0, 7 + nI d, x, 0) := rfl; rw [cd0] at t; exact t) (tu_0 ⟨cin_22 hf, xr_put hf (by omega) (Or.inl (ji_ref h (gi_0 ⟨by rw [rd0]; exact i15v hf (by omega), fun S11 e11 => w604 ?_⟩)))⟩)
  rw [e11, rd0, i15c hf (by omega)]
  exact ji_reg h (by decide) (by omega) x
theorem zi_1 {S : CST} {Sm : MST} {f s m n c i d ax e : Nat} {x Dn : Int32} (h : StI S Sm f s m n c i d 1 ax e x Dn) {l : Nat} (hl : l < 15) (hxl : x = nI l) : ResR S (wp_X12_goes Sm) := by
  obtain ⟨hM8, hC, hR, hf, hF, h37, h40, h221, h249, hc, h39, hi, hn60, h222, h41, hd8, ho, h4, hPl, hlv, hpo, htk, h8, he, hax, h43, hpc⟩ := id h
  simp [tkN, lyN] at htk h8
  refine ji_step h (k := nI 1) (dd := nI (7 + d)) (a := nI l) (b := 0) (by decide) (by have t : tpl 1 x (nI d) Dn = (1, 7 + nI d, x, 0) := rfl; rw [cd0, hxl] at t; rw [hxl]; exact t) (tu_1 ⟨cin_22 hf, xr_val hf hl ⟨cin_22 hf, xr_put hf (by omega) (Or.inl (ji_ref h (gi_1 ⟨by rw [hxl, ix15]; exact i15v hf hl, by rw [rd0]; exact i15v hf (by omega), fun S11 e11 => w604 ?_⟩)))⟩⟩)
  rw [e11, rd0, i15c hf (by omega), hxl, ix15, i15c hf hl, ← ji_v h hl]
  exact ji_reg h (by decide) (by omega) _
theorem zi_2 {S : CST} {Sm : MST} {f s m n c i d ax e : Nat} {x Dn : Int32} (h : StI S Sm f s m n c i d 2 ax e x Dn) {l : Nat} (hl : l < 15) (hxl : x = nI l) : ResR S (wp_X12_goes Sm) := by
  obtain ⟨hM8, hC, hR, hf, hF, h37, h40, h221, h249, hc, h39, hi, hn60, h222, h41, hd8, ho, h4, hPl, hlv, hpo, htk, h8, he, hax, h43, hpc⟩ := id h
  simp [tkN, lyN] at htk h8
  refine ji_step h (k := nI 1) (dd := nI l) (a := nI (7 + (d - 1))) (b := 0) (by decide) (by have t : tpl 2 x (nI d) Dn = (1, x, 7 + nI d - 1, 0) := rfl; rw [cd1 (by omega), hxl] at t; rw [hxl]; exact t) (tu_1 ⟨cin_22 hf, xr_val hf (by omega) ⟨cin_22 hf, xr_put hf hl (Or.inl (ji_ref h (gi_2 ⟨by rw [hxl, ix15]; exact i15v hf hl, fun S11 e11 => w604 ?_⟩)))⟩⟩)
  rw [e11, hxl, ix15, i15c hf hl, ji_tv h (by omega)]
  exact ji_reg h (by decide) (by omega) _
theorem zi_3 {S : CST} {Sm : MST} {f s m n c i d ax e : Nat} {x Dn : Int32} (h : StI S Sm f s m n c i d 3 ax e x Dn) : ResR S (wp_X12_goes Sm) := by
  obtain ⟨hM8, hC, hR, hf, hF, h37, h40, h221, h249, hc, h39, hi, hn60, h222, h41, hd8, ho, h4, hPl, hlv, hpo, htk, h8, he, hax, h43, hpc⟩ := id h
  simp [tkN, lyN] at htk h8
  refine ji_step h (k := nI 2) (dd := nI (7 + (d - 2))) (a := nI (7 + (d - 2))) (b := nI (7 + (d - 1))) (by decide) (by have t : tpl 3 x (nI d) Dn = (nI 3 - 3 + 2, 7 + nI d - 2, 7 + nI d - 2, 7 + nI d - 1) := rfl; rw [cd1 (by omega), cd2 (by omega), show (nI 3 - 3 + 2 : Int32) = nI 2 by decide] at t; exact t) (tu_2 ?_)
  unfold wp_X7_turnThatMayTrap
  refine ⟨fun _ => ⟨fun _ => ⟨cin_22 hf, xr_val hf (by omega) ⟨cin_22 hf, xr_val hf (by omega) (rk (by decide) (by decide) (fun q => absurd q (by decide)) ⟨cin_22 hf, xr_put hf (by omega) (Or.inl (ji_ref h (gi_3 ?_)))⟩)⟩⟩, fun q => absurd q (by decide)⟩, fun q => absurd q (by decide), fun q => absurd q (by decide), fun q => absurd q (by decide)⟩
  unfold wj_X12_goes_549
  rw [rd2 (by omega), i15c hf (by omega), ji_tv h (by omega), ← ji_v h (by omega)]
  refine ⟨fun _ => ⟨i15v hf (by omega), mg_sumOf (by decide) (by decide) (fun q => absurd q (by decide)) ⟨i15v hf (by omega), fun S6 e6 => w604 ?_⟩⟩, fun q => absurd q (by decide)⟩
  rw [e6]
  exact ji_reg h (by decide) (by omega) _
theorem zi_4 {S : CST} {Sm : MST} {f s m n c i d ax e : Nat} {x Dn : Int32} (h : StI S Sm f s m n c i d 4 ax e x Dn) : ResR S (wp_X12_goes Sm) := by
  obtain ⟨hM8, hC, hR, hf, hF, h37, h40, h221, h249, hc, h39, hi, hn60, h222, h41, hd8, ho, h4, hPl, hlv, hpo, htk, h8, he, hax, h43, hpc⟩ := id h
  simp [tkN, lyN] at htk h8
  refine ji_step h (k := nI 3) (dd := nI (7 + (d - 2))) (a := nI (7 + (d - 2))) (b := nI (7 + (d - 1))) (by decide) (by have t : tpl 4 x (nI d) Dn = (nI 4 - 3 + 2, 7 + nI d - 2, 7 + nI d - 2, 7 + nI d - 1) := rfl; rw [cd1 (by omega), cd2 (by omega), show (nI 4 - 3 + 2 : Int32) = nI 3 by decide] at t; exact t) (tu_3 ?_)
  unfold wp_X7_turnThatMayTrap
  refine ⟨fun _ => ⟨fun _ => ⟨cin_22 hf, xr_val hf (by omega) ⟨cin_22 hf, xr_val hf (by omega) (rk (by decide) (by decide) (fun q => absurd q (by decide)) ⟨cin_22 hf, xr_put hf (by omega) (Or.inl (ji_ref h (gi_4 ?_)))⟩)⟩⟩, fun q => absurd q (by decide)⟩, fun q => absurd q (by decide), fun q => absurd q (by decide), fun q => absurd q (by decide)⟩
  unfold wj_X12_goes_549
  rw [rd2 (by omega), i15c hf (by omega), ji_tv h (by omega), ← ji_v h (by omega)]
  refine ⟨fun _ => ⟨i15v hf (by omega), mg_sumOf (by decide) (by decide) (fun q => absurd q (by decide)) ⟨i15v hf (by omega), fun S6 e6 => w604 ?_⟩⟩, fun q => absurd q (by decide)⟩
  rw [e6]
  exact ji_reg h (by decide) (by omega) _
theorem zi_5 {S : CST} {Sm : MST} {f s m n c i d ax e : Nat} {x Dn : Int32} (h : StI S Sm f s m n c i d 5 ax e x Dn) : ResR S (wp_X12_goes Sm) := by
  obtain ⟨hM8, hC, hR, hf, hF, h37, h40, h221, h249, hc, h39, hi, hn60, h222, h41, hd8, ho, h4, hPl, hlv, hpo, htk, h8, he, hax, h43, hpc⟩ := id h
  simp [tkN, lyN] at htk h8
  refine ji_step h (k := nI 4) (dd := nI (7 + (d - 2))) (a := nI (7 + (d - 2))) (b := nI (7 + (d - 1))) (by decide) (by have t : tpl 5 x (nI d) Dn = (nI 5 - 3 + 2, 7 + nI d - 2, 7 + nI d - 2, 7 + nI d - 1) := rfl; rw [cd1 (by omega), cd2 (by omega), show (nI 5 - 3 + 2 : Int32) = nI 4 by decide] at t; exact t) (tu_4 ?_)
  unfold wp_X7_turnThatMayTrap
  refine ⟨fun _ => ⟨fun _ => ⟨cin_22 hf, xr_val hf (by omega) ⟨cin_22 hf, xr_val hf (by omega) (rk (by decide) (by decide) (fun q => absurd q (by decide)) ⟨cin_22 hf, xr_put hf (by omega) (Or.inl (ji_ref h (gi_5 ?_)))⟩)⟩⟩, fun q => absurd q (by decide)⟩, fun q => absurd q (by decide), fun q => absurd q (by decide), fun q => absurd q (by decide)⟩
  unfold wj_X12_goes_549
  rw [rd2 (by omega), i15c hf (by omega), ji_tv h (by omega), ← ji_v h (by omega)]
  refine ⟨fun _ => ⟨i15v hf (by omega), mg_sumOf (by decide) (by decide) (fun q => absurd q (by decide)) ⟨i15v hf (by omega), fun S6 e6 => w604 ?_⟩⟩, fun q => absurd q (by decide)⟩
  rw [e6]
  exact ji_reg h (by decide) (by omega) _
theorem zi_7 {S : CST} {Sm : MST} {f s m n c i d ax e : Nat} {x Dn : Int32} (h : StI S Sm f s m n c i d 7 ax e x Dn) : ResR S (wp_X12_goes Sm) := by
  obtain ⟨hM8, hC, hR, hf, hF, h37, h40, h221, h249, hc, h39, hi, hn60, h222, h41, hd8, ho, h4, hPl, hlv, hpo, htk, h8, he, hax, h43, hpc⟩ := id h
  simp [tkN, lyN] at htk h8
  refine ji_step h (k := nI 6) (dd := nI (7 + (d - 2))) (a := nI (7 + (d - 2))) (b := nI (7 + (d - 1))) (by decide) (by have t : tpl 7 x (nI d) Dn = (nI 7 - 3 + 2, 7 + nI d - 2, 7 + nI d - 2, 7 + nI d - 1) := rfl; rw [cd1 (by omega), cd2 (by omega), show (nI 7 - 3 + 2 : Int32) = nI 6 by decide] at t; exact t) (tu_6 ?_)
  unfold wp_X7_turnThatMayTrap
  refine ⟨fun _ => ⟨fun _ => ⟨cin_22 hf, xr_val hf (by omega) ⟨cin_22 hf, xr_val hf (by omega) (rk (by decide) (by decide) (fun q => absurd q (by decide)) ⟨cin_22 hf, xr_put hf (by omega) (Or.inl (ji_ref h (gi_7 ?_)))⟩)⟩⟩, fun q => absurd q (by decide)⟩, fun q => absurd q (by decide), fun q => absurd q (by decide), fun q => absurd q (by decide)⟩
  unfold wj_X12_goes_549
  rw [rd2 (by omega), i15c hf (by omega), ji_tv h (by omega), ← ji_v h (by omega)]
  refine ⟨fun _ => ⟨i15v hf (by omega), mg_sumOf (by decide) (by decide) (fun q => absurd q (by decide)) ⟨i15v hf (by omega), fun S6 e6 => w604 ?_⟩⟩, fun q => absurd q (by decide)⟩
  rw [e6]
  exact ji_reg h (by decide) (by omega) _
theorem zi_8 {S : CST} {Sm : MST} {f s m n c i d ax e : Nat} {x Dn : Int32} (h : StI S Sm f s m n c i d 8 ax e x Dn) : ResR S (wp_X12_goes Sm) := by
  obtain ⟨hM8, hC, hR, hf, hF, h37, h40, h221, h249, hc, h39, hi, hn60, h222, h41, hd8, ho, h4, hPl, hlv, hpo, htk, h8, he, hax, h43, hpc⟩ := id h
  simp [tkN, lyN] at htk h8
  refine ji_step h (k := nI 7) (dd := nI (7 + (d - 2))) (a := nI (7 + (d - 2))) (b := nI (7 + (d - 1))) (by decide) (by have t : tpl 8 x (nI d) Dn = (nI 8 - 3 + 2, 7 + nI d - 2, 7 + nI d - 2, 7 + nI d - 1) := rfl; rw [cd1 (by omega), cd2 (by omega), show (nI 8 - 3 + 2 : Int32) = nI 7 by decide] at t; exact t) (tu_7 ?_)
  unfold wp_X7_turnThatMayTrap
  refine ⟨fun _ => ⟨fun _ => ⟨cin_22 hf, xr_val hf (by omega) ⟨cin_22 hf, xr_val hf (by omega) (rk (by decide) (by decide) (fun q => absurd q (by decide)) ⟨cin_22 hf, xr_put hf (by omega) (Or.inl (ji_ref h (gi_8 ?_)))⟩)⟩⟩, fun q => absurd q (by decide)⟩, fun q => absurd q (by decide), fun q => absurd q (by decide), fun q => absurd q (by decide)⟩
  unfold wj_X12_goes_549
  rw [rd2 (by omega), i15c hf (by omega), ji_tv h (by omega), ← ji_v h (by omega)]
  refine ⟨fun _ => ⟨i15v hf (by omega), mg_sumOf (by decide) (by decide) (fun q => absurd q (by decide)) ⟨i15v hf (by omega), fun S6 e6 => w604 ?_⟩⟩, fun q => absurd q (by decide)⟩
  rw [e6]
  exact ji_reg h (by decide) (by omega) _
theorem zi_6 {S : CST} {Sm : MST} {f s m n c i d ax e : Nat} {x Dn : Int32} (h : StI S Sm f s m n c i d 6 ax e x Dn) : ResR S (wp_X12_goes Sm) := by
  obtain ⟨hM8, hC, hR, hf, hF, h37, h40, h221, h249, hc, h39, hi, hn60, h222, h41, hd8, ho, h4, hPl, hlv, hpo, htk, h8, he, hax, h43, hpc⟩ := id h
  simp [tkN, lyN] at htk h8
  refine ji_step h (k := nI 5) (dd := nI (7 + (d - 2))) (a := nI (7 + (d - 2))) (b := nI (7 + (d - 1))) (by decide) (by have t : tpl 6 x (nI d) Dn = (nI 6 - 3 + 2, 7 + nI d - 2, 7 + nI d - 2, 7 + nI d - 1) := rfl; rw [cd1 (by omega), cd2 (by omega), show (nI 6 - 3 + 2 : Int32) = nI 5 by decide] at t; exact t) (tu_5 ?_)
  unfold wp_X7_turnThatMayTrap
  refine ⟨fun _ => ⟨fun q => absurd (by decide) q, fun _ => ⟨cin_22 hf, xr_val hf (by omega) ⟨fun nz => ⟨cin_22 hf, xr_val hf (by omega) ⟨cin_22 hf, xr_val hf (by omega) (rk (by decide) (by decide) (fun _ => nz) ⟨cin_22 hf, xr_put hf (by omega) (Or.inl (ji_ref h (gi_6 ?_)))⟩)⟩⟩, fun z0 => ji_trap h (by decide) (fun _ w => w) (fun Post w => gi_6 ?_)⟩⟩⟩, fun q => absurd q (by decide), fun q => absurd q (by decide), fun q => absurd q (by decide)⟩
  · unfold wj_X12_goes_549
    rw [rd2 (by omega), i15c hf (by omega), ji_tv h (by omega), ← ji_v h (by omega)]
    refine ⟨fun q => absurd (by decide) q, fun _ => ⟨fun _ => ⟨i15v hf (by omega), mg_sumOf (by decide) (by decide) (fun _ => nz) ⟨i15v hf (by omega), fun S6 e6 => w604 ?_⟩⟩, fun z => absurd z nz⟩⟩
    rw [e6]
    exact ji_reg h (by decide) (by omega) _
  · unfold wj_X12_goes_549
    exact ⟨fun q => absurd (by decide) q, fun _ => ⟨fun nz => absurd ((ji_tv h (by omega)).trans z0) nz, fun _ => w604t (by decide) (w _ Fm.rf)⟩⟩
theorem zi_9 {S : CST} {Sm : MST} {f s m n c i d ax e : Nat} {x Dn : Int32} (h : StI S Sm f s m n c i d 9 ax e x Dn) {y : Nat} (hy : y < n) (hxy : x = nI y) : ResR S (wp_X12_goes Sm) := by
  obtain ⟨hM8, hC, hR, hf, hF, h37, h40, h221, h249, hc, h39, hi, hn60, h222, h41, hd8, ho, h4, hPl, hlv, hpo, htk, h8, he, hax, h43, hpc⟩ := id h
  exact ji_step h (k := nI 8) (dd := nI y) (a := 0) (b := 0) (by decide) (by have t : tpl 9 x (nI d) Dn = (8, x, 0, 0) := rfl; rw [hxy] at t; rw [hxy]; exact t) (tu_8 (ji_jmp h hy (fun S1 w => Or.inl (ji_ref h (gi_9 (by rw [hxy]; exact w))))))
theorem zi_10 {S : CST} {Sm : MST} {f s m n c i d ax e : Nat} {x Dn : Int32} (h : StI S Sm f s m n c i d 10 ax e x Dn) {y : Nat} (hy : y < n) (hxy : x = nI y) : ResR S (wp_X12_goes Sm) := by
  obtain ⟨hM8, hC, hR, hf, hF, h37, h40, h221, h249, hc, h39, hi, hn60, h222, h41, hd8, ho, h4, hPl, hlv, hpo, htk, h8, he, hax, h43, hpc⟩ := id h
  simp [tkN, lyN] at htk h8
  have ev := ji_tv h (by omega)
  refine ji_step h (k := nI 9) (dd := nI y) (a := nI (7 + (d - 1))) (b := 0) (by decide) (by have t : tpl 10 x (nI d) Dn = (9, x, 7 + nI d - 1, 0) := rfl; rw [cd1 (by omega), hxy] at t; rw [hxy]; exact t) (tu_9 ⟨cin_22 hf, xr_val hf (by omega) ⟨fun nz => Or.inl (ji_ref h (gi_10 ⟨fun _ => w604 ?_, fun z => absurd (ev.symm.trans z) nz⟩)), fun z => ji_jmp h hy (fun S1 w => Or.inl (ji_ref h (gi_10 ⟨fun nz => absurd (ev.trans z) nz, fun _ => by rw [hxy]; exact w⟩)))⟩⟩)
  exact ji_row h (by decide) Ex.rf Fm.rf (ji_D h)
theorem zi_11 {S : CST} {Sm : MST} {f s m n c i d ax e : Nat} {x Dn : Int32} (h : StI S Sm f s m n c i d 11 ax e x Dn) {M y : Nat} (hM : cnP S = M) (hJ : J S) (hRI : RI Sm M (f + 1)) (hy : y < M) (hxy : x = nI y) (hax1 : Sm 1 y = nI ax) (hax3 : ax ≤ 3) (hDn : Dn = nI (d - ax + 1)) : ResR S (wp_X12_goes Sm) := by
  obtain ⟨hM8, hC, hR, hf, hF, h37, h40, h221, h249, hc, h39, hi, hn60, h222, h41, hd8, ho, h4, hPl, hlv, hpo, htk, h8, he, hax, h43, hpc⟩ := id h
  have hm := hF.1
  have hxd : ax ≤ d := by simp [tkN] at htk; exact htk
  have hd7 : d - ax ≤ 7 := by
    have q := h8
    simp [tkN, lyN] at q
    omega
  have v16 : vp_in (nI f) 16 := vp_in_nI hf (by omega)
  have v8 : vp_in (nI y) 8 := vp_in_nI (by omega) (by omega)
  have hcf : (nI f).toNatClampNeg = f := nI_clamp (by omega)
  have g126 : cv (cs S 222 f (fun _ => nI (posN (lvC S m) i + 1))) 126 0 0 = nI (f + 1) := by rw [cs_c (by decide)]; exact hR.2.2.2.1
  have back : ∀ S26 : MST, S26 = ms (ms (ms Sm 39 (upd (Sm 39) f (nI (i + 1)))) 41 (upd (Sm 41) f (nI e))) 39 (upd ((ms (ms Sm 39 (upd (Sm 39) f (nI (i + 1)))) 41 (upd (Sm 41) f (nI e))) 39) (nI f : Int32).toNatClampNeg (nI i)) → S26 = Sm := fun S26 e26 => by
    rw [if_pos rfl] at he
    rw [e26, hcf]
    funext q
    by_cases w : q = 39
    · rw [w, ms_s, ms_n _ _ (by decide), ms_s]
      funext g
      by_cases w2 : g = f
      · rw [w2, upd_s]; exact h39.symm
      · rw [upd_n _ _ w2, upd_n _ _ w2]
    · rw [ms_n _ _ w]
      by_cases w3 : q = 41
      · rw [w3, ms_s]
        funext g
        by_cases w2 : g = f
        · rw [w2, upd_s, he]; exact h41.symm
        · rw [upd_n _ _ w2]
      · rw [ms_n _ _ w3, ms_n _ _ w]
  have eb : (nI (15 * f + 7) + nI d - nI ax : Int32) = nI (15 * f + (7 + (d - ax))) := by
    rw [nI_add, nI_sub (by omega)]; congr 1; omega
  refine ji_step h (k := nI 10) (dd := nI (7 + (d - ax))) (a := nI y) (b := 0) (by decide) (by have t : tpl 11 x (nI d) Dn = (10, 7 + Dn - 1, x, 0) := rfl; rw [hDn, cd1 (by omega), Nat.add_sub_cancel, hxy] at t; rw [hxy, hDn]; exact t) (tu_10 ?_)
  rcases Nat.lt_or_ge (f + 1) 16 with w | w
  · refine xr_call hf (by omega) g126 w (fun S' hE h128 h129 h140 => Or.inr ⟨?_, ?_, ?_⟩)
    · rw [hE.2 127 rfl, cs_c (by decide)]; exact hR.2.2.2.2.1
    · rw [h128]; exact nI_neg1 (by omega)
    · have eS : Ex [128, 129, 140, 222] S S' := Ex.step hE (by decide) (Ex.cs (by decide) Ex.rf)
      have p1 : cnP S' = cnP S := congrArg Prod.fst eS.1
      have p2 : cnC S' = cnC S := congrArg Prod.snd eS.1
      have elv : lvC S' m = lvC S m := funext fun i => by unfold lvC; rw [eS.2 250 rfl, eS.2 270 rfl]
      have hCa : CaR S' Sm (f + 1) s y ax (fun t => if t < ax then Sm 42 (15 * f + (7 + (d - ax)) + t) else 0) := by
        obtain ⟨t1, t2, t3, t4, t5, t6, t7⟩ := hR.2.2.1
        refine ⟨hR.1.ex eS rfl (Fm.rf (L := [])) rfl, hR.2.1.same (eS.2 40 rfl) (eS.2 50 rfl) (eS.2 60 rfl) rfl rfl rfl, ⟨by rw [eS.2 200 rfl]; exact t1, t2, by rw [eS.2 202 rfl]; exact t3, by rw [eS.2 203 rfl]; exact t4, by rw [eS.2 204 rfl]; exact t5, by rw [eS.2 205 rfl]; exact t6, fun t ht => by rw [eS.2 210 rfl]; exact t7 t ht⟩, by rw [eS.2 126 rfl]; exact hR.2.2.2.1, by rw [eS.2 127 rfl]; exact hR.2.2.2.2.1, h128, by rw [eS.2 201 rfl]; exact hR.2.2.2.2.2.2.1, hR.2.2.2.2.2.2.2.1, hR.2.2.2.2.2.2.2.2.1, by omega, w, fun t ht => ?_, fun g hg => ?_⟩
        · show cv S' 140 0 t = if t < ax then Sm 42 (15 * f + (7 + (d - ax)) + t) else 0
          rw [h140 t (by omega), if_pos (by omega), if_pos ht, cs_c (by decide), hF.2.2.2 (7 + (d - ax) + t) (by omega), Nat.add_assoc (15 * f)]
        · by_cases q : g = f
          · subst q
            exact ⟨m, 7 + (d - ax), by omega, hF.keep p1 (by rw [eS.2 220 rfl]) (by rw [eS.2 230 rfl]) rfl (fun _ _ => rfl), Or.inl ⟨h40, i, c, y, ax, d, by omega, h39, by rw [eS.2 221 rfl]; exact h221, by rw [eS.2 249 rfl]; exact h249, by omega, by rw [hE.2 222 rfl, cs_s, elv], by rw [elv]; exact hlv (by decide), h4.2.trans hxy, by omega, hax1, h41, hxd, by omega⟩, fun q => absurd q (by omega), fun _ => h129⟩
          · obtain ⟨m', dd, w1, w2, w3, w4⟩ := hR.2.2.2.2.2.2.2.2.2.2 g (by omega)
            have hm' := w2.1
            exact ⟨m', dd, w1, w2.keep p1 (by rw [eS.2 220 rfl]) (by rw [eS.2 230 rfl]) rfl (fun _ _ => rfl), w3.keep (by omega) (by omega) (by rw [eS.2 221 rfl]) (by rw [hE.2 222 rfl, cs_i q]) (eS.2 249 rfl) (eS.2 250 rfl) (eS.2 270 rfl) rfl rfl rfl rfl rfl (fun _ _ => rfl) (fun _ _ _ _ _ _ _ _ _ _ _ _ hx => hx.ex eS rfl (Fm.rf (L := [])) rfl), fun _ => by rw [eS.2 223 rfl]; exact w4, fun q => absurd q (by omega)⟩
      have key := zc_call_r (Post := fun S2 Sm2 => wj_X12_goes_604 Sm2 (nI i) 0 (fun Sm1 => OutR S2 Sm1)) (b := 15 * f + (7 + (d - ax))) (a4 := nI i) (p1.trans hM) (hJ.ex eS rfl) hRI.1 hCa h37 hax1 (by omega) (by omega) (fun t ht => if_pos ht) (fun t ht _ => if_neg (by omega)) (hRI.codes (by omega)) (fun S' Sm' w => w604 (Or.inl w)) (fun S' Sm' _ w1 w2 w => w604 (Or.inr ⟨_, _, by omega, w1, w2.trans h43, w⟩))
      refine mono_begin key (fun S2 k2 => mono_choosePath k2 (fun S3 k3 => ji_ref h (gi_11 ⟨v16, fun S26 e26 => ?_⟩)))
      rw [back S26 e26, hxy, nI_clamp (n := y) (by omega), hax1, eb]
      exact ⟨v8, k3⟩
  · unfold wp_X7_call
    rw [g126]
    refine ⟨fun q => absurd q (Int32.not_lt.mpr (nI_le (a := 16) w (by omega))), fun _ => xr_trap hf (show m < cnP S from hF.1) (by omega) (by rw [cs_c (by decide)]; exact hF.2.1) (by rw [cs_c (by decide)]; exact (hR.1.1.1 m hF.1).2.1) (F := nI (f + 1)) g126 (fun S' t => Or.inl (ji_ref h (gi_11 ⟨v16, fun S26 e26 => ?_⟩)))⟩
    rw [back S26 e26, hxy]
    refine ⟨v8, ?_⟩
    unfold wp_X12_call_r
    rw [h37]
    have h16 : (nI (f + 1) : Int32) = 16 := by rw [show f + 1 = 16 by omega]; rfl
    exact ⟨fun q => absurd h16 q, fun _ => mr_traps h37 hf hF.2.2.1 (fun Sm1 tm => w604 (Or.inl (EnR.trap hR.1 hR.2.1 hR.2.2.1 (Ex.cs (by decide) Ex.rf) Fm.rf t tm)))⟩
theorem zi_12 {S : CST} {Sm : MST} {f s m n c i d ax e : Nat} {x Dn : Int32} (h : StI S Sm f s m n c i d 12 ax e x Dn) : ResR S (wp_X12_goes Sm) := by
  obtain ⟨hM8, hC, hR, hf, hF, h37, h40, h221, h249, hc, h39, hi, hn60, h222, h41, hd8, ho, h4, hPl, hlv, hpo, htk, h8, he, hax, h43, hpc⟩ := id h
  simp [tkN, lyN] at htk h8
  refine ji_step h (k := nI 11) (dd := 0) (a := nI (7 + (d - 1))) (b := 0) (by decide) (by have t : tpl 12 x (nI d) Dn = (11, 0, 7 + nI d - 1, 0) := rfl; rw [cd1 (by omega)] at t; exact t) (tu_11 ⟨cin_22 hf, xr_val hf (by omega) ?_⟩)
  have key := zc_ret (Sp := (cs S 222 f (fun _ => nI (posN (lvC S m) i + 1)))) (Smp := (ms (ms Sm 39 (upd (Sm 39) f (nI (i + 1)))) 41 (upd (Sm 41) f (nI e)))) (v := cv (cs S 222 f (fun _ => nI (posN (lvC S m) i + 1))) 230 f (7 + (d - 1))) (Post := fun S1 Sm1 => wj_X12_goes_604 Sm1 (nI i) 0 (fun Sm2 => OutR S1 Sm2)) hM8 hC hR hf h37 (Ex.cs (by decide) Ex.rf) (fun g hg => cs_i hg) (Fm.put rfl rfl (Fm.put rfl rfl Fm.rf)) (fun g hg => ⟨by rw [ms_n _ _ (by decide), ms_s, upd_n _ _ hg], by rw [ms_s, upd_n _ _ hg]⟩) (fun S' Sm' w => w604 (Or.inl w)) (fun S' Sm' _ w1 w2 w => w604 (Or.inr ⟨_, _, by omega, w1, w2.trans h43, w⟩))
  exact mono_giveBack key (fun S' k => Or.inl (ji_ref h (gi_12 (by rw [ji_tv h (by omega)]; exact k))))
theorem zi_13 {S : CST} {Sm : MST} {f s m n c i d ax e : Nat} {x Dn : Int32} (h : StI S Sm f s m n c i d 13 ax e x Dn) {q : Nat} (hq : q < 8) (hxq : x = nI q) : ResR S (wp_X12_goes Sm) := by
  obtain ⟨hM8, hC, hR, hf, hF, h37, h40, h221, h249, hc, h39, hi, hn60, h222, h41, hd8, ho, h4, hPl, hlv, hpo, htk, h8, he, hax, h43, hpc⟩ := id h
  simp [tkN, lyN] at htk h8
  have ef : (ms (ms Sm 39 (upd (Sm 39) f (nI (i + 1)))) 41 (upd (Sm 41) f (nI e))) 12 (nI q : Int32).toNatClampNeg = cv (cs S 222 f (fun _ => nI (posN (lvC S m) i + 1))) 40 0 q := by
    rw [nI_clamp (by omega)]
    exact ((ji_D h).1 q hq).symm
  refine ji_step h (k := nI 12) (dd := nI (7 + d)) (a := nI q) (b := 0) (by decide) (by have t : tpl 13 x (nI d) Dn = (12, 7 + nI d, x, 0) := rfl; rw [cd0, hxq] at t; rw [hxq]; exact t) (tu_12 (xr_fval hq ⟨cin_22 hf, xr_put hf (by omega) (Or.inl (ji_ref h (gi_13 ⟨by rw [hxq]; exact vp_in_nI hq (by omega), by rw [rd0]; exact i15v hf (by omega), fun S11 e11 => w604 ?_⟩)))⟩))
  rw [e11, rd0, i15c hf (by omega), hxq, ef]
  exact ji_reg h (by decide) (by omega) _
theorem zi_14 {S : CST} {Sm : MST} {f s m n c i d ax e : Nat} {x Dn : Int32} (h : StI S Sm f s m n c i d 14 ax e x Dn) {q : Nat} (hq : q < 8) (hxq : x = nI q) : ResR S (wp_X12_goes Sm) := by
  obtain ⟨hM8, hC, hR, hf, hF, h37, h40, h221, h249, hc, h39, hi, hn60, h222, h41, hd8, ho, h4, hPl, hlv, hpo, htk, h8, he, hax, h43, hpc⟩ := id h
  simp [tkN, lyN] at htk h8
  refine ji_step h (k := nI 13) (dd := nI q) (a := nI (7 + (d - 1))) (b := 0) (by decide) (by have t : tpl 14 x (nI d) Dn = (13, x, 7 + nI d - 1, 0) := rfl; rw [cd1 (by omega), hxq] at t; rw [hxq]; exact t) (tu_13 ⟨cin_22 hf, xr_val hf (by omega) (xr_fput hq (Or.inl (ji_ref h (gi_14 ⟨by rw [hxq]; exact vp_in_nI hq (by omega), fun S11 e11 => w604 ?_⟩))))⟩)
  rw [e11, hxq, nI_clamp (n := q) (by omega), ji_tv h (by omega)]
  exact ji_row h (by decide) (Ex.cs (by decide) Ex.rf) (Fm.put rfl rfl Fm.rf) ((ji_D h).field hq (cs_s _ _ _ _) (cs_c (by decide)) (cs_c (by decide)) (ms_s _ _ _) (ms_n _ _ (by decide)) (ms_n _ _ (by decide)))
theorem zi_15 {S : CST} {Sm : MST} {f s m n c i d ax e : Nat} {x Dn : Int32} (h : StI S Sm f s m n c i d 15 ax e x Dn) {r : Nat} (hr : r < 4) (hxr : x = nI r) : ResR S (wp_X12_goes Sm) := by
  obtain ⟨hM8, hC, hR, hf, hF, h37, h40, h221, h249, hc, h39, hi, hn60, h222, h41, hd8, ho, h4, hPl, hlv, hpo, htk, h8, he, hax, h43, hpc⟩ := id h
  simp [tkN, lyN] at htk h8
  have ev := ji_tv h (by omega)
  refine ji_step h (k := nI 14) (dd := nI r) (a := nI (7 + (d - 1))) (b := 0) (by decide) (by have t : tpl 15 x (nI d) Dn = (14, x, 7 + nI d - 1, 0) := rfl; rw [cd1 (by omega), hxr] at t; rw [hxr]; exact t) (tu_14 ?_)
  unfold wp_X7_turnThatMayTrap
  refine ⟨fun q => absurd q (by decide), fun _ => ⟨cin_22 hf, xr_val hf (by omega) ?_⟩, fun q => absurd q (by decide), fun q => absurd q (by decide)⟩
  unfold wp_X7_newRow
  refine ⟨fun c0 => ⟨fun c1 => xr_renew hr (Int32.not_lt.mpr (Int32.le_trans (by decide) c0)) (Int32.not_lt.mpr c1) (fun S' hE h50 h60 => Or.inl (ji_ref h (gi_15 ?_))), fun c1 => ji_trap h (by decide) (fun _ w => w) (fun Post w => gi_15 ?_)⟩, fun c0 => ji_trap h (by decide) (fun _ w => w) (fun Post w => gi_15 ?_)⟩
  · rw [ev, hxr]
    refine mr_makesRow hr (fun q => absurd c0 (Int32.not_le.mpr q)) (fun _ q => absurd c1 (Int32.not_le.mpr q)) (fun nn Sm1 hnn hv hEm h13 h14 => w604 (ji_row h (by decide) (Ex.step hE (by decide) Ex.rf) (Fm.step hEm (by decide) Fm.rf) ?_))
    exact (ji_D h).row hr hnn (hE.2 40 rfl) (by rw [h50, hv]) h60 (hEm 12 rfl) h13 h14
  · rw [ev, hxr]
    exact mr_makesRow hr (fun q => absurd c0 (Int32.not_le.mpr q)) (fun _ _ => w604t (by decide) (w _ Fm.rf)) (fun nn Sm1 hnn hv _ _ _ => absurd (by rw [hv]; exact nI_le (b := 20) hnn (by omega)) c1)
  · rw [ev, hxr]
    exact mr_makesRow hr (fun _ => w604t (by decide) (w _ Fm.rf)) (fun q _ => absurd (Int32.not_lt.mp q) c0) (fun nn Sm1 hnn hv _ _ _ => absurd (by rw [hv]; exact nI_pos' (by omega)) c0)
theorem zi_16 {S : CST} {Sm : MST} {f s m n c i d ax e : Nat} {x Dn : Int32} (h : StI S Sm f s m n c i d 16 ax e x Dn) {r : Nat} (hRw : rowN Sm) (hr : r < 4) (hxr : x = nI r) : ResR S (wp_X12_goes Sm) := by
  obtain ⟨hM8, hC, hR, hf, hF, h37, h40, h221, h249, hc, h39, hi, hn60, h222, h41, hd8, ho, h4, hPl, hlv, hpo, htk, h8, he, hax, h43, hpc⟩ := id h
  simp [tkN, lyN] at htk h8
  have ev := ji_tv h (by omega)
  refine ji_step h (k := nI 15) (dd := nI (7 + (d - 1))) (a := nI r) (b := nI (7 + (d - 1))) (by decide) (by have t : tpl 16 x (nI d) Dn = (15, 7 + nI d - 1, x, 7 + nI d - 1) := rfl; rw [cd1 (by omega), hxr] at t; rw [hxr]; exact t) (tu_15 ?_)
  unfold wp_X7_turnThatMayTrap
  refine ⟨fun q => absurd q (by decide), fun q => absurd q (by decide), fun _ => ⟨cin_22 hf, xr_val hf (by omega) ?_⟩, fun q => absurd q (by decide)⟩
  refine ji_there h hRw hr (G := fun Post r34 => ((¬ ((r34 : Int32) = 0)) → (vp_in ((nI (15 * f + 7) + nI d) - 1) 240 ∧ (∀ S36 : MST, S36 = ms (ms (ms Sm 39 (upd (Sm 39) f (nI (i + 1)))) 41 (upd (Sm 41) f (nI e))) 42 (upd ((ms (ms Sm 39 (upd (Sm 39) f (nI (i + 1)))) 41 (upd (Sm 41) f (nI e))) 42) ((nI (15 * f + 7) + nI d) - 1 : Int32).toNatClampNeg (tvM Sm f d)) → (wj_X12_goes_604 S36 (nI i) r34 Post)))) ∧ (((r34 : Int32) = 0) → (vp_in ((20 * nI r) + (tvM Sm f d)) 80 ∧ (vp_in ((nI (15 * f + 7) + nI d) - 1) 240 ∧ (∀ S38 : MST, S38 = ms (ms (ms Sm 39 (upd (Sm 39) f (nI (i + 1)))) 41 (upd (Sm 41) f (nI e))) 42 (upd ((ms (ms Sm 39 (upd (Sm 39) f (nI (i + 1)))) 41 (upd (Sm 41) f (nI e))) 42) ((nI (15 * f + 7) + nI d) - 1 : Int32).toNatClampNeg ((ms (ms Sm 39 (upd (Sm 39) f (nI (i + 1)))) 41 (upd (Sm 41) f (nI e))) 14 ((20 * nI r) + (tvM Sm f d) : Int32).toNatClampNeg)) → (wj_X12_goes_604 S38 (nI i) r34 Post)))))) (fun S' w => ⟨fun _ => w, fun q => absurd rfl q⟩) (fun Post w => gi_16 (by rw [hxr]; rw [← ev] at w; exact w)) (fun Post no hn w => ⟨fun _ => ⟨by rw [rd1 (by omega)]; exact i15v hf (by omega), fun S36 e36 => w604t hn (w S36 (Fm.put e36 rfl Fm.rf))⟩, fun q => absurd q hn⟩) (fun x0 nn hx0 hnn hl hv hp => ⟨fun q => absurd q (by decide), fun _ => ⟨cin_22 hf, xr_val hf (by omega) ?_⟩⟩)
  have hv' : tvM Sm f d = nI x0 := ev.trans hv
  rw [hv]
  refine xr_itemOf hr hl hnn hx0 ⟨cin_22 hf, xr_put hf (by omega) (Or.inl (ji_ref h (hp _ ⟨fun q => absurd rfl q, fun _ => ⟨?_, ?_, fun S38 e38 => w604 ?_⟩⟩)))⟩
  · rw [hv', ix20]; exact vp_in_nI (by omega) (by omega)
  · rw [rd1 (by omega)]; exact i15v hf (by omega)
  · rw [hv', ix20, nI_clamp (n := 20 * r + x0) (by omega), rd1 (by omega), i15c hf (by omega)] at e38
    have ei : (ms (ms Sm 39 (upd (Sm 39) f (nI (i + 1)))) 41 (upd (Sm 41) f (nI e))) 14 (20 * r + x0) = cv (cs S 222 f (fun _ => nI (posN (lvC S m) i + 1))) 60 0 (20 * r + x0) := (((ji_D h).2 r hr).2 nn x0 (((ji_D h).2 r hr).1.symm.trans hl) hnn hx0).symm
    rw [e38, ei]
    exact ji_reg h (by decide) (by omega) _
theorem zi_17 {S : CST} {Sm : MST} {f s m n c i d ax e : Nat} {x Dn : Int32} (h : StI S Sm f s m n c i d 17 ax e x Dn) {r : Nat} (hRw : rowN Sm) (hr : r < 4) (hxr : x = nI r) : ResR S (wp_X12_goes Sm) := by
  obtain ⟨hM8, hC, hR, hf, hF, h37, h40, h221, h249, hc, h39, hi, hn60, h222, h41, hd8, ho, h4, hPl, hlv, hpo, htk, h8, he, hax, h43, hpc⟩ := id h
  simp [tkN, lyN] at htk h8
  have ev := ji_tv h (by omega)
  have ew : (ms (ms Sm 39 (upd (Sm 39) f (nI (i + 1)))) 41 (upd (Sm 41) f (nI e))) 42 (nI (15 * f + 7) + nI d - 2 : Int32).toNatClampNeg = cv (cs S 222 f (fun _ => nI (posN (lvC S m) i + 1))) 230 f (7 + (d - 2)) := by
    rw [rd2 (by omega), i15c hf (by omega), ji_v h (by omega)]
  refine ji_step h (k := nI 16) (dd := nI r) (a := nI (7 + (d - 2))) (b := nI (7 + (d - 1))) (by decide) (by have t : tpl 17 x (nI d) Dn = (16, x, 7 + nI d - 2, 7 + nI d - 1) := rfl; rw [cd1 (by omega), cd2 (by omega), hxr] at t; rw [hxr]; exact t) (tu_16 ?_)
  unfold wp_X7_turnThatMayTrap
  refine ⟨fun q => absurd q (by decide), fun q => absurd q (by decide), fun q => absurd q (by decide), fun _ => ⟨cin_22 hf, xr_val hf (by omega) ?_⟩⟩
  refine ji_there h hRw hr (G := fun Post r40 => ((¬ ((r40 : Int32) = 0)) → (wj_X12_goes_604 (ms (ms Sm 39 (upd (Sm 39) f (nI (i + 1)))) 41 (upd (Sm 41) f (nI e))) (nI i) r40 Post)) ∧ (((r40 : Int32) = 0) → (vp_in ((nI (15 * f + 7) + nI d) - 2) 240 ∧ (vp_in ((20 * nI r) + ((ms (ms Sm 39 (upd (Sm 39) f (nI (i + 1)))) 41 (upd (Sm 41) f (nI e))) 42 ((nI (15 * f + 7) + nI d) - 2 : Int32).toNatClampNeg)) 80 ∧ (∀ S43 : MST, S43 = ms (ms (ms Sm 39 (upd (Sm 39) f (nI (i + 1)))) 41 (upd (Sm 41) f (nI e))) 14 (upd ((ms (ms Sm 39 (upd (Sm 39) f (nI (i + 1)))) 41 (upd (Sm 41) f (nI e))) 14) ((20 * nI r) + ((ms (ms Sm 39 (upd (Sm 39) f (nI (i + 1)))) 41 (upd (Sm 41) f (nI e))) 42 ((nI (15 * f + 7) + nI d) - 2 : Int32).toNatClampNeg) : Int32).toNatClampNeg (tvM Sm f d)) → (wj_X12_goes_604 S43 (nI i) r40 Post)))))) (fun S' w => ⟨fun _ => w, fun q => absurd rfl q⟩) (fun Post w => gi_17 ⟨by rw [rd2 (by omega)]; exact i15v hf (by omega), by rw [hxr]; rw [← ew] at w; exact w⟩) (fun Post no hn w => ⟨fun _ => w604t hn (w _ Fm.rf), fun q => absurd q hn⟩) (fun x0 nn hx0 hnn hl hv hp => ⟨fun q => absurd q (by decide), fun _ => ⟨cin_22 hf, xr_val hf (by omega) ⟨cin_22 hf, xr_val hf (by omega) ?_⟩⟩⟩)
  have hw' : (ms (ms Sm 39 (upd (Sm 39) f (nI (i + 1)))) 41 (upd (Sm 41) f (nI e))) 42 (nI (15 * f + 7) + nI d - 2 : Int32).toNatClampNeg = nI x0 := ew.trans hv
  rw [hv]
  refine xr_putItem hr hl hnn hx0 (Or.inl (ji_ref h (hp _ ⟨fun q => absurd rfl q, fun _ => ⟨?_, ?_, fun S43 e43 => w604 ?_⟩⟩)))
  · rw [rd2 (by omega)]; exact i15v hf (by omega)
  · rw [hw', ix20]; exact vp_in_nI (by omega) (by omega)
  · rw [hw', ix20, nI_clamp (n := 20 * r + x0) (by omega), ev] at e43
    rw [e43]
    exact ji_row h (by decide) (Ex.cs (by decide) Ex.rf) (Fm.put rfl rfl Fm.rf) ((ji_D h).item (cs_c (by decide)) (cs_c (by decide)) (cs_s _ _ _ _) (ms_n _ _ (by decide)) (ms_n _ _ (by decide)) (ms_s _ _ _))
theorem zi_18 {S : CST} {Sm : MST} {f s m n c i d ax e : Nat} {x Dn : Int32} (h : StI S Sm f s m n c i d 18 ax e x Dn) : ResR S (wp_X12_goes Sm) := by
  obtain ⟨hM8, hC, hR, hf, hF, h37, h40, h221, h249, hc, h39, hi, hn60, h222, h41, hd8, ho, h4, hPl, hlv, hpo, htk, h8, he, hax, h43, hpc⟩ := id h
  simp [tkN, lyN] at htk h8
  refine ji_step h (k := nI 1) (dd := nI (7 + d)) (a := nI (7 + (d - 1))) (b := 0) (by decide) (by have t : tpl 18 x (nI d) Dn = (1, 7 + nI d, 7 + nI d - 1, 0) := rfl; rw [cd1 (by omega), cd0] at t; exact t) (tu_1 ⟨cin_22 hf, xr_val hf (by omega) ⟨cin_22 hf, xr_put hf (by omega) (Or.inl (ji_ref h (gi_18 ⟨by rw [rd0]; exact i15v hf (by omega), fun S11 e11 => w604 ?_⟩)))⟩⟩)
  rw [e11, rd0, i15c hf (by omega), ji_tv h (by omega)]
  exact ji_reg h (by decide) (by omega) _
theorem zi_19 {S : CST} {Sm : MST} {f s m n c i d ax e : Nat} {x Dn : Int32} (h : StI S Sm f s m n c i d 19 ax e x Dn) : ResR S (wp_X12_goes Sm) := by
  obtain ⟨hM8, hC, hR, hf, hF, h37, h40, h221, h249, hc, h39, hi, hn60, h222, h41, hd8, ho, h4, hPl, hlv, hpo, htk, h8, he, hax, h43, hpc⟩ := id h
  refine Or.inl (ji_ref h (gi_19 (w604 ?_)))
  have em : Fm [12, 13, 14, 39, 41, 42, 44] Sm (ms (ms Sm 39 (upd (Sm 39) f (nI (i + 1)))) 41 (upd (Sm 41) f (nI e))) := Fm.put rfl rfl (Fm.put rfl rfl Fm.rf)
  refine ji_to h Ex.rf (fun _ _ => rfl) (fun _ _ => rfl) em (fun g hg => ⟨?_, ?_⟩) (fun g t hg ht => ?_) (hR.2.1.same rfl rfl rfl (by rw [ms_n _ _ (by decide), ms_n _ _ (by decide)]) (by rw [ms_n _ _ (by decide), ms_n _ _ (by decide)]) (by rw [ms_n _ _ (by decide), ms_n _ _ (by decide)])) (fun t ht => ?_) (z := i + 1) (s1 := s) ?_ ?_ (by omega) hR.2.2.2.2.2.2.1 ?_ hR.2.2.2.2.2.2.2.2.1
  · rw [ms_n _ _ (by decide), ms_s, upd_n _ _ hg]
  · rw [ms_s, upd_n _ _ hg]
  · rw [ms_n _ _ (by decide), ms_n _ _ (by decide)]
  · rw [ms_n _ _ (by decide), ms_n _ _ (by decide)]; exact hF.2.2.2 t ht
  · rw [posN_n (hpo rfl)]; exact h222
  · rw [ms_n _ _ (by decide), ms_s, upd_s]
  · rw [ms_n _ _ (by decide), ms_n _ _ (by decide)]; exact hR.2.2.2.2.2.2.2.1
