/-! BOTH at an INSTRUCTION: what all ops share -/
/-- the call on top stands at INSTRUCTION i, with its depth; x its operand -/
def StI (S : CST) (Sm : MST) (f s m n c i d o ax e : Nat) (x Dn : Int32) : Prop := cnP S ≤ 8 ∧ cnC S ≤ 2 ^ 31 ∧ RnR S Sm (f + 1) s ∧ f < 16 ∧ FrC S Sm f m ∧ Sm 37 0 = nI (f + 1) ∧ Sm 40 f = -1 ∧ cv S 221 f 0 = nI c ∧ cv S 249 m 0 = nI c ∧ c < cnC S ∧ Sm 39 f = nI i ∧ i < n ∧ n ≤ 60 ∧ cv S 222 f 0 = nI (posN (lvC S m) i) ∧ Sm 41 f = nI d ∧ d ≤ 8 ∧ o < 20 ∧ (Sm 4 (60 * m + i) = nI o ∧ Sm 5 (60 * m + i) = x) ∧ PlC S m c n ∧ (¬ o = 19 → lvC S m i = true) ∧ (o = 19 → lvC S m i = false) ∧ tkN o ax ≤ d ∧ d - tkN o ax + lyN o ≤ 8 ∧ e = (if o = 11 then d else d - tkN o ax + lyN o) ∧ (o = 11 → ∃ y : Nat, y < 8 ∧ x = nI y ∧ Sm 1 y = nI ax) ∧ Sm 43 0 = 0 ∧
  (¬ o = 19 → cv S 330 c (5 * posN (lvC S m) i) = (tpl o x (nI d) Dn).1 ∧ cv S 330 c (5 * posN (lvC S m) i + 1) = (tpl o x (nI d) Dn).2.1 ∧ cv S 330 c (5 * posN (lvC S m) i + 2) = (tpl o x (nI d) Dn).2.2.1 ∧ cv S 330 c (5 * posN (lvC S m) i + 3) = (tpl o x (nI d) Dn).2.2.2 ∧ cv S 330 c (5 * posN (lvC S m) i + 4) = nI i)
/-- what lies on top -/
def tvM (Sm : MST) (f d : Nat) : Int32 := if d = 0 then 0 else Sm 42 (15 * f + 7 + d - 1)
theorem ji_step {S : CST} {Sm : MST} {f s m n c i d o ax e : Nat} {x Dn : Int32} (h : StI S Sm f s m n c i d o ax e x Dn) {k dd a b : Int32} (hq : ¬ o = 19) (et : tpl o x (nI d) Dn = (k, dd, a, b)) (hb : tuD (cs S 222 f (fun _ => nI (posN (lvC S m) i + 1))) f k dd a b (nI i) (TwR (wp_X12_goes Sm))) : ResR S (wp_X12_goes Sm) := by
  obtain ⟨hM8, hC, hR, hf, hF, h37, h40, h221, h249, hc, h39, hi, hn60, h222, h41, hd8, ho, h4, hPl, hlv, hpo, htk, h8, he, hax, h43, hpc⟩ := h
  obtain ⟨q0, q1, q2, q3, q4⟩ := hpc hq
  rw [et] at q0 q1 q2 q3
  have hm := hF.1
  obtain ⟨_, _, _, c339, _⟩ := hPl
  have hpN := posN_lt hi (hlv hq)
  have hN := posN_le (lvC S m) n
  exact ResR.two (xt_turn hR.2.2.2.1 hf hF.2.1 (by omega) h221 hc (by omega) h222 c339 (by omega) hpN q0 q1 q2 q3 q4 hb)
theorem ji_ref {S : CST} {Sm : MST} {f s m n c i d o ax e : Nat} {x Dn : Int32} (h : StI S Sm f s m n c i d o ax e x Dn) {Post : MST → Prop} (hg : wj_X12_goes_134 (ms (ms Sm 39 (upd (Sm 39) f (nI (i + 1)))) 41 (upd (Sm 41) f (nI e))) (nI f) (nI i) (nI o) x (nI (15 * f + 7)) (nI d) (tvM Sm f d) 0 Post) : wp_X12_goes Sm Post := by
  obtain ⟨hM8, hC, hR, hf, hF, h37, h40, h221, h249, hc, h39, hi, hn60, h222, h41, hd8, ho, h4, hPl, hlv, hpo, htk, h8, he, hax, h43, hpc⟩ := h
  have hm := hF.1
  have v16 : vp_in (nI f) 16 := vp_in_nI (by omega) (by omega)
  have v480 : vp_in (nI (60 * m + i)) 480 := vp_in_nI (by omega) (by omega)
  unfold wp_X12_goes
  rw [h37, nI_m1 (n := f + 1) (by omega), show f + 1 - 1 = f by omega, nI_clamp (n := f) (by omega), hF.2.2.1, h39, h41, ix60, nI_clamp (n := 60 * m + i) (by omega), h4.1, h4.2, show (15 : Int32) * nI f + 7 = nI (15 * f + 7) from ix15 f 7]
  have go : ∀ v : Int32, v = tvM Sm f d → wj_X12_goes_87 Sm (nI f) (nI i) (nI o) x (nI (15 * f + 7)) (nI d) v Post := by
    rintro _ rfl
    unfold wj_X12_goes_87
    rw [nI_clamp (n := f) (by omega), nI_1]
    refine ⟨v16, fun S45 e45 => ⟨fun n11 => ?_, fun e11 => ⟨v16, fun S50 e50 => ?_⟩⟩⟩
    · have o11 : ¬ o = 11 := fun q => n11 (by rw [q]; rfl)
      refine sp_takes (ax := ax) ho (fun q => absurd q o11) (sp_lays ho ⟨v16, fun S49 e49 => ?_⟩)
      rw [if_neg o11] at he
      rw [nI_sub htk, nI_add, ← he, e45, ms_n _ _ (show 41 ≠ 39 by decide)] at e49
      rw [e49]; exact hg
    · have o11 : o = 11 := nI_inj (b := 11) e11 (by omega) (by omega)
      rw [if_pos o11] at he
      rw [← he, e45, ms_n _ _ (show 41 ≠ 39 by decide)] at e50
      rw [e50, ← he]
      rw [he] at hg ⊢
      exact hg
  have d0 : d = 0 ∨ 1 ≤ d := by omega
  rcases d0 with w | w
  · refine ⟨v16, v16, v480, v480, v16, fun _ => go 0 (by unfold tvM; rw [if_pos w]), fun q => absurd (by rw [w]; decide) q⟩
  · refine ⟨v16, v16, v480, v480, v16, fun q => absurd q (nI_ge (b := d) (a := 0) (by omega) (by omega)), fun _ => ?_⟩
    rw [nI_add (15 * f + 7) d, show nI (15 * f + 7 + d) - 1 = nI (15 * f + 7 + d - 1) from nI_m1 (by omega), nI_clamp (by omega)]
    exact ⟨vp_in_nI (by omega) (by omega), go _ (by unfold tvM; rw [if_neg (by omega)])⟩
theorem ji_to {S : CST} {Sm : MST} {f s m n c i d o ax e : Nat} {x Dn : Int32} (h : StI S Sm f s m n c i d o ax e x Dn) {S1 : CST} {Sm1 : MST} {z s1 : Nat} (e : Ex [40, 50, 60, 201, 222, 230] S S1) (o222 : ∀ g : Nat, g ≠ f → cv S1 222 g = cv S 222 g) (o230 : ∀ g : Nat, g ≠ f → cv S1 230 g = cv S 230 g) (em : Fm [12, 13, 14, 39, 41, 42, 44] Sm Sm1) (o39 : ∀ g : Nat, g ≠ f → Sm1 39 g = Sm 39 g ∧ Sm1 41 g = Sm 41 g) (o42 : ∀ g t : Nat, g ≠ f → t < 15 → Sm1 42 (15 * g + t) = Sm 42 (15 * g + t)) (hd : DaR S1 Sm1) (hr : ∀ t : Nat, t < 15 → cv S1 230 f t = Sm1 42 (15 * f + t)) (g222 : cv S1 222 f 0 = nI (posN (lvC S m) z)) (g39 : Sm1 39 f = nI z) (hz : z ≤ 60) (hs : cv S1 201 0 0 = nI s1) (hs2 : Sm1 44 0 = nI s1) (hs3 : s1 ≤ 1500) : OutR S1 Sm1 := by
  obtain ⟨hM8, hC, hR, hf, hF, h37, h40, h221, h249, hc, h39, hi, hn60, h222, h41, hd8, ho, h4, hPl, hlv, hpo, htk, h8, he, hax, h43, hpc⟩ := h
  refine Or.inr ⟨f + 1, s1, by omega, by rw [em 37 rfl]; exact h37, by rw [em 43 rfl]; exact h43, hR.top hM8 e o222 o230 em o39 o42 hd hr (fun m' hF' _ => ?_) hs hs2 hs3⟩
  have h1 := hF.1
  have h2 := hF'.1
  obtain rfl : m' = m := nI_inj (hF'.2.1.symm.trans hF.2.1) (by omega) (by omega)
  have p2 : cnC S1 = cnC S := congrArg Prod.snd e.1
  have elv : lvC S1 m' = lvC S m' := funext fun i => by unfold lvC; rw [e.2 250 rfl, e.2 270 rfl]
  exact Or.inl ⟨by rw [em 40 rfl]; exact h40, z, c, hz, g39, by rw [e.2 221 rfl]; exact h221, by rw [e.2 249 rfl]; exact h249, by rw [p2]; exact hc, by rw [elv]; exact g222⟩
theorem ji_reg {S : CST} {Sm : MST} {f s m n c i d o ax e : Nat} {x Dn : Int32} (h : StI S Sm f s m n c i d o ax e x Dn) (hq : ¬ o = 19) {y : Nat} (hy15 : y < 15) (v : Int32) : OutR (cs (cs S 222 f (fun _ => nI (posN (lvC S m) i + 1))) 230 f (upd (cv (cs S 222 f (fun _ => nI (posN (lvC S m) i + 1))) 230 f) y v)) (ms (ms (ms Sm 39 (upd (Sm 39) f (nI (i + 1)))) 41 (upd (Sm 41) f (nI e))) 42 (upd ((ms (ms Sm 39 (upd (Sm 39) f (nI (i + 1)))) 41 (upd (Sm 41) f (nI e))) 42) (15 * f + y) v)) := by
  obtain ⟨hM8, hC, hR, hf, hF, h37, h40, h221, h249, hc, h39, hi, hn60, h222, h41, hd8, ho, h4, hPl, hlv, hpo, htk, h8, he, hax, h43, hpc⟩ := id h
  have e1 : Ex [40, 50, 60, 201, 222, 230] S (cs (cs S 222 f (fun _ => nI (posN (lvC S m) i + 1))) 230 f (upd (cv (cs S 222 f (fun _ => nI (posN (lvC S m) i + 1))) 230 f) y v)) := Ex.cs (by decide) (Ex.cs (by decide) Ex.rf)
  have em : Fm [12, 13, 14, 39, 41, 42, 44] Sm (ms (ms (ms Sm 39 (upd (Sm 39) f (nI (i + 1)))) 41 (upd (Sm 41) f (nI e))) 42 (upd ((ms (ms Sm 39 (upd (Sm 39) f (nI (i + 1)))) 41 (upd (Sm 41) f (nI e))) 42) (15 * f + y) v)) := Fm.put rfl rfl (Fm.put rfl rfl (Fm.put rfl rfl Fm.rf))
  refine ji_to h e1 (fun g hg => ?_) (fun g hg => ?_) em (fun g hg => ⟨?_, ?_⟩) (fun g t hg ht => ?_) (hR.2.1.same (by rw [cs_c (by decide), cs_c (by decide)]) (by rw [cs_c (by decide), cs_c (by decide)]) (by rw [cs_c (by decide), cs_c (by decide)]) (by rw [ms_n _ _ (by decide), ms_n _ _ (by decide), ms_n _ _ (by decide)]) (by rw [ms_n _ _ (by decide), ms_n _ _ (by decide), ms_n _ _ (by decide)]) (by rw [ms_n _ _ (by decide), ms_n _ _ (by decide), ms_n _ _ (by decide)])) (fun t ht => ?_) (z := i + 1) (s1 := s) ?_ ?_ (by omega) ?_ ?_ hR.2.2.2.2.2.2.2.2.1
  · rw [cs_c (by decide), cs_i hg]
  · rw [cs_i hg, cs_c (by decide)]
  · rw [ms_n _ _ (by decide), ms_n _ _ (by decide), ms_s, upd_n _ _ hg]
  · rw [ms_n _ _ (by decide), ms_s, upd_n _ _ hg]
  · rw [ms_s, upd_n _ _ (by omega), ms_n _ _ (by decide), ms_n _ _ (by decide)]
  · rw [cs_s, ms_s]
    by_cases w : t = y
    · rw [w, upd_s, upd_s]
    · rw [upd_n _ _ w, upd_n _ _ (by omega), cs_c (by decide), ms_n _ _ (by decide), ms_n _ _ (by decide)]; exact hF.2.2.2 t ht
  · rw [cs_c (by decide), cs_s, posN_s (hlv hq)]
  · rw [ms_n _ _ (by decide), ms_n _ _ (by decide), ms_s, upd_s]
  · rw [cs_c (by decide), cs_c (by decide)]; exact hR.2.2.2.2.2.2.1
  · rw [ms_n _ _ (by decide), ms_n _ _ (by decide), ms_n _ _ (by decide)]; exact hR.2.2.2.2.2.2.2.1
/-- FIELDS or ROWS have changed, or nothing -/
theorem ji_row {S : CST} {Sm : MST} {f s m n c i d o ax e : Nat} {x Dn : Int32} (h : StI S Sm f s m n c i d o ax e x Dn) (hq : ¬ o = 19) {S1 : CST} {Sm1 : MST} (hE : Ex [40, 50, 60] (cs S 222 f (fun _ => nI (posN (lvC S m) i + 1))) S1) (hEm : Fm [12, 13, 14] (ms (ms Sm 39 (upd (Sm 39) f (nI (i + 1)))) 41 (upd (Sm 41) f (nI e))) Sm1) (hd : DaR S1 Sm1) : OutR S1 Sm1 := by
  obtain ⟨hM8, hC, hR, hf, hF, h37, h40, h221, h249, hc, h39, hi, hn60, h222, h41, hd8, ho, h4, hPl, hlv, hpo, htk, h8, he, hax, h43, hpc⟩ := id h
  have e1 : Ex [40, 50, 60, 201, 222, 230] S S1 := Ex.step hE (by decide) (Ex.cs (by decide) Ex.rf)
  have em : Fm [12, 13, 14, 39, 41, 42, 44] Sm Sm1 := Fm.step hEm (by decide) (Fm.put rfl rfl (Fm.put rfl rfl Fm.rf))
  refine ji_to h e1 (fun g hg => ?_) (fun g hg => ?_) em (fun g hg => ⟨?_, ?_⟩) (fun g t hg ht => ?_) hd (fun t ht => ?_) (z := i + 1) (s1 := s) ?_ ?_ (by omega) ?_ ?_ hR.2.2.2.2.2.2.2.2.1
  · rw [hE.2 222 rfl, cs_i hg]
  · rw [hE.2 230 rfl, cs_c (by decide)]
  · rw [hEm 39 rfl, ms_n _ _ (by decide), ms_s, upd_n _ _ hg]
  · rw [hEm 41 rfl, ms_s, upd_n _ _ hg]
  · rw [hEm 42 rfl, ms_n _ _ (by decide), ms_n _ _ (by decide)]
  · rw [hE.2 230 rfl, cs_c (by decide), hEm 42 rfl, ms_n _ _ (by decide), ms_n _ _ (by decide)]; exact hF.2.2.2 t ht
  · rw [hE.2 222 rfl, cs_s, posN_s (hlv hq)]
  · rw [hEm 39 rfl, ms_n _ _ (by decide), ms_s, upd_s]
  · rw [hE.2 201 rfl, cs_c (by decide)]; exact hR.2.2.2.2.2.2.1
  · rw [hEm 44 rfl, ms_n _ _ (by decide), ms_n _ _ (by decide)]; exact hR.2.2.2.2.2.2.2.1
theorem ji_D {S : CST} {Sm : MST} {f s m n c i d o ax e : Nat} {x Dn : Int32} (h : StI S Sm f s m n c i d o ax e x Dn) : DaR (cs S 222 f (fun _ => nI (posN (lvC S m) i + 1))) (ms (ms Sm 39 (upd (Sm 39) f (nI (i + 1)))) 41 (upd (Sm 41) f (nI e))) := h.2.2.1.2.1.same (cs_c (by decide)) (cs_c (by decide)) (cs_c (by decide)) (by rw [ms_n _ _ (by decide), ms_n _ _ (by decide)]) (by rw [ms_n _ _ (by decide), ms_n _ _ (by decide)]) (by rw [ms_n _ _ (by decide), ms_n _ _ (by decide)])
theorem ji_v {S : CST} {Sm : MST} {f s m n c i d o ax e : Nat} {x Dn : Int32} (h : StI S Sm f s m n c i d o ax e x Dn) {y : Nat} (hy : y < 15) : cv (cs S 222 f (fun _ => nI (posN (lvC S m) i + 1))) 230 f y = (ms (ms Sm 39 (upd (Sm 39) f (nI (i + 1)))) 41 (upd (Sm 41) f (nI e))) 42 (15 * f + y) := by
  rw [cs_c (by decide), ms_n _ _ (by decide), ms_n _ _ (by decide)]
  exact h.2.2.2.2.1.2.2.2 y hy
/-- the same of what lies on top -/
theorem ji_tv {S : CST} {Sm : MST} {f s m n c i d o ax e : Nat} {x Dn : Int32} (h : StI S Sm f s m n c i d o ax e x Dn) (hd : 1 ≤ d) : tvM Sm f d = cv (cs S 222 f (fun _ => nI (posN (lvC S m) i + 1))) 230 f (7 + (d - 1)) := by
  have hd8 : d ≤ 8 := h.2.2.2.2.2.2.2.2.2.2.2.2.2.2.2.1
  rw [cs_c (by decide)]
  unfold tvM
  rw [if_neg (by omega), show 15 * f + 7 + d - 1 = 15 * f + (7 + (d - 1)) by omega]
  exact (h.2.2.2.2.1.2.2.2 (7 + (d - 1)) (by omega)).symm
theorem rd0 {f d : Nat} : (nI (15 * f + 7) + nI d : Int32) = nI (15 * f + (7 + d)) := by rw [nI_add]; congr 1; omega
theorem rd1 {f d : Nat} (h : 1 ≤ d) : (nI (15 * f + 7) + nI d - 1 : Int32) = nI (15 * f + (7 + (d - 1))) := by rw [nI_add, nI_m1 (by omega)]; congr 1; omega
theorem rd2 {f d : Nat} (h : 2 ≤ d) : (nI (15 * f + 7) + nI d - 2 : Int32) = nI (15 * f + (7 + (d - 2))) := by rw [nI_add, show nI (15 * f + 7 + d) - 2 = nI (15 * f + 7 + d - 2) from nI_sub (b := 2) (by omega)]; congr 1; omega
theorem cd0 {d : Nat} : ((7 : Int32) + nI d) = nI (7 + d) := nI_add 7 d
theorem cd1 {d : Nat} (h : 1 ≤ d) : ((7 : Int32) + nI d - 1) = nI (7 + (d - 1)) := by rw [cd0, nI_m1 (by omega)]; congr 1; omega
theorem cd2 {d : Nat} (h : 2 ≤ d) : ((7 : Int32) + nI d - 2) = nI (7 + (d - 2)) := by rw [cd0, show nI (7 + d) - 2 = nI (7 + d - 2) from nI_sub (b := 2) (by omega)]; congr 1; omega
theorem i15c {f y : Nat} (hf : f < 16) (hy : y < 15) : (nI (15 * f + y) : Int32).toNatClampNeg = 15 * f + y := nI_clamp (by omega)
theorem i15v {f y : Nat} (hf : f < 16) (hy : y < 15) : vp_in (nI (15 * f + y)) 240 := vp_in_nI (by omega) (by omega)
theorem w604 {S : MST} {i : Int32} {Post : MST → Prop} (h : Post S) : wj_X12_goes_604 S i 0 Post := ⟨fun _ => h, fun q => absurd rfl q⟩
theorem w604t {S : MST} {i no : Int32} {Post : MST → Prop} (hn : ¬ no = 0) (h : wp_X12_traps S no i Post) : wj_X12_goes_604 S i no Post := ⟨fun q => absurd q hn, fun _ => h⟩
/-- a TRAP, in both -/
theorem ji_trap {S : CST} {Sm : MST} {f s m n c i d o ax e : Nat} {x Dn : Int32} (h : StI S Sm f s m n c i d o ax e x Dn) {K : CST → Prop} {no : Int32} (hn : ¬ no = 0) (hK : ∀ S' : CST, TwR (wp_X12_goes Sm) S' → K S') (hg : ∀ Post : MST → Prop, (∀ Sx : MST, Fm [42] (ms (ms Sm 39 (upd (Sm 39) f (nI (i + 1)))) 41 (upd (Sm 41) f (nI e))) Sx → wp_X12_traps Sx no (nI i) (fun S2 => Post S2)) → wj_X12_goes_134 (ms (ms Sm 39 (upd (Sm 39) f (nI (i + 1)))) 41 (upd (Sm 41) f (nI e))) (nI f) (nI i) (nI o) x (nI (15 * f + 7)) (nI d) (tvM Sm f d) 0 Post) : wp_X7_endByTrap (cs S 222 f (fun _ => nI (posN (lvC S m) i + 1))) f no (nI i) K := by
  obtain ⟨hM8, hC, hR, hf, hF, h37, h40, h221, h249, hc, h39, hi, hn60, h222, h41, hd8, ho, h4, hPl, hlv, hpo, htk, h8, he, hax, h43, hpc⟩ := id h
  have hm := hF.1
  refine xr_trap hf (show m < cnP S from hF.1) (by omega) (by rw [cs_c (by decide)]; exact hF.2.1) (by rw [cs_c (by decide)]; exact (hR.1.1.1 m hF.1).2.1) (F := nI (f + 1)) (by rw [cs_c (by decide)]; exact hR.2.2.2.1) (fun S' t => hK S' (Or.inl (ji_ref h (hg _ (fun Sx eSx => ?_)))))
  have em : Fm [39, 41, 42] Sm Sx := Fm.step eSx (by decide) (Fm.put rfl rfl (Fm.put rfl rfl Fm.rf))
  exact mr_traps (by rw [em 37 rfl]; exact h37) hf (by rw [em 38 rfl]; exact hF.2.2.1) (fun Sm1 tm => Or.inl (EnR.trap hR.1 hR.2.1 hR.2.2.1 (Ex.cs (by decide) Ex.rf) em t tm))
