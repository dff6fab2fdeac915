/-! BOTH at a PART: CALL and RET -/
theorem mono_giveBack {S : CST} {f : Nat} {v : Int32} {P Q : CST → Prop} (h : wp_X7_giveBack S f v P) (hq : ∀ S' : CST, P S' → Q S') : wp_X7_giveBack S f v Q := an_X7_giveBack h h (fun S' _ p _ => hq S' p)
theorem js_back {Sm S48 : MST} {f : Nat} {v : Int32} (hf : f < 16) (e : S48 = ms (ms Sm 39 (upd (Sm 39) f v)) 39 (upd ((ms Sm 39 (upd (Sm 39) f v)) 39) (nI f : Int32).toNatClampNeg (Sm 39 (nI f : Int32).toNatClampNeg))) : S48 = Sm := by
  rw [e, nI_clamp (by omega), ms_s]
  funext k
  by_cases w : k = 39
  · rw [w, ms_s]
    funext g
    by_cases w2 : g = f
    · rw [w2, upd_s]
    · rw [upd_n _ _ w2, upd_n _ _ w2]
  · rw [ms_n _ _ w, ms_n _ _ w]
theorem gdT_op {val : Nat → Int32} {i : Int32} {t : Nat} : (gdT val i t).1 = 17 ∨ (gdT val i t).1 = 18 := by
  unfold gdT
  split
  · exact Or.inl rfl
  · exact Or.inr rfl
/-- codes that are gone through stand in their METHOD -/
theorem RI.codes {S : MST} {M F : Nat} (h : RI S M F) (hM8 : M ≤ 8) : ∀ f m j : Nat, f < F → m < 8 → j < 12 → S 38 f = nI m → S 40 f = nI (12 * m + j) → ∃ km : Nat, S 17 m = nI km ∧ j < km ∧ km ≤ 12 := fun f m j hf hm hj h38 h40 => by
  obtain ⟨_, _, _, _, _, hFr, hWt⟩ := h
  have hh : FrI S M f := by
    by_cases w : f + 1 = F
    · rw [show F - 1 = f by omega] at hFr; exact hFr
    · exact (hWt f (by omega)).1
  obtain ⟨m', n', w1, w2, w3, w4, w5⟩ := hh
  obtain rfl : m' = m := nI_inj (w2.symm.trans h38) (by omega) (by omega)
  rcases w5 with ⟨w, _⟩ | ⟨j', k, N', at', a1, a2, a3, a4, _⟩
  · exact absurd (h40.symm.trans w) (nI_neg1 (by omega))
  · have : 12 * m' + j' = 12 * m' + j := nI_inj (a4.symm.trans h40) (by omega) (by omega)
    exact ⟨k, a1, by omega, a3⟩
theorem zs_10 {S : CST} {Sm : MST} {f s m j c N h0 n p : Nat} {P : Nat → T5} {as : Nat → Bool} {val : Nat → Int32} {st : Nat → Nat} (h : StP S Sm f s m j c N h0 n p P as val st) {M x y ax : Nat} {b i : Int32} (hM : cnP S = M) (hJ : J S) (hRI : RI Sm M (f + 1)) (e : P p = (nI 10, nI x, nI y, b, i)) (hy : y < M) (hax : Sm 1 y = nI ax) (hax3 : ax ≤ 3) (hxa : x + ax ≤ 15) (hx15 : x < 15) : ResR S (wp_X12_goesByPart Sm) := by
  have hall := js_all h (by rw [e]; exact (by decide : ¬ (nI 10 : Int32) = 17)) (by rw [e]; exact (by decide : ¬ (nI 10 : Int32) = 18))
  obtain ⟨hM8, hC, hR, hf, hF, h37, h40, hj, h221, hc, hx, h39, hp, h222, h43, hok⟩ := id h
  have hm := hF.1
  have v16 : vp_in (nI f) 16 := vp_in_nI hf (by omega)
  have h0p : h0 ≤ p := by
    rcases Nat.lt_or_ge p h0 with w | w
    · obtain ⟨t, _, _, ep⟩ := hx.2.2.2.2.1.2.1 p w
      have e1 : (gdT val 0 t).1 = nI 10 := by rw [← ep, e]
      rcases gdT_op (val := val) (i := 0) (t := t) with q | q
      · rw [e1] at q; exact absurd q (by decide)
      · rw [e1] at q; exact absurd q (by decide)
    · exact w
  have g126 : cv (cs S 222 f (fun _ => nI (p + 1))) 126 0 0 = nI (f + 1) := by rw [cs_c (by decide)]; exact hR.2.2.2.1
  refine js_step h e (tu_10 ?_)
  rcases Nat.lt_or_ge (f + 1) 16 with w | w
  · refine xr_call hf hx15 g126 w (fun S' hE h128 h129 h140 => Or.inr ⟨?_, ?_, ?_⟩)
    · rw [hE.2 127 rfl, cs_c (by decide)]; exact hR.2.2.2.2.1
    · rw [h128]; exact nI_neg1 (by omega)
    · have eS : Ex [128, 129, 140, 222] S S' := Ex.step hE (by decide) (Ex.cs (by decide) Ex.rf)
      have p1 : cnP S' = cnP S := congrArg Prod.fst eS.1
      have p2 : cnC S' = cnC S := congrArg Prod.snd eS.1
      have hCa : CaR S' Sm (f + 1) s y ax (fun t => if t < ax then Sm 42 (15 * f + x + t) else 0) := by
        obtain ⟨t1, t2, t3, t4, t5, t6, t7⟩ := hR.2.2.1
        refine ⟨hR.1.ex eS rfl (Fm.rf (L := [])) rfl, hR.2.1.same (eS.2 40 rfl) (eS.2 50 rfl) (eS.2 60 rfl) rfl rfl rfl, ⟨by rw [eS.2 200 rfl]; exact t1, t2, by rw [eS.2 202 rfl]; exact t3, by rw [eS.2 203 rfl]; exact t4, by rw [eS.2 204 rfl]; exact t5, by rw [eS.2 205 rfl]; exact t6, fun t ht => by rw [eS.2 210 rfl]; exact t7 t ht⟩, by rw [eS.2 126 rfl]; exact hR.2.2.2.1, by rw [eS.2 127 rfl]; exact hR.2.2.2.2.1, h128, by rw [eS.2 201 rfl]; exact hR.2.2.2.2.2.2.1, hR.2.2.2.2.2.2.2.1, hR.2.2.2.2.2.2.2.2.1, by omega, w, fun t ht => ?_, fun g hg => ?_⟩
        · show cv S' 140 0 t = if t < ax then Sm 42 (15 * f + x + t) else 0
          rw [h140 t (by omega), if_pos (by omega), if_pos ht, cs_c (by decide), hF.2.2.2 (x + t) (by omega), Nat.add_assoc]
        · by_cases q : g = f
          · subst q
            exact ⟨m, x, hx15, hF.keep p1 (by rw [eS.2 220 rfl]) (by rw [eS.2 230 rfl]) rfl (fun _ _ => rfl), Or.inr ⟨j, c, N, h0, n, P, as, val, st, p, h40, hj, by rw [eS.2 221 rfl]; exact h221, by omega, hx.ex eS rfl (Fm.rf (L := [])) rfl, h39, hp, h0p, by rw [hE.2 222 rfl, cs_s], congrArg Prod.fst e, congrArg (fun z : T5 => z.2.1) e, fun u hu ha => hall u (by omega) ha⟩, fun q => absurd q (by omega), fun _ => h129⟩
          · obtain ⟨m', d, w1, w2, w3, w4⟩ := hR.2.2.2.2.2.2.2.2.2.2 g (by omega)
            have hm' := w2.1
            exact ⟨m', d, w1, w2.keep p1 (by rw [eS.2 220 rfl]) (by rw [eS.2 230 rfl]) rfl (fun _ _ => rfl), w3.keep (by omega) (by omega) (by rw [eS.2 221 rfl]) (by rw [hE.2 222 rfl, cs_i q]) (eS.2 249 rfl) (eS.2 250 rfl) (eS.2 270 rfl) rfl rfl rfl rfl rfl (fun _ _ => rfl) (fun _ _ _ _ _ _ _ _ _ _ _ _ hx => hx.ex eS rfl (Fm.rf (L := [])) rfl), fun _ => by rw [eS.2 223 rfl]; exact w4, fun q => absurd q (by omega)⟩
      have key := zc_call_r (Post := fun S2 Sm2 => wj_X12_goesByPart_649 Sm2 i 0 (fun Sm1 => OutR S2 Sm1)) (b := 15 * f + x) (a4 := i) (p1.trans hM) (hJ.ex eS rfl) hRI.1 hCa h37 hax (by omega) (by omega) (fun t ht => if_pos ht) (fun t ht _ => if_neg (by omega)) (hRI.codes (by omega)) (fun S' Sm' w => w649 (Or.inl w)) (fun S' Sm' _ w1 w2 w => w649 (Or.inr ⟨_, _, by omega, w1, w2.trans h43, w⟩))
      refine mono_begin key (fun S2 k2 => mono_choosePath k2 (fun S3 k3 => js_ref h e (gp_10 ⟨v16, fun S48 e48 => ?_⟩)))
      rw [js_back hf e48, nI_add]
      exact k3
  · unfold wp_X7_call
    rw [g126]
    refine ⟨fun q => absurd q (Int32.not_lt.mpr (nI_le (a := 16) w (by omega))), fun _ => xr_trap hf (show m < cnP S from hF.1) (by omega) (by rw [cs_c (by decide)]; exact hF.2.1) (by rw [cs_c (by decide)]; exact (hR.1.1.1 m hF.1).2.1) (F := nI (f + 1)) g126 (fun S' t => Or.inl (js_ref h e (gp_10 ⟨v16, fun S48 e48 => ?_⟩)))⟩
    rw [js_back hf e48]
    unfold wp_X12_call_r
    rw [h37]
    have h16 : (nI (f + 1) : Int32) = 16 := by rw [show f + 1 = 16 by omega]; rfl
    exact ⟨fun q => absurd h16 q, fun _ => mr_traps h37 hf hF.2.2.1 (fun Sm1 tm => w649 (Or.inl (EnR.trap hR.1 hR.2.1 hR.2.2.1 (Ex.cs (by decide) Ex.rf) Fm.rf t tm)))⟩
theorem zs_11 {S : CST} {Sm : MST} {f s m j c N h0 n p : Nat} {P : Nat → T5} {as : Nat → Bool} {val : Nat → Int32} {st : Nat → Nat} (h : StP S Sm f s m j c N h0 n p P as val st) {y : Nat} {d b i : Int32} (e : P p = (nI 11, d, nI y, b, i)) (hy : y < 15) : ResR S (wp_X12_goesByPart Sm) := by
  obtain ⟨hM8, hC, hR, hf, hF, h37, h40, hj, h221, hc, hx, h39, hp, h222, h43, hok⟩ := id h
  refine js_step h e (tu_11 ⟨cin_22 hf, xr_val hf hy ?_⟩)
  have key := zc_ret (Sp := (cs S 222 f (fun _ => nI (p + 1)))) (Smp := (ms Sm 39 (upd (Sm 39) f (nI (p + 1))))) (v := cv (cs S 222 f (fun _ => nI (p + 1))) 230 f y) (Post := fun S1 Sm1 => wj_X12_goesByPart_649 Sm1 i 0 (fun Sm2 => OutR S1 Sm2)) hM8 hC hR hf h37 (Ex.cs (by decide) Ex.rf) (fun g hg => cs_i hg) (Fm.put rfl rfl Fm.rf) (fun g hg => ⟨by rw [ms_s, upd_n _ _ hg], by rw [ms_n _ _ (by decide)]⟩) (fun S' Sm' w => w649 (Or.inl w)) (fun S' Sm' _ w1 w2 w => w649 (Or.inr ⟨_, _, by omega, w1, w2.trans h43, w⟩))
  exact mono_giveBack key (fun S' k => Or.inl (js_ref h e (gp_11 ⟨rgv hf hy, by rw [rgc hf hy, ← js_v h hy]; exact k⟩)))
