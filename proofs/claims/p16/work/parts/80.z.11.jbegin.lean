/-! BOTH: a call that begins, whole -/
/-- a call is about to begin -/
def CaR (S : CST) (Sm : MST) (F s y ax : Nat) (gr : Nat → Int32) : Prop := MeR S Sm ∧ DaR S Sm ∧ TaR S Sm ∧ cv S 126 0 0 = nI F ∧ cv S 127 0 0 = 4 ∧ cv S 128 0 0 = nI y ∧ cv S 201 0 0 = nI s ∧ Sm 44 0 = nI s ∧ s ≤ 1500 ∧ y < cnP S ∧ F < 16 ∧ (∀ t : Nat, t < ax → cv S 140 0 t = gr t) ∧ ∀ f : Nat, f < F → ∃ m d : Nat, d < 15 ∧ FrC S Sm f m ∧ MoW S Sm f m d ∧ (f + 1 < F → cv S 223 (f + 1) 0 = nI d) ∧ (f + 1 = F → cv S 129 0 0 = nI d)
theorem xr_choose_stop {S : CST} {F : Nat} {Post : CST → Prop} (h126 : cv S 126 0 0 = nI F) (hF : F < 16) (h127 : ¬ cv S 127 0 0 = 4) (h : Post S) : wp_X7_choosePath S Post := by
  unfold wp_X7_choosePath
  rcases Nat.eq_zero_or_pos F with w | w
  · exact xr_latest0 (by rw [h126, w]) ⟨fun _ => ⟨fun _ => h, fun _ => h⟩, fun q => absurd (by decide) q⟩
  · obtain ⟨f, rfl⟩ : ∃ f : Nat, F = f + 1 := ⟨F - 1, by omega⟩
    exact xr_latest h126 (by omega) ⟨fun _ => ⟨fun _ => h, fun _ => h⟩, fun _ => ⟨fun _ => h, fun q => absurd q h127⟩⟩
theorem mr_call_r_go {Sm : MST} {y b F s cnt : Nat} {a4 : Int32} {Post : MST → Prop} (hy : y < 8) (h37 : Sm 37 0 = nI F) (hF : F < 16) (h44 : Sm 44 0 = nI s) (hs : s < 1500) (h16 : Sm 16 y = nI cnt) (hcnt : cnt ≤ 3)
    (h1 : ∀ S23 : MST, S23 = ms (ms Sm 44 (fun _ => nI (s + 1))) 45 (fun _ => Sm 45 0 + 1) → (¬ Sm 15 y = 0 ∨ ¬ cnt = 3) → wj_X12_call_r_60 S23 (nI y) (nI b) Post) (h2 : ∀ S23 : MST, S23 = ms (ms Sm 44 (fun _ => nI (s + 1))) 45 (fun _ => Sm 45 0 + 1) → Sm 15 y = 0 → cnt = 3 → wp_X12_makeCode S23 (nI y) (fun S28 => wj_X12_call_r_60 S28 (nI y) (nI b) Post)) : wp_X12_call_r Sm (nI y) (nI b) a4 Post := by
  have v8 : vp_in (nI y) 8 := vp_in_nI hy (by omega)
  unfold wp_X12_call_r
  rw [h37, nI_clamp (n := y) (by omega)]
  refine ⟨fun _ => sp_stepOn h44 (by omega) (fun _ => ⟨fun _ S23 e23 => ?_, fun q => absurd q (by decide)⟩) (fun q => absurd q (by omega)), fun q => absurd (nI_inj (b := 16) q (by omega) (by omega)) (by omega)⟩
  rw [ms_n _ _ (show 45 ≠ 44 by decide)] at e23
  have n : ∀ k : Nat, k ≠ 44 → k ≠ 45 → S23 k = Sm k := fun k a c => by rw [e23, ms_n _ _ c, ms_n _ _ a]
  rw [n 15 (by decide) (by decide), n 16 (by decide) (by decide), h16]
  refine ⟨v8, fun q => h1 S23 e23 (Or.inl q), fun q => ⟨v8, fun q2 => h1 S23 e23 (Or.inr (fun w => q2 (by rw [w]; rfl))), fun q2 => h2 S23 e23 q (nI_inj (b := 3) q2 (by omega) (by omega))⟩⟩
theorem gAll_le {as tg : Nat → Bool} {val : Nat → Int32} {n : Nat} {op : Nat → Nat} {xs dp : Nat → Int32} (hL : LkP as tg n op xs dp) : gN (gAll as val tg n op xs dp) ≤ 11 + 9 * n := Nat.le_trans (Nat.le_add_right _ _) (gRun_inv hL gHd_CD gHd_11 n (Nat.le_refl _)).1
/-- a call that begins, in both -/
theorem zc_call_r {S : CST} {Sm : MST} {M F s y ax b : Nat} {gr : Nat → Int32} {a4 : Int32} {Post : CST → MST → Prop} (hM : cnP S = M) (hJ : J S) (hMB : MB Sm M) (h : CaR S Sm F s y ax gr) (h37 : Sm 37 0 = nI F) (hax : Sm 1 y = nI ax) (hb : b + ax ≤ 240) (hbF : b + ax ≤ 15 * F) (hg1 : ∀ t : Nat, t < ax → gr t = Sm 42 (b + t)) (hg0 : ∀ t : Nat, ax ≤ t → t < 15 → gr t = 0)
    (hfr : ∀ f m j : Nat, f < F → m < 8 → j < 12 → Sm 38 f = nI m → Sm 40 f = nI (12 * m + j) → ∃ km : Nat, Sm 17 m = nI km ∧ j < km ∧ km ≤ 12)
    (hen : ∀ (S' : CST) (Sm' : MST), EnR S' Sm' → Post S' Sm') (hgo : ∀ (S' : CST) (Sm' : MST), s < 1500 → Sm' 37 0 = nI (F + 1) → Sm' 43 0 = Sm 43 0 → RnR S' Sm' (F + 1) (s + 1) → Post S' Sm') : wp_X7_begin S (fun S1 => wp_X7_choosePath S1 (fun S2 => wp_X12_call_r Sm (nI y) (nI b) a4 (fun Sm2 => Post S2 Sm2))) := by
  subst hM
  obtain ⟨h1, h2, h3, h4, h5, h6, h7, h8, h9, hy, hF, hhd, hW⟩ := id h
  obtain ⟨⟨⟨hM0, hall6, hrest⟩, hM8, hT, hLk⟩, hRw, hCI⟩ := id hMB
  obtain ⟨hPR, hBk, hPl, hHt, hQz⟩ := id h1
  have hy8 : y < 8 := by omega
  obtain ⟨pa1, pa2, pa3, pa4, pa5, pa6, pa7⟩ := hPR.1 y hy
  obtain ⟨ax', l, n, q1, hax3, q3, q4, q5, q6, q7, q8⟩ := hT y hy
  obtain rfl : ax' = ax := nI_inj (q1.symm.trans hax) (by omega) (by
    rcases Nat.lt_or_ge ax (2 ^ 31) with w | w
    · exact w
    · omega)
  have h61 := hall6 y hy
  have h248 : ¬ cv S 248 y 0 = -1 := fun w => by
    rcases pa7 with v | v
    · rw [v.2] at h61; exact absurd h61 (by decide)
    · obtain ⟨_, v2, ⟨bb, hb8, v3⟩, _⟩ := v
      rw [v2, v3] at w; exact nI_neg1 (by omega) w
  obtain ⟨c, n', g1, g2, g3, g4, g5⟩ := hPl y hy h248
  obtain ⟨n2, k, h3n, hn60, hk, hk12, hcod, hzk, hnk⟩ := hCI.1 y hy
  obtain rfl : n2 = n := nI_inj (h3n.symm.trans q6) (by omega) (by omega)
  obtain ⟨a1, a2, a3, a4', a5, a6, ⟨cnt, b1, b2, b3⟩, a8, a9⟩ := hHt y hy
  have hC31 : cnC S ≤ 2 ^ 31 := by
    obtain ⟨i1, _, _, _, _, i6, _, i8⟩ := id hJ
    have : tot S ≤ cnP S * 13 := sN_const (cnP S) (fun i hi => by
      show Rt S i + (cv S 283 i 0).toNatClampNeg ≤ 13
      obtain ⟨MM, m1, m2, -⟩ := i6 i hi
      have : Rt S i ≤ 1 := by unfold Rt; split <;> omega
      rw [m1, nI_clamp (by omega)]; omega)
    omega
  have hBK : BK S := ⟨hM8, hJ.2.1, fun j hj => (hPR.1 j hj).1⟩
  refine an_X7_begin (sp_X7_begin (Post := fun S1 => S1.2 = S.2 ∧ J S1) hJ (fun S1 a b => ⟨a, b⟩)) (xr_begin (Post := fun S1 => (s = 1500 ∧ Ex [127, 128, 201] S S1 ∧ cv S1 127 0 0 = 3) ∨ (s < 1500 ∧ BeC S S1 F y ax' c s)) hBK hy h6 h4 hF h5 (pa3.trans q1) hax3 g1 (by omega) h7 h9 (fun S1 a b d => Or.inl ⟨a, b, d⟩) (fun S1 a b => Or.inr ⟨a, b⟩)) (fun S1 _ hJ1 hx => ?_)
  rcases hx with ⟨e15, e, e127⟩ | ⟨hlt, hBe⟩
  · refine xr_choose_stop (F := F) (by rw [e.2 126 rfl]; exact h4) hF (by rw [e127]; decide) ?_
    unfold wp_X12_call_r
    rw [h37]
    refine ⟨fun _ => sp_stepOn h8 h9 (fun q => absurd q (by omega)) (fun _ => ⟨fun q => absurd rfl q, fun _ => hen _ _ ⟨⟨h1.ex e rfl (Fm.put (L := [43]) rfl rfl Fm.rf) rfl, h2.same (e.2 40 rfl) (e.2 50 rfl) (e.2 60 rfl) (ms_n _ _ (by decide)) (ms_n _ _ (by decide)) (ms_n _ _ (by decide)), ?_⟩, Or.inr (Or.inr ⟨by rw [ms_s], e127⟩)⟩⟩), fun q => absurd (nI_inj (b := 16) q (by omega) (by omega)) (by omega)⟩
    unfold TaR
    rw [e.2 200 rfl, e.2 202 rfl, e.2 203 rfl, e.2 204 rfl, e.2 205 rfl, e.2 210 rfl, ms_n _ _ (show 48 ≠ 43 by decide), ms_n _ _ (show 45 ≠ 43 by decide), ms_n _ _ (show 46 ≠ 43 by decide), ms_n _ _ (show 47 ≠ 43 by decide), ms_n _ _ (show 49 ≠ 43 by decide), ms_n _ _ (show 50 ≠ 43 by decide)]
    exact h3
  · obtain ⟨be, b126, b128, b201, b202, bo, b220, b221, b222, b223, b230⟩ := hBe
    have p1 : cnP S1 = cnP S := congrArg Prod.fst be.1
    have p2 : cnC S1 = cnC S := congrArg Prod.snd be.1
    have hg : ∀ t : Nat, t < 15 → cv S1 230 F t = gr t := fun t ht => by
      rw [b230 t ht]
      by_cases w : t < ax'
      · rw [if_pos w]; exact hhd t w
      · rw [if_neg w, hg0 t (by omega) ht]
    -- what both hold behind the step
    have bg : ∀ S23 : MST, S23 = ms (ms Sm 44 (fun _ => nI (s + 1))) 45 (fun _ => Sm 45 0 + 1) → BgR S1 S23 F s y gr ∧ (∀ q : Nat, q ≠ 44 → q ≠ 45 → S23 q = Sm q) := fun S23 e23 => by
      have em : Fm [44, 45] Sm S23 := Fm.put e23 rfl (Fm.put rfl rfl Fm.rf)
      have n23 : ∀ q : Nat, q ≠ 44 → q ≠ 45 → S23 q = Sm q := fun q a d => by rw [e23, ms_n _ _ d, ms_n _ _ a]
      refine ⟨⟨h1.ex be rfl em rfl, h2.same (be.2 40 rfl) (be.2 50 rfl) (be.2 60 rfl) (em 12 rfl) (em 13 rfl) (em 14 rfl), ?_, b126, by rw [be.2 127 rfl]; exact h5, b128, b201, by rw [e23, ms_n _ _ (by decide), ms_s], by omega, by rw [p1]; exact hy, hF, ⟨c, b221, by rw [be.2 249 rfl]; exact g1, by omega⟩, b220, b222, hg, fun f hf => ?_⟩, n23⟩
      · obtain ⟨t1, t2, t3, t4, t5, t6, t7⟩ := h3
        exact ⟨by rw [be.2 200 rfl, em 48 rfl]; exact t1, by rw [em 48 rfl]; exact t2, by rw [b202, e23, ms_s, t3], by rw [be.2 203 rfl, em 46 rfl]; exact t4, by rw [be.2 204 rfl, em 47 rfl]; exact t5, by rw [be.2 205 rfl, em 49 rfl]; exact t6, fun t ht => by rw [be.2 210 rfl, em 50 rfl]; exact t7 t ht⟩
      · obtain ⟨m, d, w1, w2, w3, w4, w5⟩ := hW f hf
        obtain ⟨o1, o2, o3, o4, o5⟩ := bo f (by omega)
        have hm := w2.1
        refine ⟨m, d, w1, w2.keep p1 o1 o5 (by rw [em 38 rfl]) (fun t ht => by rw [em 42 rfl]), w3.keep (by omega) (by omega) o2 o3 (be.2 249 rfl) (be.2 250 rfl) (be.2 270 rfl) (by rw [em 39 rfl]) (by rw [em 40 rfl]) (by rw [em 41 rfl]) (em 5 rfl) (em 1 rfl) (fun t ht => by rw [em 42 rfl]) (fun _ _ _ _ _ _ _ _ _ _ _ _ hx => hx.ex be rfl em rfl), ?_⟩
        by_cases w : f + 1 = F
        · rw [w, b223]; exact w5 w
        · rw [(bo (f + 1) w).2.2.2.1]; exact w4 (by omega)
    have gv1 : ∀ t : Nat, t < 3 → (fun t => if t < 3 then gr t else Sm 12 (t - 3)) t = gr t := fun t ht => if_pos ht
    have gv3 : ∀ t : Nat, 3 ≤ t → t < 11 → (fun t => if t < 3 then gr t else Sm 12 (t - 3)) t = Sm 12 (t - 3) := fun t ht _ => if_neg (by omega)
    have hk1 : ¬ Sm 15 y = 0 → 1 ≤ k := fun q => (hnk q).1
    refine xr_choosePath (cnt := cnt) (by rw [p1]; exact hy) hy8 b126 hF (by rw [be.2 127 rfl]; exact h5) b220 (by rw [be.2 282 rfl, a2]; exact b2) b1 (fun hcase => ?_) (fun h280 hc3 => ?_)
    · have e280 : cv S1 280 y 0 = Sm 15 y := by rw [be.2 280 rfl]; exact a1
      rw [e280] at hcase
      by_cases h15 : Sm 15 y = 0
      · have hc3 : cnt < 3 := hcase.resolve_left (fun w => w h15)
        unfold wj_X7_choosePath_55
        refine ⟨cin_28 rfl (show y < cnP S1 by rw [p1]; exact hy), fun _ => ⟨cin_28 rfl (show y < cnP S1 by rw [p1]; exact hy), xr_remember (g := fun t => if t < 3 then gr t else Sm 12 (t - 3)) (show y < cnP S1 by rw [p1]; exact hy) hF (fun t ht => by rw [hg t (by omega)]; exact if_pos ht) (fun t ht1 ht2 => by rw [be.2 40 rfl, h2.1 (t - 3) (by omega)]; exact if_neg (by omega)) (fun S2 S1' hR e2 => ?_)⟩, fun q => absurd (e280.trans h15) q⟩
        refine mr_call_r_go hy8 h37 hF h8 hlt b2 b1 (fun S23 e23 _ => ?_) (fun S23 e23 _ w => absurd w (by omega))
        obtain ⟨hBg, n23⟩ := bg S23 e23
        refine mr_call60_r (k := k) (gv := fun t => if t < 3 then gr t else Sm 12 (t - 3)) hy8 (by rw [n23 1 (by decide) (by decide)]; exact q1) hax3 hb hF hbF (by rw [n23 37 (by decide) (by decide)]; exact h37) (by rw [n23 17 (by decide) (by decide)]; exact hk) hk12 (by rw [n23 15 (by decide) (by decide)]; exact hk1) (fun t ht => by rw [n23 42 (by decide) (by decide)]; exact hg1 t ht) hg0 gv1 (fun t ht1 ht2 => by rw [n23 12 (by decide) (by decide)]; exact gv3 t ht1 ht2) (fun Sm2 q => hgo _ _ hlt q.2.1 (by rw [q.1 43 rfl, n23 43 (by decide) (by decide)]) (jn_rem (by rw [p1]; exact hM8) hBg (by rw [n23 15 (by decide) (by decide)]; exact h15) (by rw [n23 16 (by decide) (by decide)]; exact b2) hc3 hR e2 q))
      · obtain ⟨cc, d1, d2, d3⟩ := a9 (k - 1) (by have := hk1 h15; omega) (by rw [hk]; congr 1; have := hk1 h15; omega)
        refine xr_path_code (c := cc) (show y < cnP S1 by rw [p1]; exact hy) hF (by rw [e280]; exact h15) (by rw [be.2 281 rfl]; exact d1) (by omega) (fun S2 hRu => ?_)
        refine mr_call_r_go hy8 h37 hF h8 hlt b2 b1 (fun S23 e23 _ => ?_) (fun S23 e23 w _ => absurd w h15)
        obtain ⟨hBg, n23⟩ := bg S23 e23
        refine mr_call60_r (k := k) (gv := fun t => if t < 3 then gr t else Sm 12 (t - 3)) hy8 (by rw [n23 1 (by decide) (by decide)]; exact q1) hax3 hb hF hbF (by rw [n23 37 (by decide) (by decide)]; exact h37) (by rw [n23 17 (by decide) (by decide)]; exact hk) hk12 (by rw [n23 15 (by decide) (by decide)]; exact hk1) (fun t ht => by rw [n23 42 (by decide) (by decide)]; exact hg1 t ht) hg0 gv1 (fun t ht1 ht2 => by rw [n23 12 (by decide) (by decide)]; exact gv3 t ht1 ht2) (fun Sm2 q => hgo _ _ hlt q.2.1 (by rw [q.1 43 rfl, n23 43 (by decide) (by decide)]) (jn_code (by rw [p1]; exact hM8) hBg (by rw [n23 17 (by decide) (by decide)]; exact hk) (hk1 h15) hk12 (by rw [n23 15 (by decide) (by decide)]; exact h15) (by rw [be.2 281 rfl]; exact d1) (by omega) hRu q (by omega)))
    · have h15 : Sm 15 y = 0 := by rw [← a1, ← be.2 280 rfl]; exact h280
      have hk11 : k ≤ 11 := Nat.le_trans (hzk h15) (vN_le Sm y)
      have hroom : cnC S1 < 104 := by
        obtain ⟨MM, m1, m2, m3, -⟩ := hJ1.2.2.2.2.2.2.1 y (by rw [p1]; exact hy)
        refine hJ1.2.room (by rw [p1]; exact hy) ?_
        have hRt : Rt S1 y ≤ 1 := by unfold Rt; split <;> omega
        have := Nat.le_trans (m3 h280) (vC_le S1 y)
        rw [m1, nI_clamp (by omega)]
        omega
      have hPC : PrC S1 y n2 (opM Sm y) (xsM Sm y) (dpM Sm y) := (PrC_of (hPR.1 y hy) hT hy hy q6 hn60 h61).ex be rfl
      have hLP : LkP (asB (fun t => Sm 21 (11 * y + t)) (fun t => Sm 22 (11 * y + t)) ax' n2 (opM Sm y) (xsM Sm y) (dpM Sm y)) (tgB n2 (opM Sm y) (xsM Sm y) (dpM Sm y)) n2 (opM Sm y) (xsM Sm y) (dpM Sm y) := LkP_of (hLk y hy) q6 hn60 (hBk y hy h61)
      have hcv := b3 (by omega)
      refine xg_forge (lk := fun t => Sm 21 (11 * y + t)) (vr := fun t => Sm 22 (11 * y + t)) (val := fun t => Sm 20 (11 * y + t)) (ax := ax') (c := 3) hPC hJ1.2.2.2.1 hroom (by rw [be.2 241 rfl, pa3]; exact q1) hax3 (by rw [be.2 282 rfl, a2, b2, hc3]) (by decide) (by decide) (fun t ht => by rw [be.2 300 rfl]; exact (hcv t ht).2.1) (fun t ht => by rw [be.2 310 rfl]; exact a6 t ht) (fun t ht => by rw [be.2 290 rfl]; exact (hcv t ht).1) hLP (fun S48 C f1 f2 f3 f4 => ?_)
      have hy48 : y < S48.2.1 := by rw [f2]; show y < cnP S1; rw [p1]; exact hy
      have hC48 : C < cnC S48 := by rw [f3]; show cnC S1 < S48.2.2; rw [f2]; exact Nat.lt_succ_self _
      refine ⟨cin_28 rfl hy48, xr_take hy48 hC48 (by omega) (fun S50 hTa => ?_)⟩
      refine xr_path_code (c := C) (by show y < S50.2.1; rw [hTa.1.1]; exact hy48) hF (by rw [hTa.2.2.1]; decide) hTa.2.2.2.1 (by omega) (fun S2 hRu => ?_)
      refine mr_call_r_go hy8 h37 hF h8 hlt b2 b1 (fun S23 e23 w => w.elim (fun w => absurd h15 w) (fun w => absurd hc3 w)) (fun S23 e23 _ _ => ?_)
      obtain ⟨hBg, n23⟩ := bg S23 e23
      have hy0 : y < cnP S := hy
      obtain ⟨ll, nl, l1, l2, l3, l4, l5, l6, l7⟩ := hLk y hy
      obtain rfl : nl = n2 := nI_inj (l3.symm.trans q6) (by omega) (by omega)
      have em23 : Fm [44, 45] Sm S23 := Fm.put e23 rfl (Fm.put rfl rfl Fm.rf)
      have hPM : PrM S23 y nl (opM Sm y) (xsM Sm y) (dpM Sm y) := (PrM_of hT hy hM8 q6 hn60).fm em23 rfl
      refine an_X12_makeCode (sp_makeCode (Post := fun S28 => McR S23 (cnP S) y nl k S28) hy8 hM8 l2 (by rw [n23 3 (by decide) (by decide)]; exact q6) l4 hn60 (by rw [n23 17 (by decide) (by decide)]; exact hk) (by omega) (by rw [n23 7 (by decide) (by decide)]; exact l6) (fun i hi => by
          rw [n23 7 (by decide) (by decide)]
          rcases l7 i hi with w | ⟨dd, w1, w2, w3⟩
          · exact Or.inl w
          · exact Or.inr ⟨dd, w1, w2, rightI_same (n23 1 (by decide) (by decide)) (n23 4 (by decide) (by decide)) (n23 5 (by decide) (by decide)) (n23 7 (by decide) (by decide)) w3⟩) (fun S28 hm => hm))
        (mg_makeCode (Post := fun S28 => Fm LM8 S23 S28 ∧ S28 17 = upd (S23 17) y (nI (k + 1)) ∧ S28 15 = upd (S23 15) y 1 ∧ CodM S28 (12 * y + k) (gN (gAll (asB (fun t => Sm 21 (11 * y + t)) (fun t => Sm 22 (11 * y + t)) ax' nl (opM Sm y) (xsM Sm y) (dpM Sm y)) (fun t => Sm 20 (11 * y + t)) (tgB nl (opM Sm y) (xsM Sm y) (dpM Sm y)) nl (opM Sm y) (xsM Sm y) (dpM Sm y))) nl (gP (gAll (asB (fun t => Sm 21 (11 * y + t)) (fun t => Sm 22 (11 * y + t)) ax' nl (opM Sm y) (xsM Sm y) (dpM Sm y)) (fun t => Sm 20 (11 * y + t)) (tgB nl (opM Sm y) (xsM Sm y) (dpM Sm y)) nl (opM Sm y) (xsM Sm y) (dpM Sm y))) (gPos (asB (fun t => Sm 21 (11 * y + t)) (fun t => Sm 22 (11 * y + t)) ax' nl (opM Sm y) (xsM Sm y) (dpM Sm y)) (fun t => Sm 20 (11 * y + t)) (tgB nl (opM Sm y) (xsM Sm y) (dpM Sm y)) (opM Sm y) (xsM Sm y) (dpM Sm y) (gHd (asB (fun t => Sm 21 (11 * y + t)) (fun t => Sm 22 (11 * y + t)) ax' nl (opM Sm y) (xsM Sm y) (dpM Sm y)) (fun t => Sm 20 (11 * y + t)))) (fun i => ¬ dpM Sm y i = -1)) (lk := fun t => Sm 21 (11 * y + t)) (vr := fun t => Sm 22 (11 * y + t)) (val := fun t => Sm 20 (11 * y + t)) (ax := ax') hPM (by rw [n23 1 (by decide) (by decide)]; exact q1) hax3 (by rw [n23 17 (by decide) (by decide)]; exact hk) (by omega) (fun t _ => by rw [n23 21 (by decide) (by decide)]) (fun t _ => by rw [n23 22 (by decide) (by decide)]) (fun t _ => by rw [n23 20 (by decide) (by decide)]) hLP (fun i d hi hd8 hd ho => by rw [n23 1 (by decide) (by decide)]; exact hcall_of hM8 (hLk y hy0) q6 hn60 i d hi hd8 hd ho) (fun S28 a b d e => ⟨a, b, d, e⟩))
        (fun S28 _ hMc hG => ?_)
      obtain ⟨em, e17, e15, cm⟩ := hG
      have edp : dpM S23 y = dpM Sm y := by unfold dpM; rw [n23 7 (by decide) (by decide)]
      obtain ⟨N', N1, N6, eN, -⟩ := hMc.2.2.2.2.2.2.1
      have eNN := nI_inj (eN.symm.trans cm.1) (by omega) (Nat.lt_of_le_of_lt (gAll_le (val := fun t => Sm 20 (11 * y + t)) hLP) (by omega))
      have hB50 := jn_make (n := nl) (by rw [p1]; exact hM8) hroom hBg (by rw [n23 17 (by decide) (by decide)]; exact hk) (by omega) (by rw [n23 3 (by decide) (by decide)]; exact q6) hn60 (fun f m j hf hm hj x38 x40 => by
        rw [n23 38 (by decide) (by decide)] at x38
        rw [n23 40 (by decide) (by decide)] at x40
        rw [n23 17 (by decide) (by decide)]
        exact hfr f m j hf hm hj x38 x40) f1 f2 f3 (by rw [edp]; exact f4) gPos_0 (eNN ▸ N1) (eNN ▸ N6) (gRun_inv hLP gHd_CD gHd_11 nl (Nat.le_refl _)).2.1 hTa em e17 e15 (by rw [edp]; exact cm) hMc
      have n28 : ∀ q : Nat, ¬ q ∈ LM8 → q ≠ 44 → q ≠ 45 → S28 q = Sm q := fun q hq a d => by rw [em.k hq, n23 q a d]
      refine mr_call60_r (k := k + 1) (gv := fun t => if t < 3 then gr t else Sm 12 (t - 3)) hy8 (by rw [n28 1 (by simp) (by decide) (by decide)]; exact q1) hax3 hb hF hbF (by rw [n28 37 (by simp) (by decide) (by decide)]; exact h37) (by rw [e17, upd_s]) (by omega) (fun _ => by omega) (fun t ht => by rw [n28 42 (by simp) (by decide) (by decide)]; exact hg1 t ht) hg0 gv1 (fun t ht1 ht2 => by rw [n28 12 (by simp) (by decide) (by decide)]; exact gv3 t ht1 ht2) (fun Sm2 q => hgo _ _ hlt q.2.1 (by rw [q.1 43 rfl, n28 43 (by simp) (by decide) (by decide)]) (jn_code ?_ hB50.1 (by rw [e17, upd_s]) (by omega) (by omega) (by rw [e15, upd_s]; decide) hB50.2 (by omega) hRu q ?_))
      · rw [show cnP S50 = S50.2.1 from rfl, hTa.1.1, f2]; show cnP S1 ≤ 8; rw [p1]; exact hM8
      · rw [show cnC S50 = S50.2.2 from rfl, hTa.1.1, f2]; show cnC S1 + 1 ≤ 2 ^ 31; omega
theorem mr_call_f_go {Sm : MST} {y b F s cnt : Nat} {a4 : Int32} {Post : MST → Prop} (hy : y < 8) (h37 : Sm 37 0 = nI F) (hF : F < 16) (h44 : Sm 44 0 = nI s) (hs : s < 1500) (h16 : Sm 16 y = nI cnt) (hcnt : cnt ≤ 3)
    (h1 : ∀ S23 : MST, S23 = ms (ms Sm 44 (fun _ => nI (s + 1))) 45 (fun _ => Sm 45 0 + 1) → (¬ Sm 15 y = 0 ∨ ¬ cnt = 3) → wj_X12_call_f_60 S23 (nI y) (nI b) Post) (h2 : ∀ S23 : MST, S23 = ms (ms Sm 44 (fun _ => nI (s + 1))) 45 (fun _ => Sm 45 0 + 1) → Sm 15 y = 0 → cnt = 3 → wp_X12_makeCode S23 (nI y) (fun S28 => wj_X12_call_f_60 S28 (nI y) (nI b) Post)) : wp_X12_call_f Sm (nI y) (nI b) a4 Post := by
  have v8 : vp_in (nI y) 8 := vp_in_nI hy (by omega)
  unfold wp_X12_call_f
  rw [h37, nI_clamp (n := y) (by omega)]
  refine ⟨fun _ => sp_stepOn h44 (by omega) (fun _ => ⟨fun _ S23 e23 => ?_, fun q => absurd q (by decide)⟩) (fun q => absurd q (by omega)), fun q => absurd (nI_inj (b := 16) q (by omega) (by omega)) (by omega)⟩
  rw [ms_n _ _ (show 45 ≠ 44 by decide)] at e23
  have n : ∀ k : Nat, k ≠ 44 → k ≠ 45 → S23 k = Sm k := fun k a c => by rw [e23, ms_n _ _ c, ms_n _ _ a]
  rw [n 15 (by decide) (by decide), n 16 (by decide) (by decide), h16]
  refine ⟨v8, fun q => h1 S23 e23 (Or.inl q), fun q => ⟨v8, fun q2 => h1 S23 e23 (Or.inr (fun w => q2 (by rw [w]; rfl))), fun q2 => h2 S23 e23 q (nI_inj (b := 3) q2 (by omega) (by omega))⟩⟩
/-- a call that begins, in both -/
theorem zc_call_f {S : CST} {Sm : MST} {M F s y ax b : Nat} {gr : Nat → Int32} {a4 : Int32} {Post : CST → MST → Prop} (hM : cnP S = M) (hJ : J S) (hMB : MB Sm M) (h : CaR S Sm F s y ax gr) (h37 : Sm 37 0 = nI F) (hax : Sm 1 y = nI ax) (hb : b + ax ≤ 3) (hg1 : ∀ t : Nat, t < ax → gr t = Sm 51 (b + t)) (hg0 : ∀ t : Nat, ax ≤ t → t < 15 → gr t = 0)
    (hfr : ∀ f m j : Nat, f < F → m < 8 → j < 12 → Sm 38 f = nI m → Sm 40 f = nI (12 * m + j) → ∃ km : Nat, Sm 17 m = nI km ∧ j < km ∧ km ≤ 12)
    (hen : ∀ (S' : CST) (Sm' : MST), EnR S' Sm' → Post S' Sm') (hgo : ∀ (S' : CST) (Sm' : MST), s < 1500 → Sm' 37 0 = nI (F + 1) → Sm' 43 0 = Sm 43 0 → RnR S' Sm' (F + 1) (s + 1) → Post S' Sm') : wp_X7_begin S (fun S1 => wp_X7_choosePath S1 (fun S2 => wp_X12_call_f Sm (nI y) (nI b) a4 (fun Sm2 => Post S2 Sm2))) := by
  subst hM
  obtain ⟨h1, h2, h3, h4, h5, h6, h7, h8, h9, hy, hF, hhd, hW⟩ := id h
  obtain ⟨⟨⟨hM0, hall6, hrest⟩, hM8, hT, hLk⟩, hRw, hCI⟩ := id hMB
  obtain ⟨hPR, hBk, hPl, hHt, hQz⟩ := id h1
  have hy8 : y < 8 := by omega
  obtain ⟨pa1, pa2, pa3, pa4, pa5, pa6, pa7⟩ := hPR.1 y hy
  obtain ⟨ax', l, n, q1, hax3, q3, q4, q5, q6, q7, q8⟩ := hT y hy
  obtain rfl : ax' = ax := nI_inj (q1.symm.trans hax) (by omega) (by
    rcases Nat.lt_or_ge ax (2 ^ 31) with w | w
    · exact w
    · omega)
  have h61 := hall6 y hy
  have h248 : ¬ cv S 248 y 0 = -1 := fun w => by
    rcases pa7 with v | v
    · rw [v.2] at h61; exact absurd h61 (by decide)
    · obtain ⟨_, v2, ⟨bb, hb8, v3⟩, _⟩ := v
      rw [v2, v3] at w; exact nI_neg1 (by omega) w
  obtain ⟨c, n', g1, g2, g3, g4, g5⟩ := hPl y hy h248
  obtain ⟨n2, k, h3n, hn60, hk, hk12, hcod, hzk, hnk⟩ := hCI.1 y hy
  obtain rfl : n2 = n := nI_inj (h3n.symm.trans q6) (by omega) (by omega)
  obtain ⟨a1, a2, a3, a4', a5, a6, ⟨cnt, b1, b2, b3⟩, a8, a9⟩ := hHt y hy
  have hC31 : cnC S ≤ 2 ^ 31 := by
    obtain ⟨i1, _, _, _, _, i6, _, i8⟩ := id hJ
    have : tot S ≤ cnP S * 13 := sN_const (cnP S) (fun i hi => by
      show Rt S i + (cv S 283 i 0).toNatClampNeg ≤ 13
      obtain ⟨MM, m1, m2, -⟩ := i6 i hi
      have : Rt S i ≤ 1 := by unfold Rt; split <;> omega
      rw [m1, nI_clamp (by omega)]; omega)
    omega
  have hBK : BK S := ⟨hM8, hJ.2.1, fun j hj => (hPR.1 j hj).1⟩
  refine an_X7_begin (sp_X7_begin (Post := fun S1 => S1.2 = S.2 ∧ J S1) hJ (fun S1 a b => ⟨a, b⟩)) (xr_begin (Post := fun S1 => (s = 1500 ∧ Ex [127, 128, 201] S S1 ∧ cv S1 127 0 0 = 3) ∨ (s < 1500 ∧ BeC S S1 F y ax' c s)) hBK hy h6 h4 hF h5 (pa3.trans q1) hax3 g1 (by omega) h7 h9 (fun S1 a b d => Or.inl ⟨a, b, d⟩) (fun S1 a b => Or.inr ⟨a, b⟩)) (fun S1 _ hJ1 hx => ?_)
  rcases hx with ⟨e15, e, e127⟩ | ⟨hlt, hBe⟩
  · refine xr_choose_stop (F := F) (by rw [e.2 126 rfl]; exact h4) hF (by rw [e127]; decide) ?_
    unfold wp_X12_call_f
    rw [h37]
    refine ⟨fun _ => sp_stepOn h8 h9 (fun q => absurd q (by omega)) (fun _ => ⟨fun q => absurd rfl q, fun _ => hen _ _ ⟨⟨h1.ex e rfl (Fm.put (L := [43]) rfl rfl Fm.rf) rfl, h2.same (e.2 40 rfl) (e.2 50 rfl) (e.2 60 rfl) (ms_n _ _ (by decide)) (ms_n _ _ (by decide)) (ms_n _ _ (by decide)), ?_⟩, Or.inr (Or.inr ⟨by rw [ms_s], e127⟩)⟩⟩), fun q => absurd (nI_inj (b := 16) q (by omega) (by omega)) (by omega)⟩
    unfold TaR
    rw [e.2 200 rfl, e.2 202 rfl, e.2 203 rfl, e.2 204 rfl, e.2 205 rfl, e.2 210 rfl, ms_n _ _ (show 48 ≠ 43 by decide), ms_n _ _ (show 45 ≠ 43 by decide), ms_n _ _ (show 46 ≠ 43 by decide), ms_n _ _ (show 47 ≠ 43 by decide), ms_n _ _ (show 49 ≠ 43 by decide), ms_n _ _ (show 50 ≠ 43 by decide)]
    exact h3
  · obtain ⟨be, b126, b128, b201, b202, bo, b220, b221, b222, b223, b230⟩ := hBe
    have p1 : cnP S1 = cnP S := congrArg Prod.fst be.1
    have p2 : cnC S1 = cnC S := congrArg Prod.snd be.1
    have hg : ∀ t : Nat, t < 15 → cv S1 230 F t = gr t := fun t ht => by
      rw [b230 t ht]
      by_cases w : t < ax'
      · rw [if_pos w]; exact hhd t w
      · rw [if_neg w, hg0 t (by omega) ht]
    -- what both hold behind the step
    have bg : ∀ S23 : MST, S23 = ms (ms Sm 44 (fun _ => nI (s + 1))) 45 (fun _ => Sm 45 0 + 1) → BgR S1 S23 F s y gr ∧ (∀ q : Nat, q ≠ 44 → q ≠ 45 → S23 q = Sm q) := fun S23 e23 => by
      have em : Fm [44, 45] Sm S23 := Fm.put e23 rfl (Fm.put rfl rfl Fm.rf)
      have n23 : ∀ q : Nat, q ≠ 44 → q ≠ 45 → S23 q = Sm q := fun q a d => by rw [e23, ms_n _ _ d, ms_n _ _ a]
      refine ⟨⟨h1.ex be rfl em rfl, h2.same (be.2 40 rfl) (be.2 50 rfl) (be.2 60 rfl) (em 12 rfl) (em 13 rfl) (em 14 rfl), ?_, b126, by rw [be.2 127 rfl]; exact h5, b128, b201, by rw [e23, ms_n _ _ (by decide), ms_s], by omega, by rw [p1]; exact hy, hF, ⟨c, b221, by rw [be.2 249 rfl]; exact g1, by omega⟩, b220, b222, hg, fun f hf => ?_⟩, n23⟩
      · obtain ⟨t1, t2, t3, t4, t5, t6, t7⟩ := h3
        exact ⟨by rw [be.2 200 rfl, em 48 rfl]; exact t1, by rw [em 48 rfl]; exact t2, by rw [b202, e23, ms_s, t3], by rw [be.2 203 rfl, em 46 rfl]; exact t4, by rw [be.2 204 rfl, em 47 rfl]; exact t5, by rw [be.2 205 rfl, em 49 rfl]; exact t6, fun t ht => by rw [be.2 210 rfl, em 50 rfl]; exact t7 t ht⟩
      · obtain ⟨m, d, w1, w2, w3, w4, w5⟩ := hW f hf
        obtain ⟨o1, o2, o3, o4, o5⟩ := bo f (by omega)
        have hm := w2.1
        refine ⟨m, d, w1, w2.keep p1 o1 o5 (by rw [em 38 rfl]) (fun t ht => by rw [em 42 rfl]), w3.keep (by omega) (by omega) o2 o3 (be.2 249 rfl) (be.2 250 rfl) (be.2 270 rfl) (by rw [em 39 rfl]) (by rw [em 40 rfl]) (by rw [em 41 rfl]) (em 5 rfl) (em 1 rfl) (fun t ht => by rw [em 42 rfl]) (fun _ _ _ _ _ _ _ _ _ _ _ _ hx => hx.ex be rfl em rfl), ?_⟩
        by_cases w : f + 1 = F
        · rw [w, b223]; exact w5 w
        · rw [(bo (f + 1) w).2.2.2.1]; exact w4 (by omega)
    have gv1 : ∀ t : Nat, t < 3 → (fun t => if t < 3 then gr t else Sm 12 (t - 3)) t = gr t := fun t ht => if_pos ht
    have gv3 : ∀ t : Nat, 3 ≤ t → t < 11 → (fun t => if t < 3 then gr t else Sm 12 (t - 3)) t = Sm 12 (t - 3) := fun t ht _ => if_neg (by omega)
    have hk1 : ¬ Sm 15 y = 0 → 1 ≤ k := fun q => (hnk q).1
    refine xr_choosePath (cnt := cnt) (by rw [p1]; exact hy) hy8 b126 hF (by rw [be.2 127 rfl]; exact h5) b220 (by rw [be.2 282 rfl, a2]; exact b2) b1 (fun hcase => ?_) (fun h280 hc3 => ?_)
    · have e280 : cv S1 280 y 0 = Sm 15 y := by rw [be.2 280 rfl]; exact a1
      rw [e280] at hcase
      by_cases h15 : Sm 15 y = 0
      · have hc3 : cnt < 3 := hcase.resolve_left (fun w => w h15)
        unfold wj_X7_choosePath_55
        refine ⟨cin_28 rfl (show y < cnP S1 by rw [p1]; exact hy), fun _ => ⟨cin_28 rfl (show y < cnP S1 by rw [p1]; exact hy), xr_remember (g := fun t => if t < 3 then gr t else Sm 12 (t - 3)) (show y < cnP S1 by rw [p1]; exact hy) hF (fun t ht => by rw [hg t (by omega)]; exact if_pos ht) (fun t ht1 ht2 => by rw [be.2 40 rfl, h2.1 (t - 3) (by omega)]; exact if_neg (by omega)) (fun S2 S1' hR e2 => ?_)⟩, fun q => absurd (e280.trans h15) q⟩
        refine mr_call_f_go hy8 h37 hF h8 hlt b2 b1 (fun S23 e23 _ => ?_) (fun S23 e23 _ w => absurd w (by omega))
        obtain ⟨hBg, n23⟩ := bg S23 e23
        refine mr_call60_f (k := k) (gv := fun t => if t < 3 then gr t else Sm 12 (t - 3)) hy8 (by rw [n23 1 (by decide) (by decide)]; exact q1) hax3 hb hF (by rw [n23 37 (by decide) (by decide)]; exact h37) (by rw [n23 17 (by decide) (by decide)]; exact hk) hk12 (by rw [n23 15 (by decide) (by decide)]; exact hk1) (fun t ht => by rw [n23 51 (by decide) (by decide)]; exact hg1 t ht) hg0 gv1 (fun t ht1 ht2 => by rw [n23 12 (by decide) (by decide)]; exact gv3 t ht1 ht2) (fun Sm2 q => hgo _ _ hlt q.2.1 (by rw [q.1 43 rfl, n23 43 (by decide) (by decide)]) (jn_rem (by rw [p1]; exact hM8) hBg (by rw [n23 15 (by decide) (by decide)]; exact h15) (by rw [n23 16 (by decide) (by decide)]; exact b2) hc3 hR e2 q))
      · obtain ⟨cc, d1, d2, d3⟩ := a9 (k - 1) (by have := hk1 h15; omega) (by rw [hk]; congr 1; have := hk1 h15; omega)
        refine xr_path_code (c := cc) (show y < cnP S1 by rw [p1]; exact hy) hF (by rw [e280]; exact h15) (by rw [be.2 281 rfl]; exact d1) (by omega) (fun S2 hRu => ?_)
        refine mr_call_f_go hy8 h37 hF h8 hlt b2 b1 (fun S23 e23 _ => ?_) (fun S23 e23 w _ => absurd w h15)
        obtain ⟨hBg, n23⟩ := bg S23 e23
        refine mr_call60_f (k := k) (gv := fun t => if t < 3 then gr t else Sm 12 (t - 3)) hy8 (by rw [n23 1 (by decide) (by decide)]; exact q1) hax3 hb hF (by rw [n23 37 (by decide) (by decide)]; exact h37) (by rw [n23 17 (by decide) (by decide)]; exact hk) hk12 (by rw [n23 15 (by decide) (by decide)]; exact hk1) (fun t ht => by rw [n23 51 (by decide) (by decide)]; exact hg1 t ht) hg0 gv1 (fun t ht1 ht2 => by rw [n23 12 (by decide) (by decide)]; exact gv3 t ht1 ht2) (fun Sm2 q => hgo _ _ hlt q.2.1 (by rw [q.1 43 rfl, n23 43 (by decide) (by decide)]) (jn_code (by rw [p1]; exact hM8) hBg (by rw [n23 17 (by decide) (by decide)]; exact hk) (hk1 h15) hk12 (by rw [n23 15 (by decide) (by decide)]; exact h15) (by rw [be.2 281 rfl]; exact d1) (by omega) hRu q (by omega)))
    · have h15 : Sm 15 y = 0 := by rw [← a1, ← be.2 280 rfl]; exact h280
      have hk11 : k ≤ 11 := Nat.le_trans (hzk h15) (vN_le Sm y)
      have hroom : cnC S1 < 104 := by
        obtain ⟨MM, m1, m2, m3, -⟩ := hJ1.2.2.2.2.2.2.1 y (by rw [p1]; exact hy)
        refine hJ1.2.room (by rw [p1]; exact hy) ?_
        have hRt : Rt S1 y ≤ 1 := by unfold Rt; split <;> omega
        have := Nat.le_trans (m3 h280) (vC_le S1 y)
        rw [m1, nI_clamp (by omega)]
        omega
      have hPC : PrC S1 y n2 (opM Sm y) (xsM Sm y) (dpM Sm y) := (PrC_of (hPR.1 y hy) hT hy hy q6 hn60 h61).ex be rfl
      have hLP : LkP (asB (fun t => Sm 21 (11 * y + t)) (fun t => Sm 22 (11 * y + t)) ax' n2 (opM Sm y) (xsM Sm y) (dpM Sm y)) (tgB n2 (opM Sm y) (xsM Sm y) (dpM Sm y)) n2 (opM Sm y) (xsM Sm y) (dpM Sm y) := LkP_of (hLk y hy) q6 hn60 (hBk y hy h61)
      have hcv := b3 (by omega)
      refine xg_forge (lk := fun t => Sm 21 (11 * y + t)) (vr := fun t => Sm 22 (11 * y + t)) (val := fun t => Sm 20 (11 * y + t)) (ax := ax') (c := 3) hPC hJ1.2.2.2.1 hroom (by rw [be.2 241 rfl, pa3]; exact q1) hax3 (by rw [be.2 282 rfl, a2, b2, hc3]) (by decide) (by decide) (fun t ht => by rw [be.2 300 rfl]; exact (hcv t ht).2.1) (fun t ht => by rw [be.2 310 rfl]; exact a6 t ht) (fun t ht => by rw [be.2 290 rfl]; exact (hcv t ht).1) hLP (fun S48 C f1 f2 f3 f4 => ?_)
      have hy48 : y < S48.2.1 := by rw [f2]; show y < cnP S1; rw [p1]; exact hy
      have hC48 : C < cnC S48 := by rw [f3]; show cnC S1 < S48.2.2; rw [f2]; exact Nat.lt_succ_self _
      refine ⟨cin_28 rfl hy48, xr_take hy48 hC48 (by omega) (fun S50 hTa => ?_)⟩
      refine xr_path_code (c := C) (by show y < S50.2.1; rw [hTa.1.1]; exact hy48) hF (by rw [hTa.2.2.1]; decide) hTa.2.2.2.1 (by omega) (fun S2 hRu => ?_)
      refine mr_call_f_go hy8 h37 hF h8 hlt b2 b1 (fun S23 e23 w => w.elim (fun w => absurd h15 w) (fun w => absurd hc3 w)) (fun S23 e23 _ _ => ?_)
      obtain ⟨hBg, n23⟩ := bg S23 e23
      have hy0 : y < cnP S := hy
      obtain ⟨ll, nl, l1, l2, l3, l4, l5, l6, l7⟩ := hLk y hy
      obtain rfl : nl = n2 := nI_inj (l3.symm.trans q6) (by omega) (by omega)
      have em23 : Fm [44, 45] Sm S23 := Fm.put e23 rfl (Fm.put rfl rfl Fm.rf)
      have hPM : PrM S23 y nl (opM Sm y) (xsM Sm y) (dpM Sm y) := (PrM_of hT hy hM8 q6 hn60).fm em23 rfl
      refine an_X12_makeCode (sp_makeCode (Post := fun S28 => McR S23 (cnP S) y nl k S28) hy8 hM8 l2 (by rw [n23 3 (by decide) (by decide)]; exact q6) l4 hn60 (by rw [n23 17 (by decide) (by decide)]; exact hk) (by omega) (by rw [n23 7 (by decide) (by decide)]; exact l6) (fun i hi => by
          rw [n23 7 (by decide) (by decide)]
          rcases l7 i hi with w | ⟨dd, w1, w2, w3⟩
          · exact Or.inl w
          · exact Or.inr ⟨dd, w1, w2, rightI_same (n23 1 (by decide) (by decide)) (n23 4 (by decide) (by decide)) (n23 5 (by decide) (by decide)) (n23 7 (by decide) (by decide)) w3⟩) (fun S28 hm => hm))
        (mg_makeCode (Post := fun S28 => Fm LM8 S23 S28 ∧ S28 17 = upd (S23 17) y (nI (k + 1)) ∧ S28 15 = upd (S23 15) y 1 ∧ CodM S28 (12 * y + k) (gN (gAll (asB (fun t => Sm 21 (11 * y + t)) (fun t => Sm 22 (11 * y + t)) ax' nl (opM Sm y) (xsM Sm y) (dpM Sm y)) (fun t => Sm 20 (11 * y + t)) (tgB nl (opM Sm y) (xsM Sm y) (dpM Sm y)) nl (opM Sm y) (xsM Sm y) (dpM Sm y))) nl (gP (gAll (asB (fun t => Sm 21 (11 * y + t)) (fun t => Sm 22 (11 * y + t)) ax' nl (opM Sm y) (xsM Sm y) (dpM Sm y)) (fun t => Sm 20 (11 * y + t)) (tgB nl (opM Sm y) (xsM Sm y) (dpM Sm y)) nl (opM Sm y) (xsM Sm y) (dpM Sm y))) (gPos (asB (fun t => Sm 21 (11 * y + t)) (fun t => Sm 22 (11 * y + t)) ax' nl (opM Sm y) (xsM Sm y) (dpM Sm y)) (fun t => Sm 20 (11 * y + t)) (tgB nl (opM Sm y) (xsM Sm y) (dpM Sm y)) (opM Sm y) (xsM Sm y) (dpM Sm y) (gHd (asB (fun t => Sm 21 (11 * y + t)) (fun t => Sm 22 (11 * y + t)) ax' nl (opM Sm y) (xsM Sm y) (dpM Sm y)) (fun t => Sm 20 (11 * y + t)))) (fun i => ¬ dpM Sm y i = -1)) (lk := fun t => Sm 21 (11 * y + t)) (vr := fun t => Sm 22 (11 * y + t)) (val := fun t => Sm 20 (11 * y + t)) (ax := ax') hPM (by rw [n23 1 (by decide) (by decide)]; exact q1) hax3 (by rw [n23 17 (by decide) (by decide)]; exact hk) (by omega) (fun t _ => by rw [n23 21 (by decide) (by decide)]) (fun t _ => by rw [n23 22 (by decide) (by decide)]) (fun t _ => by rw [n23 20 (by decide) (by decide)]) hLP (fun i d hi hd8 hd ho => by rw [n23 1 (by decide) (by decide)]; exact hcall_of hM8 (hLk y hy0) q6 hn60 i d hi hd8 hd ho) (fun S28 a b d e => ⟨a, b, d, e⟩))
        (fun S28 _ hMc hG => ?_)
      obtain ⟨em, e17, e15, cm⟩ := hG
      have edp : dpM S23 y = dpM Sm y := by unfold dpM; rw [n23 7 (by decide) (by decide)]
      obtain ⟨N', N1, N6, eN, -⟩ := hMc.2.2.2.2.2.2.1
      have eNN := nI_inj (eN.symm.trans cm.1) (by omega) (Nat.lt_of_le_of_lt (gAll_le (val := fun t => Sm 20 (11 * y + t)) hLP) (by omega))
      have hB50 := jn_make (n := nl) (by rw [p1]; exact hM8) hroom hBg (by rw [n23 17 (by decide) (by decide)]; exact hk) (by omega) (by rw [n23 3 (by decide) (by decide)]; exact q6) hn60 (fun f m j hf hm hj x38 x40 => by
        rw [n23 38 (by decide) (by decide)] at x38
        rw [n23 40 (by decide) (by decide)] at x40
        rw [n23 17 (by decide) (by decide)]
        exact hfr f m j hf hm hj x38 x40) f1 f2 f3 (by rw [edp]; exact f4) gPos_0 (eNN ▸ N1) (eNN ▸ N6) (gRun_inv hLP gHd_CD gHd_11 nl (Nat.le_refl _)).2.1 hTa em e17 e15 (by rw [edp]; exact cm) hMc
      have n28 : ∀ q : Nat, ¬ q ∈ LM8 → q ≠ 44 → q ≠ 45 → S28 q = Sm q := fun q hq a d => by rw [em.k hq, n23 q a d]
      refine mr_call60_f (k := k + 1) (gv := fun t => if t < 3 then gr t else Sm 12 (t - 3)) hy8 (by rw [n28 1 (by simp) (by decide) (by decide)]; exact q1) hax3 hb hF (by rw [n28 37 (by simp) (by decide) (by decide)]; exact h37) (by rw [e17, upd_s]) (by omega) (fun _ => by omega) (fun t ht => by rw [n28 51 (by simp) (by decide) (by decide)]; exact hg1 t ht) hg0 gv1 (fun t ht1 ht2 => by rw [n28 12 (by simp) (by decide) (by decide)]; exact gv3 t ht1 ht2) (fun Sm2 q => hgo _ _ hlt q.2.1 (by rw [q.1 43 rfl, n28 43 (by simp) (by decide) (by decide)]) (jn_code ?_ hB50.1 (by rw [e17, upd_s]) (by omega) (by omega) (by rw [e15, upd_s]; decide) hB50.2 (by omega) hRu q ?_))
      · rw [show cnP S50 = S50.2.1 from rfl, hTa.1.1, f2]; show cnP S1 ≤ 8; rw [p1]; exact hM8
      · rw [show cnC S50 = S50.2.2 from rfl, hTa.1.1, f2]; show cnC S1 + 1 ≤ 2 ^ 31; omega
