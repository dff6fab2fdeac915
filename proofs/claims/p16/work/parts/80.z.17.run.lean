/-! BOTH: the whole of a run -/
/-- whether all METHODS were looked over well, in the class -/
theorem xr_isRight_2 {S : CST} {K1 K2 : Prop} {Post : Int32 → Prop} (hB : BK S) (h0 : (∃ y : Nat, y < cnP S ∧ cv S 248 y 0 = -1) → K2) (h1 : (∀ y : Nat, y < cnP S → ¬ cv S 248 y 0 = -1) → K1) : ∀ (k j : Nat), j + k = cnP S → (∀ y : Nat, y < j → ¬ cv S 248 y 0 = -1) → wl_X0_isRight_2 S K1 K2 Post (k + 1) (nI j) := by
  have hM8 := hB.1
  have h11 := hB.2.1
  intro k
  induction k with
  | zero =>
    intro j hj hz
    unfold wl_X0_isRight_2
    rw [h11]
    exact ⟨fun _ => h1 (fun y hy => hz y (by omega)), fun q => absurd (nI_le (by omega) (by omega)) q⟩
  | succ k ih =>
    intro j hj hz
    unfold wl_X0_isRight_2
    rw [h11, nI_1]
    refine ⟨fun q => absurd q (nI_ge (by omega) (by omega)), fun _ => xp_X0_at hB (fun y hy e => ⟨fun q => absurd q (nI_nn y (by omega)), fun _ => ?_⟩) (fun q => absurd rfl (q j (by omega)))⟩
    obtain rfl : j = y := nI_inj e (by omega) (by omega)
    rw [nI_clamp (by omega)]
    refine ⟨cin_24 rfl hy, xp_X8_isRight hy (fun c => ⟨fun q => absurd rfl q, fun _ => h0 ⟨j, hy, c⟩⟩) (fun c => ⟨fun _ => ih (j + 1) (by omega) (fun y hyj => ?_), fun q => absurd q (by decide)⟩)⟩
    rcases Nat.lt_or_ge y j with w | w
    · exact hz y w
    · rw [show y = j by omega]; exact c
theorem xr_isRight {S : CST} {Post : Int32 → Prop} (hB : BK S) (h0 : (∃ y : Nat, y < cnP S ∧ cv S 248 y 0 = -1) → Post 0) (h1 : (∀ y : Nat, y < cnP S → ¬ cv S 248 y 0 = -1) → Post 1) : wp_X0_isRight S Post := ⟨cnP S + 1, xr_isRight_2 hB h0 h1 (cnP S) 0 (by omega) (fun _ q => absurd q (Nat.not_lt_zero _))⟩
/-- .. in the reference -/
theorem mr_run14 {S : MST} {M : Nat} {a b c d : Int32} {K : MST → Int32 → Int32 → Int32 → Int32 → Prop} {K2 : MST → Prop} {Post : MST → Int32 → Prop} (hM : S 0 0 = nI M) (hM8 : M ≤ 8) (h : (∀ y : Nat, y < M → ¬ S 6 y = 0) → K S a b c d) (h2 : (∃ y : Nat, y < M ∧ S 6 y = 0) → K2 S) : ∀ (k j : Nat), j + k = M → (∀ y : Nat, y < j → ¬ S 6 y = 0) → wl_X12_run_14 K K2 Post (k + 1) S a b c d (nI j) := by
  intro k
  induction k with
  | zero =>
    intro j hj hz
    unfold wl_X12_run_14
    obtain rfl : j = M := by omega
    rw [hM]
    exact ⟨fun _ => h hz, fun q => absurd (nI_le (Nat.le_refl _) (by omega)) q⟩
  | succ k ih =>
    intro j hj hz
    unfold wl_X12_run_14
    rw [nI_1, hM, nI_clamp (n := j) (by omega)]
    refine ⟨fun q => absurd q (nI_ge (by omega) (by omega)), fun _ => ⟨vp_in_nI (by omega) (by omega), fun w => ih (j + 1) (by omega) (fun y hy => ?_), fun w => h2 ⟨j, by omega, w⟩⟩⟩
    rcases Nat.lt_or_ge y j with q | q
    · exact hz y q
    · rw [show y = j by omega]; exact w
/-- the reference's state as a run's first call begins -/
def bg11 (Sm : MST) : MST := ms (ms (ms (ms (ms (ms (ms (ms Sm 48 (fun _ => Sm 48 0 + 1)) 43 (fun _ => 0)) 37 (fun _ => 0)) 44 (fun _ => 0)) 45 (fun _ => 0)) 46 (fun _ => 0)) 47 (fun _ => 0)) 49 (fun _ => 0)
def bg12 (Sm : MST) : MST := ms (bg11 Sm) 50 (fun t => if t < 4 then 0 else bg11 Sm 50 t)
def bgM (Sm : MST) (b c d : Int32) : MST := ms (ms (ms (bg12 Sm) 51 (upd (bg12 Sm 51) 0 b)) 51 (upd ((ms (bg12 Sm) 51 (upd (bg12 Sm 51) 0 b)) 51) 1 c)) 51 (upd ((ms (ms (bg12 Sm) 51 (upd (bg12 Sm 51) 0 b)) 51 (upd ((ms (bg12 Sm) 51 (upd (bg12 Sm 51) 0 b)) 51) 1 c)) 51) 2 d)
theorem mr_run102 {S0 : MST} {a b c d : Int32} {K : MST → Int32 → Int32 → Int32 → Int32 → Prop} {Post : MST → Int32 → Prop} (h : K (ms S0 50 (fun t => if t < 4 then 0 else S0 50 t)) a b c d) : ∀ (k j : Nat), j + k = 4 → wl_X12_run_102 K Post (k + 1) (ms S0 50 (fun t => if t < j then 0 else S0 50 t)) a b c d (nI j) := by
  intro k
  induction k with
  | zero =>
    intro j hj
    unfold wl_X12_run_102
    obtain rfl : j = 4 := by omega
    exact ⟨fun _ => h, fun q => absurd (show (4 : Int32) ≤ nI 4 by decide) q⟩
  | succ k ih =>
    intro j hj
    unfold wl_X12_run_102
    rw [nI_1, nI_clamp (n := j) (by omega)]
    refine ⟨fun q => absurd ((nI_leI (a := 4) (b := j) (by omega) (by omega)).mp q) (by omega), fun _ => ⟨vp_in_nI (by omega) (by omega), fun S5 e5 => ?_⟩⟩
    have : S5 = ms S0 50 (fun t => if t < j + 1 then 0 else S0 50 t) := by
      rw [e5, ms_s]
      funext q
      by_cases w : q = 50
      · rw [w, ms_s, ms_s]
        funext t
        by_cases w2 : t = j
        · rw [w2, upd_s, if_pos (by omega)]
        · rw [upd_n _ _ w2]
          by_cases w3 : t < j
          · rw [if_pos w3, if_pos (by omega)]
          · rw [if_neg w3, if_neg (by omega)]
      · rw [ms_n _ _ w, ms_n _ _ w, ms_n _ _ w]
    rw [this]
    exact ih (j + 1) (by omega)
theorem mr_run {Sm : MST} {M y r : Nat} {b c d : Int32} {Post : MST → Int32 → Prop} (hM : Sm 0 0 = nI M) (hM8 : M ≤ 8) (hy : y < M) (hall : ∀ y : Nat, y < M → ¬ Sm 6 y = 0) (h48 : Sm 48 0 = nI r) (hr : r < 80)
    (h : wp_X12_call_f (bgM Sm b c d) (nI y) 0 0 (fun S15 => ∃ n_155, wl_X12_run_155 (fun S_190 => ((¬ (((S_190 43 0) : Int32) = 2)) → (Post S_190 (S_190 43 0))) ∧ ((((S_190 43 0) : Int32) = 2) → (Post S_190 0))) Post n_155 S15)) : wp_X12_run Sm (nI y) b c d Post := by
  unfold wp_X12_run
  refine sp_isMethod hM hM8 (fun q => ?_) (fun m hm ea => ⟨fun _ => ⟨M + 1, mr_run14 hM hM8 (fun _ => ⟨fun _ => ?_, fun q => ?_⟩) (fun ⟨z, hz, q⟩ => absurd q (hall z hz)) M 0 (by omega) (fun y hy => absurd hy (by omega))⟩, fun q => absurd q (by decide)⟩)
  · rw [nI_toInt (by omega)] at q; omega
  · rintro _ rfl _ rfl _ rfl _ rfl _ rfl _ rfl _ rfl _ rfl
    refine ⟨5, ?_⟩
    have e0 : ∀ S0 : MST, ms S0 50 (fun t => if t < 0 then 0 else S0 50 t) = S0 := fun S0 => by
      funext q
      by_cases w : q = 50
      · rw [w, ms_s]; funext t; rw [if_neg (Nat.not_lt_zero _)]
      · rw [ms_n _ _ w]
    have key := mr_run102 (S0 := bg11 Sm) (a := nI y) (b := b) (c := c) (d := d) (K := fun S_122 x122_1 x122_2 x122_3 x122_4 => vp_in 0 3 ∧ (∀ S12 : MST, S12 = ms S_122 51 (upd (S_122 51) (0 : Int32).toNatClampNeg x122_2) → (vp_in 1 3 ∧ (∀ S13 : MST, S13 = ms S12 51 (upd (S12 51) (1 : Int32).toNatClampNeg x122_3) → (vp_in 2 3 ∧ (∀ S14 : MST, S14 = ms S13 51 (upd (S13 51) (2 : Int32).toNatClampNeg x122_4) → (wp_X12_call_f S14 x122_1 0 0 (fun S15 => ∃ n_155, wl_X12_run_155 (fun S_190 => ((¬ (((S_190 43 0) : Int32) = 2)) → (Post S_190 (S_190 43 0))) ∧ ((((S_190 43 0) : Int32) = 2) → (Post S_190 0))) Post n_155 S15)))))))) (Post := Post) ⟨by unfold vp_in; decide, by
      rintro _ rfl
      refine ⟨by unfold vp_in; decide, ?_⟩
      rintro _ rfl
      refine ⟨by unfold vp_in; decide, ?_⟩
      rintro _ rfl
      rw [show (0 : Int32).toNatClampNeg = 0 by decide, show (1 : Int32).toNatClampNeg = 1 by decide, show (2 : Int32).toNatClampNeg = 2 by decide]
      exact h⟩ 4 0 (by omega)
    rw [e0] at key
    exact key
  · rw [h48] at q
    exact absurd (nI_inj (b := 80) q (by omega) (by omega)) (by omega)
theorem bgM_k {Sm : MST} {b c d : Int32} : Fm [37, 43, 44, 45, 46, 47, 48, 49, 50, 51] Sm (bgM Sm b c d) := by
  unfold bgM bg12 bg11
  exact Fm.put rfl rfl (Fm.put rfl rfl (Fm.put rfl rfl (Fm.put rfl rfl (Fm.put rfl rfl (Fm.put rfl rfl (Fm.put rfl rfl (Fm.put rfl rfl (Fm.put rfl rfl (Fm.put rfl rfl (Fm.put rfl rfl (Fm.put rfl rfl Fm.rf)))))))))))
theorem bgM_v {Sm : MST} {b c d : Int32} : bgM Sm b c d 37 0 = 0 ∧ bgM Sm b c d 43 0 = 0 ∧ bgM Sm b c d 44 0 = 0 ∧ bgM Sm b c d 45 0 = 0 ∧ bgM Sm b c d 46 0 = 0 ∧ bgM Sm b c d 47 0 = 0 ∧ bgM Sm b c d 48 0 = Sm 48 0 + 1 ∧ bgM Sm b c d 49 0 = 0 ∧ (∀ t : Nat, t < 4 → bgM Sm b c d 50 t = 0) ∧ bgM Sm b c d 51 0 = b ∧ bgM Sm b c d 51 1 = c ∧ bgM Sm b c d 51 2 = d := by
  refine ⟨rfl, rfl, rfl, rfl, rfl, rfl, rfl, rfl, fun t ht => ?_, rfl, rfl, rfl⟩
  show (if t < 4 then 0 else bg11 Sm 50 t) = 0
  exact if_pos ht
theorem mono_go {K K' : CST → Prop} (h : ∀ S : CST, K S → K' S) : True := trivial
theorem zc_go {S : CST} {Sm : MST} {y r : Nat} {b c d : Int32} (hJ : J S) (hM : MI Sm (cnP S)) (hQ : FR1 S Sm) (hy : y < cnP S) (hall : ∀ z : Nat, z < cnP S → ¬ Sm 6 z = 0) (h48 : Sm 48 0 = nI r) (hr : r < 80) : wp_X7_go S (nI y) b c d (fun S' v => wp_X12_run Sm (nI y) b c d (fun Sm' v' => FR1 S' Sm' ∧ v = v')) := by
  obtain ⟨⟨hM0, hM8, hT, hlk, hrest⟩, hRw, hCI, hQz⟩ := id hM
  obtain ⟨h1, h2, t1, t2, t3, t4, t5, t6, t7⟩ := id hQ
  obtain ⟨v37, v43, v44, v45, v46, v47, v48, v49, v50, v51, v52, v53⟩ := bgM_v (Sm := Sm) (b := b) (c := c) (d := d)
  have em := bgM_k (Sm := Sm) (b := b) (c := c) (d := d)
  have h6 : ∀ z : Nat, z < cnP S → Sm 6 z = 1 := fun z hz => ((hlk z hz).resolve_left (hall z hz)).1
  have hMB : MB (bgM Sm b c d) (cnP S) := (show MB Sm (cnP S) from ⟨⟨⟨hM0, h6, hrest⟩, hM8, hT, fun z hz => ((hlk z hz).resolve_left (hall z hz)).2⟩, hRw, hCI⟩).same (fun q hq => em.k (by simp; omega)) (em 13 rfl) (em 15 rfl) (em 17 rfl) (fun q _ _ => em.k (by simp; omega))
  obtain ⟨ax, l, n, q1, hax3, _⟩ := hT y hy
  unfold wp_X7_go wp_X10_beginRun
  rintro _ rfl _ rfl _ rfl _ rfl _ rfl _ rfl
  refine xr_noteTrap (fun S3 e3 r0 r1 r2 r3 => ?_)
  rintro _ rfl _ rfl _ rfl _ rfl
  refine ⟨vp_c0, ?_⟩
  rintro _ rfl
  refine ⟨vp_c1, ?_⟩
  rintro _ rfl
  refine ⟨vp_c2, ?_⟩
  intro S20 e20
  rw [show (0 : Int32).toNatClampNeg = 0 by decide, show (1 : Int32).toNatClampNeg = 1 by decide, show (2 : Int32).toNatClampNeg = 2 by decide] at e20
  refine ⟨2147483647 + 1, ?_⟩
  have e : Ex [126, 127, 128, 129, 140, 200, 201, 202, 203, 204, 205, 210] S S20 := by
    rw [e20]
    exact Ex.cs (by decide) (Ex.cs (by decide) (Ex.cs (by decide) (Ex.cs (by decide) (Ex.cs (by decide) (Ex.cs (by decide) (Ex.cs (by decide) (Ex.step e3 (by decide) (Ex.cs (by decide) (Ex.cs (by decide) (Ex.cs (by decide) (Ex.cs (by decide) (Ex.cs (by decide) (Ex.cs (by decide) Ex.rf)))))))))))))
  have p1 : cnP S20 = cnP S := congrArg Prod.fst e.1
  have hJ20 : J S20 := hJ.ex e rfl
  have g140 : cv S20 140 0 0 = b ∧ cv S20 140 0 1 = c ∧ cv S20 140 0 2 = d := by
    rw [e20, cs_s]
    refine ⟨?_, ?_, ?_⟩
    · rw [upd_n _ _ (by decide), cs_s, upd_n _ _ (by decide), cs_s, upd_s]
    · rw [upd_n _ _ (by decide), cs_s, upd_s]
    · rw [upd_s]
  have g126 : cv S20 126 0 0 = nI 0 := by
    rw [e20, cs_c (by decide), cs_c (by decide), cs_c (by decide), cs_c (by decide), cs_c (by decide), cs_c (by decide), cs_s]; rfl
  have g127 : cv S20 127 0 0 = 4 := by
    rw [e20, cs_c (by decide), cs_c (by decide), cs_c (by decide), cs_c (by decide), cs_c (by decide), cs_s]
  have g128 : cv S20 128 0 0 = nI y := by
    rw [e20, cs_c (by decide), cs_c (by decide), cs_c (by decide), cs_c (by decide), cs_s]
  have to3 : ∀ k : Nat, k ≠ 126 → k ≠ 127 → k ≠ 128 → k ≠ 129 → k ≠ 140 → cv S20 k 0 = cv S3 k 0 := fun k a1 a2 a3 a4 a5 => by
    rw [e20, cs_c a5, cs_c a5, cs_c a5, cs_c a4, cs_c a3, cs_c a2, cs_c a1]
  have g201 : cv S20 201 0 0 = nI 0 := by
    rw [to3 201 (by decide) (by decide) (by decide) (by decide) (by decide), e3.2 201 rfl, cs_c (by decide), cs_c (by decide), cs_c (by decide), cs_c (by decide), cs_s]; rfl
  have g200 : cv S20 200 0 0 = Sm 48 0 + 1 := by
    rw [to3 200 (by decide) (by decide) (by decide) (by decide) (by decide), e3.2 200 rfl, cs_c (by decide), cs_c (by decide), cs_c (by decide), cs_c (by decide), cs_c (by decide), cs_s, t1]
  have g202 : cv S20 202 0 0 = 0 := by
    rw [to3 202 (by decide) (by decide) (by decide) (by decide) (by decide), e3.2 202 rfl, cs_c (by decide), cs_c (by decide), cs_c (by decide), cs_s]
  have g203 : cv S20 203 0 0 = 0 := by
    rw [to3 203 (by decide) (by decide) (by decide) (by decide) (by decide), e3.2 203 rfl, cs_c (by decide), cs_c (by decide), cs_s]
  have g204 : cv S20 204 0 0 = 0 := by
    rw [to3 204 (by decide) (by decide) (by decide) (by decide) (by decide), e3.2 204 rfl, cs_c (by decide), cs_s]
  have g205 : cv S20 205 0 0 = 0 := by
    rw [to3 205 (by decide) (by decide) (by decide) (by decide) (by decide), e3.2 205 rfl, cs_s]
  have g210 : ∀ t : Nat, t < 4 → cv S20 210 0 t = 0 := fun t ht => by
    rw [to3 210 (by decide) (by decide) (by decide) (by decide) (by decide)]
    rcases (show t = 0 ∨ t = 1 ∨ t = 2 ∨ t = 3 by omega) with rfl | rfl | rfl | rfl
    · exact r0
    · exact r1
    · exact r2
    · exact r3
  have hCa : CaR S20 (bgM Sm b c d) 0 0 y ax (fun t => if t < ax then bgM Sm b c d 51 (0 + t) else 0) := by
    refine ⟨h1.ex e rfl em rfl, h2.same (e.2 40 rfl) (e.2 50 rfl) (e.2 60 rfl) (em 12 rfl) (em 13 rfl) (em 14 rfl), ⟨g200.trans v48.symm, ⟨r + 1, by omega, by rw [v48, h48, nI_1]⟩, g202.trans v45.symm, g203.trans v46.symm, g204.trans v47.symm, g205.trans v49.symm, fun t ht => (g210 t ht).trans (v50 t ht).symm⟩, g126, g127, g128, g201, v44, by omega, by rw [p1]; exact hy, by omega, fun t ht => ?_, fun f hf => absurd hf (Nat.not_lt_zero _)⟩
    show cv S20 140 0 t = if t < ax then bgM Sm b c d 51 (0 + t) else 0
    rw [if_pos ht, Nat.zero_add]
    rcases (show t = 0 ∨ t = 1 ∨ t = 2 by omega) with rfl | rfl | rfl
    · rw [g140.1, v51]
    · rw [g140.2.1, v52]
    · rw [g140.2.2, v53]
  have hax' : bgM Sm b c d 1 y = nI ax := by rw [em 1 rfl]; exact q1
  have key := zc_call_f (Post := fun S2 Sm2 => OutR S2 Sm2) (b := 0) (a4 := 0) p1 hJ20 hMB hCa v37 hax' (by omega) (fun t ht => if_pos ht) (fun t ht _ => if_neg (by omega)) (fun f _ _ hf => absurd hf (Nat.not_lt_zero _)) (fun S' Sm' w => Or.inl w) (fun S' Sm' _ w1 w2 w => Or.inr ⟨_, _, by omega, w1, w2.trans v43, w⟩)
  unfold wl_X7_go_52
  refine ⟨fun q => absurd q (by decide), fun _ => ⟨fun q => absurd g127 q, fun _ => ⟨fun _ => ?_, fun q => absurd (g128.symm.trans q) (nI_neg1 (by omega))⟩⟩⟩
  refine an_X7_begin (sp_X7_begin (Post := fun S2 => S2.2 = S20.2 ∧ J S2) hJ20 (fun S2 a b => ⟨a, b⟩)) key (fun S2 _ hJ2 hx2 => ?_)
  refine an_X7_choosePath (sp_X7_choosePath (Post := fun S3 => cnP S3 = cnP S2 ∧ J S3) hJ2.2 (fun S3 a b => ⟨a, b⟩)) hx2 (fun S3 _ hJ3 hx3 => ?_)
  have hP3 : cnP S3 = cnP S := hJ3.1.trans ((congrArg Prod.fst hJ2.1).trans p1)
  have hst : wp_X12_call_f (bgM Sm b c d) (nI y) 0 0 (fun S' => (MB S' (cnP S) ∧ ¬ S' 43 0 = 0) ∨ (RI S' (cnP S) 1 ∧ S' 44 0 = nI 1)) := sp_call_f (b := 0) (s := 0) (F := 0) hMB hy hax' hax3 (by omega) v37 (by omega) v44 (by omega) v43 (fun S' hX' hne => Or.inl ⟨hX', hne⟩) (fun S' hX' hlt hF15 e44 e43 e37 hfr e7' hcd hF' => Or.inr ⟨⟨hX', by omega, by omega, e37, e43, hF', fun t ht => absurd ht (by omega)⟩, e44⟩)
  obtain ⟨Sm2, ⟨ho, hs⟩, hone⟩ := det_use1 dt_wp_X12_call_f (an_X12_call_f hx3 hst (fun S' _ a b => (⟨a, b⟩ : OutR S3 S' ∧ _)))
  -- what the reference's run comes to
  have out : ∀ S' : CST, (∃ k : Nat, wl_X12_run_155 (fun Sm' => EnR S' Sm' ∧ MB Sm' (cnP S)) (fun _ _ => True) k Sm2) → ((¬ (((cv S' 127 0 0) : Int32) = 4)) → wp_X12_run Sm (nI y) b c d (fun Sm' v' => FR1 S' Sm' ∧ cv S' 127 0 0 = v')) ∧ ((((cv S' 127 0 0) : Int32) = 4) → wp_X12_run Sm (nI y) b c d (fun Sm' v' => FR1 S' Sm' ∧ 3 = v')) := fun S' ⟨k, hk⟩ => by
    have fine : ∀ v : Int32, (∀ Sm' : MST, EnR S' Sm' → (¬ Sm' 43 0 = 2 → v = Sm' 43 0) ∧ (Sm' 43 0 = 2 → v = 0)) → wp_X12_run Sm (nI y) b c d (fun Sm' v' => FR1 S' Sm' ∧ v = v') := fun v hv =>
      mr_run hM0 hM8 hy hall h48 hr (an_X12_call_f hone hone (fun a _ ea _ => ⟨k, by
        rw [ea]
        exact mono_155 (fun Sm' w => ⟨fun q => ⟨w.1.1, (hv Sm' w.1).1 q⟩, fun q => ⟨w.1.1, (hv Sm' w.1).2 q⟩⟩) k Sm2 hk⟩))
    refine ⟨fun _ => fine _ (fun Sm' hE => ?_), fun q4 => fine _ (fun Sm' hE => ?_)⟩
    · rcases hE.2 with w | w | w
      · rw [w.1, w.2]; exact ⟨fun _ => rfl, fun q => absurd q (by decide)⟩
      · rw [w.1, w.2]; exact ⟨fun q => absurd rfl q, fun _ => rfl⟩
      · rw [w.1, w.2]; exact ⟨fun _ => rfl, fun q => absurd q (by decide)⟩
    · rcases hE.2 with w | w | w
      · rw [w.2] at q4; exact absurd q4 (by decide)
      · rw [w.2] at q4; exact absurd q4 (by decide)
      · rw [w.2] at q4; exact absurd q4 (by decide)
  rcases ho with hE | ⟨F', s', g16, g37, g43, hR'⟩
  · have hMB1 : MB Sm2 (cnP S) := hs.elim (fun w => w.1) (fun w => w.1.1)
    have h43 : ¬ Sm2 43 0 = 0 := by rcases hE.2 with w | w | w <;> (rw [w.1]; decide)
    have hk := out S3 ⟨1, by unfold wl_X12_run_155; exact ⟨fun _ => ⟨hE, hMB1⟩, fun q => absurd q h43⟩⟩
    have g127' : ¬ cv S3 127 0 0 = 4 := by rcases hE.2 with w | w | w <;> (rw [w.2]; decide)
    show wl_X7_go_52 _ _ (2147483646 + 1) S3 (0 + 1)
    unfold wl_X7_go_52
    exact ⟨fun _ => hk, fun _ => ⟨fun _ => hk, fun q => absurd q g127'⟩⟩
  · rcases hs with w | ⟨w1, w2⟩
    · exact absurd g43 w.2
    · obtain rfl : 1 = F' := nI_inj (w1.2.2.2.1.symm.trans g37) (by omega) (by omega)
      have b3 := hR'.2.2.2.2.2.2.2.2.1
      obtain rfl : 1 = s' := nI_inj (w2.symm.trans hR'.2.2.2.2.2.2.2.1) (by omega) (by omega)
      have htm : tm Sm2 1 1 ≤ 1949401 := by
        have := fm_le Sm2 0
        show (1500 - 1) * 1300 + (0 + fm Sm2 0) ≤ 1949401
        omega
      exact lz_go (M := cnP S) 1949401 S3 Sm2 1 1 1 2147483646 hP3 hJ3.2 w1 hR' htm (by omega) (by omega) (fun S' _ _ hk => out S' hk)
theorem xq_run {S : CST} {Sm : MST} {a b c d : Int32} (hJ : J S) (hM : MI Sm (cnP S)) (hQ : FR1 S Sm) : wp_X11_run S a b c d (fun S' v => wp_X12_run Sm a b c d (fun Sm' v' => FR1 S' Sm' ∧ v = v')) := by
  obtain ⟨⟨hM0, hM8, hT, hlk, hrest⟩, hRw, hCI, hQz⟩ := id hM
  have hB := BK.of hJ hQ.1.1
  have e6 : ∀ z : Nat, z < cnP S → (cv S 248 z 0 = -1 ↔ Sm 6 z = 0) := fun z hz => by
    rcases (hQ.1.1.1 z hz).2.2.2.2.2.2 with w | ⟨w1, w2, ⟨bb, hb8, w3⟩, _⟩
    · exact ⟨fun _ => w.2, fun _ => w.1⟩
    · exact ⟨fun q => by rw [w2, w3] at q; exact absurd q (nI_neg1 (by omega)), fun q => by rw [w1] at q; exact absurd q (by decide)⟩
  unfold wp_X11_run
  refine xp_X0_at hB (fun y hy e => ⟨fun q => absurd q (nI_nn y (by omega)), fun _ => ?_⟩) (fun hno => ⟨fun _ => ?_, fun q => absurd (by decide) q⟩)
  · subst e
    refine xr_isRight hB (fun ⟨z, hz, c⟩ => ⟨fun q => absurd rfl q, fun _ => ?_⟩) (fun hall => ⟨fun _ => ?_, fun q => absurd q (by decide)⟩)
    · unfold wp_X12_run
      refine sp_isMethod hM0 hM8 (fun q => ?_) (fun m hm ea => ⟨fun _ => ⟨cnP S + 1, mr_run14 hM0 hM8 (fun hall => absurd ((e6 z hz).mp c) (hall z hz)) (fun _ => ⟨hQ, rfl⟩) (cnP S) 0 (by omega) (fun y hy => absurd hy (by omega))⟩, fun q => absurd q (by decide)⟩)
      rw [nI_toInt (by omega)] at q; omega
    · have hall6 : ∀ z : Nat, z < cnP S → ¬ Sm 6 z = 0 := fun z hz w => hall z hz ((e6 z hz).mpr w)
      obtain ⟨t1, ⟨r, hr, h48⟩, _⟩ := hQ.2.2
      rw [t1, h48]
      refine ⟨fun lt => zc_go hJ hM hQ hy hall6 h48 (Nat.not_le.mp (fun w => absurd lt (Int32.not_lt.mpr (nI_le (a := 80) w (by omega))))), fun ge => ?_⟩
      have h80 : r = 80 := by
        rcases Nat.lt_or_ge r 80 with w | w
        · exact absurd (Int32.not_le.mp (nI_ge (a := r) (b := 80) w (by omega))) ge
        · omega
      unfold wp_X12_run
      refine sp_isMethod hM0 hM8 (fun q => ?_) (fun m hm ea => ⟨fun _ => ⟨cnP S + 1, mr_run14 hM0 hM8 (fun _ => ⟨fun q => absurd (by rw [h48, h80]; rfl) q, fun _ => ⟨hQ, rfl⟩⟩) (fun ⟨z, hz, w⟩ => absurd w (hall6 z hz)) (cnP S) 0 (by omega) (fun y hy => absurd hy (by omega))⟩, fun q => absurd q (by decide)⟩)
      rw [nI_toInt (by omega)] at q; omega
  · unfold wp_X12_run
    exact sp_isMethod hM0 hM8 (fun _ => ⟨fun q => absurd rfl q, fun _ => ⟨hQ, rfl⟩⟩) (fun m hm ea => absurd ea (hno m hm))
