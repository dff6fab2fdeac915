/-! BOTH: the loop of a run -/
theorem mono_goes {S : MST} {P Q : MST → Prop} (h : wp_X12_goes S P) (hq : ∀ S' : MST, P S' → Q S') : wp_X12_goes S Q := an_X12_goes h h (fun S' _ p _ => hq S' p)
theorem mono_goesByPart {S : MST} {P Q : MST → Prop} (h : wp_X12_goesByPart S P) (hq : ∀ S' : MST, P S' → Q S') : wp_X12_goesByPart S Q := an_X12_goesByPart h h (fun S' _ p _ => hq S' p)
theorem mono_155 {K K' : MST → Prop} {Post Post' : MST → Int32 → Prop} (hK : ∀ S : MST, K S → K' S) : ∀ (k : Nat) (S : MST), wl_X12_run_155 K Post k S → wl_X12_run_155 K' Post' k S := by
  intro k
  induction k with
  | zero => intro S h; exact h
  | succ k ih =>
    intro S h
    unfold wl_X12_run_155 at h ⊢
    refine ⟨fun q => hK S (h.1 q), fun q => ⟨(h.2 q).1, fun w => ?_, fun w => ?_⟩⟩
    · exact mono_goesByPart ((h.2 q).2.1 w) (fun S' => ih S')
    · exact mono_goes ((h.2 q).2.2 w) (fun S' => ih S')
theorem J.c31 {S : CST} (hJ : J S) : cnC S ≤ 2 ^ 31 := by
  obtain ⟨i1, _, _, _, _, i6, _, i8⟩ := id hJ
  have : tot S ≤ cnP S * 13 := sN_const (cnP S) (fun i hi => by
    show Rt S i + (cv S 283 i 0).toNatClampNeg ≤ 13
    obtain ⟨MM, m1, m2, -⟩ := i6 i hi
    have : Rt S i ≤ 1 := by unfold Rt; split <;> omega
    rw [m1, nI_clamp (by omega)]; omega)
  omega
/-- what a step of the reference is to the loop -/
def StR (Sm : MST) (M F s : Nat) (R : (MST → Prop) → Prop) : Prop :=
  (∀ P Q : MST → Prop, R P → (∀ S' : MST, P S' → Q S') → R Q) ∧ (∀ P Q : MST → Prop, R P → R Q → R (fun S' => P S' ∧ Q S')) ∧ (∀ P : MST → Prop, R P → ∃ a : MST, P a ∧ R (fun a' => a' = a)) ∧
  R (fun S' => (MB S' M ∧ ¬ S' 43 0 = 0) ∨ ∃ F' s' : Nat, RI S' M F' ∧ S' 44 0 = nI s' ∧ s' ≤ 1500 ∧ tm S' F' s' < tm Sm F s) ∧ ∀ (K : MST → Prop) (Post : MST → Int32 → Prop) (k : Nat), R (fun S' => wl_X12_run_155 K Post k S') → wl_X12_run_155 K Post (k + 1) Sm
theorem st_R {S : CST} {Sm : MST} {M f s : Nat} (hM : cnP S = M) (hJ : J S) (hRI : RI Sm M (f + 1)) (hR : RnR S Sm (f + 1) s) : ∃ R : (MST → Prop) → Prop, StR Sm M (f + 1) s R ∧ ResR S R := by
  have hs := hR.2.2.2.2.2.2.2.1
  have hs15 := hR.2.2.2.2.2.2.2.2.1
  obtain ⟨hMB, hF1, hF16, h37, h43, hFr, hWt⟩ := id hRI
  have hM8 := hMB.1.2.1
  by_cases h40 : Sm 40 f = -1
  · refine ⟨fun P => wp_X12_goes Sm P, ⟨fun P Q h hq => mono_goes h hq, fun P Q h1 h2 => an_X12_goes h1 h2 (fun S' _ a b => ⟨a, b⟩), fun P h => det_use1 dt_wp_X12_goes h, sp_goes hRI h40 hs hs15 (fun S' a b => Or.inl ⟨a, b⟩) (fun S' F' s' a b c d => Or.inr ⟨F', s', a, b, c, d⟩), fun K Post k h => ?_⟩, zs_ins hM hJ.c31 hJ hRI hR h40⟩
    unfold wl_X12_run_155
    rw [h37, nI_m1 (n := f + 1) (by omega), show f + 1 - 1 = f by omega, nI_clamp (n := f) (by omega), h40]
    exact ⟨fun q => absurd h43 q, fun _ => ⟨vp_in_nI (by omega) (by omega), fun ge => absurd ge (by decide), fun _ => h⟩⟩
  · refine ⟨fun P => wp_X12_goesByPart Sm P, ⟨fun P Q h hq => mono_goesByPart h hq, fun P Q h1 h2 => an_X12_goesByPart h1 h2 (fun S' _ a b => ⟨a, b⟩), fun P h => det_use1 dt_wp_X12_goesByPart h, sp_goesByPart hRI h40 hs hs15 (fun S' a b => Or.inl ⟨a, b⟩) (fun S' F' s' a b c d => Or.inr ⟨F', s', a, b, c, d⟩), fun K Post k h => ?_⟩, zs_part hM hJ.c31 hJ hRI hR h40⟩
    unfold wl_X12_run_155
    rw [h37, nI_m1 (n := f + 1) (by omega), show f + 1 - 1 = f by omega, nI_clamp (n := f) (by omega)]
    refine ⟨fun q => absurd h43 q, fun _ => ⟨vp_in_nI (by omega) (by omega), fun _ => h, fun lt => ?_⟩⟩
    rw [show f + 1 - 1 = f by omega] at hFr
    obtain ⟨m, n, hm, h38, hn, hn60, hcase⟩ := hFr
    rcases hcase with ⟨e40, _⟩ | ⟨j, k, N, at', e17, hj, hk, e40, _⟩
    · exact absurd e40 h40
    · rw [e40] at lt
      exact absurd (nI_le (a := 0) (b := 12 * m + j) (Nat.zero_le _) (by omega)) lt
/-- the class's loop ends where the reference's does -/
theorem lz_go {M : Nat} {K : CST → Prop} {Post : CST → Int32 → Prop} : ∀ (t : Nat) (S : CST) (Sm : MST) (F s j n : Nat), cnP S = M → J S → RI Sm M F → RnR S Sm F s → tm Sm F s ≤ t → j + 2 * t + 2 ≤ 4000000 → j + n = 2147483647 →
    (∀ S' : CST, J S' → cnP S' = M → (∃ k : Nat, wl_X12_run_155 (fun Sm' => EnR S' Sm' ∧ MB Sm' M) (fun _ _ => True) k Sm) → K S') → wl_X7_go_52 K Post (n + 1) S (nI j) := by
  intro t
  induction t using Nat.strongRecOn with
  | ind t ih =>
    intro S Sm F s j n hP hJ hRI hR ht hj hjn hK
    obtain ⟨f, rfl⟩ : ∃ f : Nat, F = f + 1 := ⟨F - 1, by have := hRI.2.1; omega⟩
    obtain ⟨R, ⟨hmono, hconj, hdet, hstep, hwl⟩, hRes⟩ := st_R hP hJ hRI hR
    have h127 := hR.2.2.2.2.1
    have h128 := hR.2.2.2.2.2.1
    have fin : ∀ (S3 : CST) (j' n' : Nat), J S3 → cnP S3 = M → R (fun Sm1 => OutR S3 Sm1) → j' ≤ j + 2 → j' + n' = 2147483647 → wl_X7_go_52 K Post (n' + 1) S3 (nI j') := by
      intro S3 j' n' hJ3 hP3 hR3 hj' hn'
      obtain ⟨Sm1, ⟨ho, hs⟩, hone⟩ := hdet _ (hconj _ _ hR3 hstep)
      have wrap : ∀ Q : MST → Prop, (∃ k : Nat, wl_X12_run_155 Q (fun _ _ => True) k Sm1) → ∃ k : Nat, wl_X12_run_155 Q (fun _ _ => True) k Sm := fun Q ⟨k, hk⟩ => ⟨k + 1, hwl _ _ k (hmono _ _ hone (fun a e => by rw [e]; exact hk))⟩
      rcases ho with hE | ⟨F', s', g16, g37, g43, hR'⟩
      · have hMB1 : MB Sm1 M := hs.elim (fun w => w.1) (fun ⟨_, _, w, _⟩ => w.1)
        have h43 : ¬ Sm1 43 0 = 0 := by rcases hE.2 with w | w | w <;> (rw [w.1]; decide)
        have hk := hK S3 hJ3 hP3 (wrap _ ⟨1, by unfold wl_X12_run_155; exact ⟨fun _ => ⟨hE, hMB1⟩, fun q => absurd q h43⟩⟩)
        have g127 : ¬ cv S3 127 0 0 = 4 := by rcases hE.2 with w | w | w <;> (rw [w.2]; decide)
        unfold wl_X7_go_52
        exact ⟨fun _ => hk, fun _ => ⟨fun _ => hk, fun q => absurd q g127⟩⟩
      · rcases hs with w | ⟨F2, s2, w1, w2, w3, w4⟩
        · exact absurd g43 w.2
        · have b2 := w1.2.2.1
          obtain rfl : F2 = F' := nI_inj (w1.2.2.2.1.symm.trans g37) (by omega) (by omega)
          have b3 := hR'.2.2.2.2.2.2.2.2.1
          obtain rfl : s2 = s' := nI_inj (w2.symm.trans hR'.2.2.2.2.2.2.2.1) (by omega) (by omega)
          exact ih (tm Sm1 F2 s2) (by omega) S3 Sm1 F2 s2 j' n' hP3 hJ3 w1 hR' (Nat.le_refl _) (by omega) hn' (fun S' a b c => hK S' a b (wrap _ c))
    rcases hRes with hl | hr
    · exact fin S j n hJ hP hl (by omega) hjn
    · obtain ⟨n, rfl⟩ : ∃ n' : Nat, n = n' + 1 := ⟨n - 1, by omega⟩
      unfold wl_X7_go_52
      rw [nI_1]
      refine ⟨fun q => absurd q (nI_ge (a := j) (b := 4000000) (by omega) (by omega)), fun _ => ⟨fun q => absurd h127 q, fun _ => ⟨fun q => absurd h128 q, fun _ => ?_⟩⟩⟩
      refine an_X7_turn (sp_X7_turn (Post := fun S1 => S1.2 = S.2 ∧ J S1) hJ (fun S1 a b => ⟨a, b⟩)) hr (fun S1 _ hJ1 hx => ?_)
      have hP1 : cnP S1 = M := (congrArg Prod.fst hJ1.1).trans hP
      rcases hx with hx | ⟨x1, x2, x3⟩
      · exact fin S1 (j + 1) n hJ1.2 hP1 hx (by omega) (by omega)
      · obtain ⟨n, rfl⟩ : ∃ n' : Nat, n = n' + 1 := ⟨n - 1, by omega⟩
        unfold wl_X7_go_52
        rw [nI_1]
        refine ⟨fun q => absurd q (nI_ge (a := j + 1) (b := 4000000) (by omega) (by omega)), fun _ => ⟨fun q => absurd x1 q, fun _ => ⟨fun _ => ?_, fun q => absurd q x2⟩⟩⟩
        refine an_X7_begin (sp_X7_begin (Post := fun S2 => S2.2 = S1.2 ∧ J S2) hJ1.2 (fun S2 a b => ⟨a, b⟩)) x3 (fun S2 _ hJ2 hx2 => ?_)
        exact an_X7_choosePath (sp_X7_choosePath (Post := fun S3 => cnP S3 = cnP S2 ∧ J S3) hJ2.2 (fun S3 a b => ⟨a, b⟩)) hx2 (fun S3 _ hJ3 hx3 => fin S3 (j + 1 + 1) n hJ3.2 (hJ3.1.trans ((congrArg Prod.fst hJ2.1).trans hP1)) hx3 (by omega) (by omega))
