/-! the whole of run(), in the reference -/
theorem sp_run155 {M : Nat} {K : MST → Prop} {Post : MST → Int32 → Prop} (hK : ∀ S' : MST, MB S' M → ¬ S' 43 0 = 0 → K S') :
    ∀ (k : Nat) (S : MST) (F s : Nat), RI S M F → S 44 0 = nI s → s ≤ 1500 → tm S F s ≤ k → wl_X12_run_155 K Post (k + 2) S := by
  intro k
  induction k with
  | zero =>
    intro S F s hR hs hs15 ht
    obtain ⟨hMB, hF1, hF16, h37, h43, hFr, hWt⟩ := id hR
    -- no call that is open has nothing left
    have hpos : 1 ≤ fm S (F - 1) := by
      obtain ⟨m, n, hm, h38, hn, hn60, hcase⟩ := hFr
      unfold fm
      rcases hcase with ⟨e40, i, d, hi, h39, _⟩ | ⟨j, k, N, at', e17, hj, hk, e40, e23, hN, h39, hat⟩
      · rw [if_pos e40, h39, nI_clamp (n := i) (by omega)]; omega
      · rw [if_neg (by rw [e40]; exact nI_neg1 (by have := hMB.1.2.1; omega)), h39, nI_clamp (n := at') (by omega)]; omega
    have e : sN (fm S) F = sN (fm S) (F - 1) + fm S (F - 1) := by
      obtain ⟨G, rfl⟩ : ∃ G : Nat, F = G + 1 := ⟨F - 1, by omega⟩
      rfl
    unfold tm at ht
    omega
  | succ k ih =>
    intro S F s hR hs hs15 ht
    obtain ⟨hMB, hF1, hF16, h37, h43, hFr, hWt⟩ := id hR
    obtain ⟨f, rfl⟩ : ∃ f : Nat, F = f + 1 := ⟨F - 1, by omega⟩
    have go : ∀ S' : MST, (MB S' M ∧ ¬ S' 43 0 = 0) ∨ (∃ F' s' : Nat, RI S' M F' ∧ S' 44 0 = nI s' ∧ s' ≤ 1500 ∧ tm S' F' s' < tm S (f + 1) s) → wl_X12_run_155 K Post (k + 2) S' := by
      intro S' h
      rcases h with ⟨a, b⟩ | ⟨F', s', a, b, c, d⟩
      · unfold wl_X12_run_155
        exact ⟨fun _ => hK S' a b, fun q => absurd q b⟩
      · exact ih S' F' s' a b c (by omega)
    unfold wl_X12_run_155
    rw [h37, nI_m1 (n := f + 1) (by omega), show f + 1 - 1 = f by omega, nI_clamp (n := f) (by omega)]
    refine ⟨fun q => absurd h43 q, fun _ => ⟨vp_in_nI (by omega) (by omega), fun ge => ?_, fun lt => ?_⟩⟩
    · exact sp_goesByPart hR (fun q => by rw [q] at ge; exact absurd ge (by decide)) hs hs15 (fun S' a b => go S' (Or.inl ⟨a, b⟩)) (fun S' F' s' a b c d => go S' (Or.inr ⟨F', s', a, b, c, d⟩))
    · refine sp_goes hR ?_ hs hs15 (fun S' a b => go S' (Or.inl ⟨a, b⟩)) (fun S' F' s' a b c d => go S' (Or.inr ⟨F', s', a, b, c, d⟩))
      rw [show f + 1 - 1 = f by omega] at hFr
      obtain ⟨m, n, hm, h38, hn, hn60, hcase⟩ := hFr
      rcases hcase with ⟨e40, _⟩ | ⟨j, k, N, at', e17, hj, hk, e40, _⟩
      · exact e40
      · rw [e40] at lt
        exact absurd (nI_le (a := 0) (b := 12 * m + j) (Nat.zero_le _) (by have := hMB.1.2.1; omega)) lt
theorem sp_run102 {S0 : MST} {a b c d : Int32} {K : MST → Int32 → Int32 → Int32 → Int32 → Prop} {Post : MST → Int32 → Prop} (h : ∀ S : MST, (∀ q : Nat, q ≠ 50 → S q = S0 q) → K S a b c d) : ∀ (k j : Nat), j + k = 4 → ∀ S : MST, (∀ q : Nat, q ≠ 50 → S q = S0 q) → wl_X12_run_102 K Post (k + 1) S a b c d (nI j) := by
  intro k
  induction k with
  | zero =>
    intro j hj S hS
    unfold wl_X12_run_102
    obtain rfl : j = 4 := by omega
    exact ⟨fun _ => h S hS, fun q => absurd (show (4 : Int32) ≤ nI 4 by decide) q⟩
  | succ k ih =>
    intro j hj S hS
    unfold wl_X12_run_102
    rw [nI_1]
    exact ⟨fun q => absurd ((nI_leI (a := 4) (b := j) (by omega) (by omega)).mp q) (by omega), fun _ => ⟨vp_in_nI (by omega) (by omega), fun S5 e5 => ih (j + 1) (by omega) S5 (fun q a => by rw [e5, ms_n _ _ a]; exact hS q a)⟩⟩
theorem sp_run14 {S : MST} {M : Nat} {a b c d : Int32} {K : MST → Int32 → Int32 → Int32 → Int32 → Prop} {K2 : MST → Prop} {Post : MST → Int32 → Prop} (hM : S 0 0 = nI M) (hM8 : M ≤ 8) (h : (∀ y : Nat, y < M → ¬ S 6 y = 0) → K S a b c d) (h2 : K2 S) : ∀ (k j : Nat), j + k = M → (∀ y : Nat, y < j → ¬ S 6 y = 0) → wl_X12_run_14 K K2 Post (k + 1) S a b c d (nI j) := by
  intro k
  induction k with
  | zero =>
    intro j hj hz
    unfold wl_X12_run_14
    obtain rfl : j = M := by omega
    rw [hM]
    exact ⟨fun _ => h hz, fun q => absurd (nI_le (Nat.le_refl _) (by omega)) q⟩
  | succ k ih =>
    intro j hj hz
    unfold wl_X12_run_14
    rw [nI_1, hM, nI_clamp (n := j) (by omega)]
    refine ⟨fun q => absurd q (nI_ge (by omega) (by omega)), fun _ => ⟨vp_in_nI (by omega) (by omega), fun w => ih (j + 1) (by omega) (fun y hy => ?_), fun _ => h2⟩⟩
    rcases Nat.lt_or_ge y j with q | q
    · exact hz y q
    · rw [show y = j by omega]; exact w
/-- run(): it ends, and what it keeps -/
theorem sp_run {S : MST} {M : Nat} {a b c d : Int32} {Post : MST → Int32 → Prop} (hP : PI S M) (hR : rowN S) (hC : CI S M) (hsame : ∀ r : Int32, Post S r)
    (h : ∀ (S' : MST) (r : Int32), (∀ y : Nat, y < M → S 6 y = 1) → MB S' M → Post S' r) : wp_X12_run S a b c d Post := by
  obtain ⟨hM, hM8, hT, hlk, hrest⟩ := hP
  unfold wp_X12_run
  refine sp_isMethod hM hM8 (fun _ => ⟨fun q => absurd rfl q, fun _ => hsame _⟩) (fun m hm ea => ⟨fun _ => ⟨M + 1, sp_run14 hM hM8 (fun hall => ⟨fun _ S4 e4 S5 e5 S6 e6 S7 e7 S8 e8 S9 e9 S10 e10 S11 e11 => ⟨5, sp_run102 (S0 := S11) (fun S12 h12 => ?_) 4 0 (by omega) S11 (fun _ _ => rfl)⟩, fun _ => hsame _⟩) (hsame _) M 0 (by omega) (fun y hy => absurd hy (by omega))⟩, fun q => absurd q (by decide)⟩)
  subst ea
  have hlk' : ∀ y : Nat, y < M → lookedM S M y := fun y hy => ((hlk y hy).resolve_left (hall y hy)).2
  have h6 : ∀ y : Nat, y < M → S 6 y = 1 := fun y hy => ((hlk y hy).resolve_left (hall y hy)).1
  have hMB : MB S M := ⟨⟨⟨hM, h6, hrest⟩, hM8, hT, hlk'⟩, hR, hC⟩
  refine ⟨by unfold vp_in; decide, fun S13 e13 => ⟨by unfold vp_in; decide, fun S14 e14 => ⟨by unfold vp_in; decide, fun S15 e15 => ?_⟩⟩⟩
  have g : ∀ q : Nat, (q < 37 ∨ (37 < q ∧ q < 43)) → S15 q = S q := fun q hq => by
    rw [e15, ms_n _ _ (by omega), e14, ms_n _ _ (by omega), e13, ms_n _ _ (by omega), h12 q (by omega), e11, ms_n _ _ (by omega), e10, ms_n _ _ (by omega), e9, ms_n _ _ (by omega), e8, ms_n _ _ (by omega), e7, ms_n _ _ (by omega), e6, ms_n _ _ (by omega), e5, ms_n _ _ (by omega), e4, ms_n _ _ (by omega)]
  have z37 : S15 37 0 = nI 0 := by
    rw [e15, ms_n _ _ (by decide), e14, ms_n _ _ (by decide), e13, ms_n _ _ (by decide), h12 37 (by decide), e11, ms_n _ _ (by decide), e10, ms_n _ _ (by decide), e9, ms_n _ _ (by decide), e8, ms_n _ _ (by decide), e7, ms_n _ _ (by decide), e6, ms_s]; rfl
  have z44 : S15 44 0 = nI 0 := by
    rw [e15, ms_n _ _ (by decide), e14, ms_n _ _ (by decide), e13, ms_n _ _ (by decide), h12 44 (by decide), e11, ms_n _ _ (by decide), e10, ms_n _ _ (by decide), e9, ms_n _ _ (by decide), e8, ms_n _ _ (by decide), e7, ms_s]; rfl
  have z43 : S15 43 0 = 0 := by
    rw [e15, ms_n _ _ (by decide), e14, ms_n _ _ (by decide), e13, ms_n _ _ (by decide), h12 43 (by decide), e11, ms_n _ _ (by decide), e10, ms_n _ _ (by decide), e9, ms_n _ _ (by decide), e8, ms_n _ _ (by decide), e7, ms_n _ _ (by decide), e6, ms_n _ _ (by decide), e5, ms_s]
  have hX : MB S15 M := hMB.same (fun q hq => g q (by omega)) (g 13 (by omega)) (g 15 (by omega)) (g 17 (by omega)) (fun q x y => g q (by omega))
  have hK : ∀ S' : MST, MB S' M → ¬ S' 43 0 = 0 → (((¬ (((S' 43 0) : Int32) = 2)) → (Post S' (S' 43 0))) ∧ ((((S' 43 0) : Int32) = 2) → (Post S' 0))) := fun S' hX' _ => ⟨fun _ => h S' _ h6 hX', fun _ => h S' _ h6 hX'⟩
  obtain ⟨ax, _, _, hax, hax3, _⟩ := hT m hm
  refine sp_call_f (b := 0) (s := 0) (F := 0) hX hm (by rw [g 1 (by omega)]; exact hax) hax3 (by omega) z37 (by omega) z44 (by omega) z43 (fun S' hX' hne => ⟨1, ?_⟩) (fun S' hX' hlt hF15 e44 e43 e37 hfr e7' hcd hF' => ⟨tm S' 1 1 + 2, sp_run155 hK _ S' 1 1 ⟨hX', by omega, by omega, e37, e43, hF', fun t ht => absurd ht (by omega)⟩ e44 (by omega) (Nat.le_refl _)⟩)
  unfold wl_X12_run_155
  exact ⟨fun _ => hK S' hX' hne, fun q => absurd q hne⟩
