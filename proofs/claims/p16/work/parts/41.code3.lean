/-! making a METHOD's code: the whole of it -/
theorem MkI.dead {S0 S : MST} {M m n c i P w0 : Nat} (h : MkI S0 M m n c i S P w0) (hd : S 7 (60 * m + i) = -1) (h0 : S 7 (60 * m) = nI 0) : MkI S0 M m n c (i + 1) S P w0 := by
  obtain ⟨hf, ⟨b1, b2, b3, b4, b5⟩, hp, hs, hl, hB⟩ := h
  have hi : 0 < i := by
    rcases Nat.eq_zero_or_pos i with q | q
    · subst q
      exact absurd (h0.symm.trans hd) (nI_neg1 (by omega))
    · exact q
  refine ⟨hf, ⟨b1, b2, b3, by omega, b5⟩, hp, fun x hx hlx => ?_, fun _ => hl hi, by omega⟩
  rcases Nat.lt_or_ge x i with q | q
  · exact hs x q hlx
  · rw [show x = i by omega] at hlx
    exact absurd hd hlx
theorem sp_mk99 {S0 : MST} {M m n l c : Nat} {K : MST → Prop} {Post : MST → Prop} (hm : m < 8) (hM8 : M ≤ 8) (hc : c < 96) (hl6 : l ≤ 6) (hn : S0 3 m = nI n) (hn60 : n ≤ 60) (h31 : S0 31 0 = nI c) (h0 : S0 7 (60 * m) = nI 0)
    (hlook : ∀ i : Nat, i < n → S0 7 (60 * m + i) = -1 ∨ ∃ d : Nat, d ≤ 8 ∧ S0 7 (60 * m + i) = nI d ∧ rightI S0 M m l n i d) (h : ∀ (S : MST) (P w0 : Nat), MkI S0 M m n c n S P w0 → K S) :
    ∀ (k i : Nat), i + k = n → ∀ (S : MST) (P w0 : Nat), MkI S0 M m n c i S P w0 → wl_X12_makeCode_99 K Post (k + 1) S (nI m) (nI i) := by
  intro k
  induction k with
  | zero =>
    intro i hi S P w0 hMk
    unfold wl_X12_makeCode_99
    have hnS : S 3 m = nI n := by rw [hMk.1.1 3 (by omega)]; exact hn
    obtain rfl : i = n := by omega
    rw [nI_clamp (n := m) (by omega), hnS]
    exact ⟨vp_in_nI (by omega) (by omega), fun _ => h S P w0 hMk, fun q => absurd (nI_le (by omega) (by omega)) q⟩
  | succ k ih =>
    intro i hi S P w0 hMk
    have f := hMk.1.1
    have hnS : S 3 m = nI n := by rw [f 3 (by omega)]; exact hn
    have h7 : S 7 = S0 7 := f 7 (by omega)
    have h0S : S 7 (60 * m) = nI 0 := by rw [h7]; exact h0
    have v480 : vp_in (nI (60 * m + i)) 480 := vp_in_nI (by omega) (by omega)
    unfold wl_X12_makeCode_99
    rw [nI_clamp (n := m) (by omega), hnS, ix60, nI_clamp (n := 60 * m + i) (by omega), nI_1]
    refine ⟨vp_in_nI (by omega) (by omega), fun q => absurd q (nI_ge (by omega) (by omega)), fun _ => ⟨v480, fun hneg => ?_, fun hpos => ?_⟩⟩
    · refine ih (i + 1) (by omega) S P w0 (hMk.dead ?_ h0S)
      rcases hlook i (by omega) with q | ⟨d, hd8, hd, _⟩
      · rw [h7]; exact q
      · rw [h7, hd] at hneg
        exact absurd hneg (nI_pos (by omega))
    obtain ⟨d, hd8, hd, hr⟩ := (hlook i (by omega)).resolve_left (fun q => by
      rw [h7, q] at hpos
      exact hpos (by decide))
    rw [show S 7 (60 * m + i) = nI d by rw [h7]; exact hd]
    have common : ∀ (Sx : MST) (Px wx : Nat), MkI S0 M m n c i Sx Px wx → ((¬ (nI i = 0)) → (vp_in (Sx 31 0) 96 ∧ (vp_in ((60 * (Sx 31 0)) + nI i) 5760 ∧ (∀ S19 : MST, S19 = ms Sx 24 (upd (Sx 24) ((60 * (Sx 31 0)) + nI i : Int32).toNatClampNeg (Sx 23 (Sx 31 0 : Int32).toNatClampNeg)) → (∀ S20 : MST, S20 = ms S19 32 (fun _ => nI i) → (wp_X12_make S20 (nI m) (nI i) (fun S21 => wl_X12_makeCode_99 K Post (k + 1) S21 (nI m) (nI (i + 1))))))))) ∧ ((nI i = 0) → (vp_in ((60 * (Sx 31 0)) + nI i) 5760 ∧ (∀ S22 : MST, S22 = ms Sx 24 (upd (Sx 24) ((60 * (Sx 31 0)) + nI i : Int32).toNatClampNeg 0) → (∀ S23 : MST, S23 = ms S22 32 (fun _ => nI i) → (wp_X12_make S23 (nI m) (nI i) (fun S24 => wl_X12_makeCode_99 K Post (k + 1) S24 (nI m) (nI (i + 1)))))))) := by
      intro Sx Px wx hX
      have fx := hX.1.1
      have x31 : Sx 31 0 = nI c := by rw [fx 31 (by omega)]; exact h31
      have xlive : ¬ Sx 7 (60 * m + i) = -1 := by rw [fx 7 (by omega), hd]; exact nI_neg1 (by omega)
      have hXB := hX.2.2.2.2.2
      have go : ∀ (S20 : MST) (s : Nat), ((i = 0 ∧ s = 0) ∨ s = Px) → S20 = ms (ms Sx 24 (upd (Sx 24) (60 * c + i) (nI s))) 32 (fun _ => nI i) → wp_X12_make S20 (nI m) (nI i) (fun S21 => wl_X12_makeCode_99 K Post (k + 1) S21 (nI m) (nI (i + 1))) := by
        intro S20 s hs e20
        have dd : ∀ k : Nat, k ≠ 24 → k ≠ 32 → S20 k = Sx k := fun k x y => by rw [e20, ms_n _ _ y, ms_n _ _ x]
        have k20 : kn S20 = kn Sx := kn_eq (dd 35 (by decide) (by decide))
        have hG : GC S20 m n c i Px := ⟨by rw [dd 31 (by decide) (by decide)]; exact x31, hc, by rw [dd 23 (by decide) (by decide)]; exact hX.2.1.1, by rw [e20, ms_s], by omega, by rw [dd 7 (by decide) (by decide)]; exact xlive⟩
        refine sp_make hG hm hn60 hM8 hl6 (d := d) (by rw [dd 7 (by decide) (by decide), fx 7 (by omega)]; exact hd) hd8 (rightI_same (by rw [dd 1 (by decide) (by decide), fx 1 (by omega)]) (by rw [dd 4 (by decide) (by decide), fx 4 (by omega)]) (by rw [dd 5 (by decide) (by decide), fx 5 (by omega)]) (by rw [dd 7 (by decide) (by decide), fx 7 (by omega)]) hr) (by omega) (fun S' P' g hp hl => ?_)
        rw [dd 4 (by decide) (by decide)] at hl
        exact ih (i + 1) (by omega) S' P' i (hX.next (by omega) hn60 xlive hs e20 g (by omega) (by omega) hl)
      have v5760 : vp_in (nI (60 * c + i)) 5760 := vp_in_nI (by omega) (by omega)
      rw [x31, nI_clamp (n := c) (by omega), ix60, nI_clamp (n := 60 * c + i) (by omega), hX.2.1.1]
      refine ⟨fun _ => ⟨vp_in_nI (by omega) (by omega), v5760, fun S19 e19 S20 e20 => go S20 Px (Or.inr rfl) (by rw [e20, e19])⟩, fun z => ⟨v5760, fun S22 e22 S23 e23 => go S23 0 (Or.inl ⟨nI_inj (b := 0) z (by omega) (by omega), rfl⟩) (by rw [e23, e22]; rfl)⟩⟩
    have bg : ∀ (Sx : MST) (Px wx : Nat), MkI S0 M m n c i Sx Px wx → wp_X12_begins Sx (nI m) (fun S26 => ((¬ (nI i = 0)) → (vp_in (S26 31 0) 96 ∧ (vp_in ((60 * (S26 31 0)) + nI i) 5760 ∧ (∀ S19 : MST, S19 = ms S26 24 (upd (S26 24) ((60 * (S26 31 0)) + nI i : Int32).toNatClampNeg (S26 23 (S26 31 0 : Int32).toNatClampNeg)) → (∀ S20 : MST, S20 = ms S19 32 (fun _ => nI i) → (wp_X12_make S20 (nI m) (nI i) (fun S21 => wl_X12_makeCode_99 K Post (k + 1) S21 (nI m) (nI (i + 1))))))))) ∧ ((nI i = 0) → (vp_in ((60 * (S26 31 0)) + nI i) 5760 ∧ (∀ S22 : MST, S22 = ms S26 24 (upd (S26 24) ((60 * (S26 31 0)) + nI i : Int32).toNatClampNeg 0) → (∀ S23 : MST, S23 = ms S22 32 (fun _ => nI i) → (wp_X12_make S23 (nI m) (nI i) (fun S24 => wl_X12_makeCode_99 K Post (k + 1) S24 (nI m) (nI (i + 1))))))))) := by
      intro Sx Px wx hX
      have hXB := hX.2.2.2.2.2
      exact sp_begins hm (fun S' hs hk => common S' Px wx (hX.gr hn60 (GR.side hX.2.1.1 (fun k a b e _ => hs k a b e)) (by omega) (by omega) (Or.inr (Or.inr rfl))))
    refine sp_isTarget hm hnS hn60 ⟨fun _ => common S P w0 hMk, fun q => absurd rfl q⟩ ⟨fun q => absurd q (by decide), fun _ => ⟨fun _ => bg S P w0 hMk, fun gt0 => ?_⟩⟩
    have hi1 : 1 ≤ i := by
      rcases Nat.eq_zero_or_pos i with q | q
      · subst q
        exact absurd (show nI 0 ≤ 0 by decide) gt0
      · exact q
    rw [nI_m1 (n := 60 * m + i) (by omega), nI_clamp (n := 60 * m + i - 1) (by omega)]
    have v1 : vp_in (nI (60 * m + i - 1)) 480 := vp_in_nI (by omega) (by omega)
    refine ⟨v1, fun _ => bg S P w0 hMk, fun pl => ⟨v1, fun _ => bg S P w0 hMk, fun p9 => ⟨v1, fun _ => bg S P w0 hMk, fun p12 => ⟨v480, ?_⟩⟩⟩⟩
    have hB := hMk.2.2.2.2.2
    have hG : GC S m n c w0 P := ⟨by rw [f 31 (by omega)]; exact h31, hc, hMk.2.1.1, hMk.2.1.2.1, hMk.2.1.2.2.1, hMk.2.1.2.2.2.2⟩
    refine sp_layAll (M := M) hG hd8 (by omega) (fun S' P' g hp _ _ => bg S' P' w0 (hMk.gr hn60 g (by omega) (by omega) (Or.inr (Or.inl ?_))))
    have e1 : 60 * m + i - 1 = 60 * m + (i - 1) := by omega
    rw [e1] at pl p9 p12
    have hw := (hMk.2.2.2.1 (i - 1) (by omega) (fun q => by rw [q] at pl; exact pl (by decide))).1
    have hw2 := hMk.2.1.2.2.2.1
    rw [show w0 = i - 1 by omega]
    exact ⟨p9, p12⟩
/-- the guards on the ARGS -/
theorem sp_mk48 {S0 : MST} {M m n c : Nat} {K : MST → Int32 → Prop} {Post : MST → Prop} (hG : GC S0 m n c 0 0) (hm : m < 8)
    (h : ∀ (S' : MST) (P' : Nat), GR M m n c 0 S0 0 S' P' → P' ≤ 3 → K S' (nI m)) :
    ∀ (k j : Nat), j + k = 3 → ∀ (S : MST) (P : Nat), GR M m n c 0 S0 0 S P → P ≤ j → wl_X12_makeCode_48 K Post (k + 1) S (nI m) (nI j) := by
  intro k
  induction k with
  | zero =>
    intro j hj S P g hp
    unfold wl_X12_makeCode_48
    obtain rfl : j = 3 := by omega
    exact ⟨fun _ => h S P g hp, fun q => absurd (show (3 : Int32) ≤ nI 3 by decide) q⟩
  | succ k ih =>
    intro j hj S P g hp
    unfold wl_X12_makeCode_48
    rw [nI_clamp (n := j) (by omega), ix11, nI_1]
    have hG' := hG.go g
    refine ⟨fun q => absurd ((nI_leI (a := 3) (b := j) (by omega) (by omega)).mp q) (by omega), fun _ => ⟨vp_in_nI (by omega) (by omega), fun _ => ih (j + 1) (by omega) S P g (by omega), fun hne => ⟨vp_in_nI (by omega) (by omega), ?_⟩⟩⟩
    refine sp_part (M := M) (o := nI 17) hG'.1 hG'.2.1 hG'.2.2.1 (by omega) hG'.2.2.2.1 (pv_17 hG'.2.2.2.2.1 hG'.2.2.2.2.2 ⟨j, by omega, rfl⟩) ⟨fun x hx _ e => by
      obtain rfl : j = x := nI_inj e (by omega) (by omega)
      exact hne, fun _ _ q => absurd (nI_inj q (by omega) (by omega)) (by omega)⟩ (fun S4 g4 _ _ _ _ _ => ih (j + 1) (by omega) S4 (P + 1) (g.tr g4 (by omega)) (by omega))
/-- a code of METHOD m, of n INSTRUCTIONS, that can be gone through -/
def codeI (S : MST) (M m n c : Nat) : Prop := ∃ N : Nat, 1 ≤ N ∧ N ≤ 640 ∧ S 23 c = nI N ∧ (∀ p : Nat, p < N → pv S M m n (S 25 (640 * c + p)) (S 26 (640 * c + p)) (S 27 (640 * c + p)) (S 28 (640 * c + p)) (S 29 (640 * c + p))) ∧
  (∀ x : Nat, x < n → ¬ S 7 (60 * m + x) = -1 → ∃ s : Nat, s < N ∧ S 24 (60 * c + x) = nI s ∧ ∀ p w : Nat, p < N → w < 60 → S 29 (640 * c + p) = nI w → w < x → p < s) ∧ (S 25 (640 * c + (N - 1)) = nI 8 ∨ S 25 (640 * c + (N - 1)) = nI 11)
/-- code c guards thing y -/
def guards (S : MST) (c y : Nat) : Prop := ∃ (N p : Nat), N ≤ 640 ∧ S 23 c = nI N ∧ p < N ∧ ((y < 3 ∧ S 25 (640 * c + p) = nI 17 ∧ S 26 (640 * c + p) = nI y) ∨ (∃ x : Nat, x < 8 ∧ y = 3 + x ∧ S 25 (640 * c + p) = nI 18 ∧ S 26 (640 * c + p) = nI x))
/-- what the making of a code leaves -/
def McR (S : MST) (M m n k : Nat) (S' : MST) : Prop :=
  (∀ j : Nat, j ≠ 15 → j ≠ 17 → (j < 23 ∨ 36 < j) → S' j = S j) ∧ S' 15 = upd (S 15) m 1 ∧ S' 17 = upd (S 17) m (nI (k + 1)) ∧ (∀ j t : Nat, 25 ≤ j → j ≤ 29 → (t < 640 * (12 * m + k) ∨ 640 * (12 * m + k) + 640 ≤ t) → S' j t = S j t) ∧ (∀ j : Nat, j ≠ 12 * m + k → S' 23 j = S 23 j) ∧ (∀ t : Nat, (t < 60 * (12 * m + k) ∨ 60 * (12 * m + k) + 60 ≤ t) → S' 24 t = S 24 t) ∧
  codeI S' M m n (12 * m + k) ∧ ∀ y : Nat, y < 11 → guards S' (12 * m + k) y → S 22 (11 * m + y) = 0
theorem MkI.fin {S0 S : MST} {M m n l c P w0 : Nat} (h : MkI S0 M m n c n S P w0) (hn60 : n ≤ 60) (hlook : ∀ i : Nat, i < n → S0 7 (60 * m + i) = -1 ∨ ∃ d : Nat, d ≤ 8 ∧ S0 7 (60 * m + i) = nI d ∧ rightI S0 M m l n i d) : codeI S M m n c ∧ P ≤ 640 ∧ S 23 c = nI P := by
  obtain ⟨⟨f, -⟩, ⟨b1, b2, b3, b4, b5⟩, hp, hs, hl, hB⟩ := h
  have h7 : S 7 = S0 7 := f 7 (by omega)
  have h4 : S 4 = S0 4 := f 4 (by omega)
  have hP : P ≤ 640 := by omega
  have hop : S 4 (60 * m + w0) = nI 9 ∨ S 4 (60 * m + w0) = nI 12 := by
    obtain ⟨d, hd8, hd, hr⟩ := (hlook w0 b3).resolve_left (by rw [← h7]; exact b5)
    obtain ⟨o, ax, ho, ho4, hk, hax, htk, h8, hj, hnx⟩ := hr
    rw [h4, ho4]
    by_cases q9 : o = 9
    · exact Or.inl (congrArg nI q9)
    · by_cases q12 : o = 12
      · exact Or.inr (congrArg nI q12)
      · obtain ⟨i1, i2⟩ := hnx q9 q12
        have := (hs (w0 + 1) i1 (by rw [h7, i2]; exact nI_neg1 (by omega))).1
        omega
  obtain ⟨l1, l2⟩ := hl (by omega) hop
  refine ⟨⟨P, l1, hP, b1, fun p hpp => (hp p hpp).1, fun x hx hlx => ?_, l2⟩, hP, b1⟩
  obtain ⟨_, s, _, x3, x4, x5⟩ := hs x hx hlx
  exact ⟨s, x5 hop, x3, x4⟩
theorem sp_makeCode {S : MST} {M m n l k : Nat} {Post : MST → Prop} (hm : m < 8) (hM8 : M ≤ 8) (hl6 : l ≤ 6) (hn : S 3 m = nI n) (hn1 : 1 ≤ n) (hn60 : n ≤ 60) (hk : S 17 m = nI k) (hk12 : k < 12) (h0 : S 7 (60 * m) = nI 0)
    (hlook : ∀ i : Nat, i < n → S 7 (60 * m + i) = -1 ∨ ∃ d : Nat, d ≤ 8 ∧ S 7 (60 * m + i) = nI d ∧ rightI S M m l n i d) (h : ∀ S' : MST, McR S M m n k S' → Post S') : wp_X12_makeCode S (nI m) Post := by
  unfold wp_X12_makeCode
  have v8 : vp_in (nI m) 8 := vp_in_nI hm (by omega)
  have hcm : (nI m).toNatClampNeg = m := nI_clamp (by omega)
  refine sp_assumes hm hn hn60 (fun S1 h1 ha => ⟨v8, v8, fun S3 e3 => ⟨v8, fun S4 e4 => ?_⟩⟩)
  rw [hcm, h1 17 (by decide), hk, nI_1] at e3
  rw [hcm, vn_1] at e4
  have s4 : ∀ j : Nat, j ≠ 15 → j ≠ 17 → j ≠ 30 → S4 j = S j := fun j a b cc => by rw [e4, ms_n _ _ a, e3, ms_n _ _ b]; exact h1 j cc
  have s417 : S4 17 = upd (S 17) m (nI (k + 1)) := by rw [e4, ms_n _ _ (show 17 ≠ 15 by decide), e3, ms_s]
  have s415 : S4 15 = upd (S 15) m 1 := by rw [e4, ms_s, e3, ms_n _ _ (show 15 ≠ 17 by decide), h1 15 (by decide)]
  refine sp_codeNow (k := k + 1) hm (by rw [s417, upd_s]) (by omega) (by omega) ?_
  rw [show k + 1 - 1 = k by omega]
  generalize hcc : 12 * m + k = c
  have hc : c < 96 := by omega
  intro S6 e6
  have s631 : S6 31 0 = nI c := by rw [e6, ms_s]
  rw [s631, nI_clamp (n := c) (by omega)]
  refine ⟨vp_in_nI hc (by omega), fun S7 e7 S8 e8 => ⟨4, ?_⟩⟩
  have s8 : ∀ j : Nat, j ≠ 15 → j ≠ 17 → j ≠ 30 → j ≠ 31 → j ≠ 23 → j ≠ 32 → S8 j = S j := fun j a b cc dd e f => by
    rw [e8, ms_n _ _ f, e7, ms_n _ _ e, e6, ms_n _ _ dd]; exact s4 j a b cc
  have s817 : S8 17 = upd (S 17) m (nI (k + 1)) := by rw [e8, ms_n _ _ (show 17 ≠ 32 by decide), e7, ms_n _ _ (show 17 ≠ 23 by decide), e6, ms_n _ _ (show 17 ≠ 31 by decide), s417]
  have s815 : S8 15 = upd (S 15) m 1 := by rw [e8, ms_n _ _ (show 15 ≠ 32 by decide), e7, ms_n _ _ (show 15 ≠ 23 by decide), e6, ms_n _ _ (show 15 ≠ 31 by decide), s415]
  have s830 : S8 30 = S1 30 := by rw [e8, ms_n _ _ (show 30 ≠ 32 by decide), e7, ms_n _ _ (show 30 ≠ 23 by decide), e6, ms_n _ _ (show 30 ≠ 31 by decide), e4, ms_n _ _ (show 30 ≠ 15 by decide), e3, ms_n _ _ (show 30 ≠ 17 by decide)]
  have s831 : S8 31 0 = nI c := by rw [e8, ms_n _ _ (show 31 ≠ 32 by decide), e7, ms_n _ _ (show 31 ≠ 23 by decide)]; exact s631
  have s823 : S8 23 = upd (S 23) c 0 := by rw [e8, ms_n _ _ (show 23 ≠ 32 by decide), e7, ms_s, e6, ms_n _ _ (show 23 ≠ 31 by decide), s4 23 (by decide) (by decide) (by decide)]
  have s832 : S8 32 0 = nI 0 := by rw [e8, ms_s]; rfl
  have k7 : S8 7 = S 7 := s8 7 (by decide) (by decide) (by decide) (by decide) (by decide) (by decide)
  have hlook8 : ∀ i : Nat, i < n → S8 7 (60 * m + i) = -1 ∨ ∃ d : Nat, d ≤ 8 ∧ S8 7 (60 * m + i) = nI d ∧ rightI S8 M m l n i d := by
    intro i hi
    rw [k7]
    rcases hlook i hi with q | ⟨d, hd8, hd, hr⟩
    · exact Or.inl q
    · exact Or.inr ⟨d, hd8, hd, rightI_same (s8 1 (by decide) (by decide) (by decide) (by decide) (by decide) (by decide)) (s8 4 (by decide) (by decide) (by decide) (by decide) (by decide) (by decide)) (s8 5 (by decide) (by decide) (by decide) (by decide) (by decide) (by decide)) k7 hr⟩
  have hG : GC S8 m n c 0 0 := ⟨s831, hc, by rw [s823, upd_s]; rfl, s832, by omega, by rw [Nat.add_zero, k7, h0]; exact nI_neg1 (by omega)⟩
  refine sp_mk48 (M := M) hG hm (fun S9 P9 g9 hp9 => ?_) 3 0 (by omega) S8 0 (GR.rf hG.2.2.1) (Nat.le_refl _)
  refine sp_fieldGuards (M := M) (hG.go g9) hm (by omega) (fun S10 P10 g10 hp10 _ => ?_)
  have gA : GR M m n c 0 S8 0 S10 P10 := g9.tr g10 (by omega)
  refine sp_begins hm (fun S11 h11 hk11 => ⟨n + 1, ?_⟩)
  have gB : GR M m n c 0 S8 0 S11 P10 := gA.tr (GR.side gA.2.2.2.2.1 (fun j a b cc _ => h11 j a b cc)) (by omega)
  have hMk : MkI S8 M m n c 0 S11 P10 0 := by
    obtain ⟨k1, k3, k4, k5, k7', k20, k30, k31, k32, k24, k2⟩ := gB.keep
    obtain ⟨g1, g2, g3, g4, g5, g6⟩ := gB
    refine ⟨⟨fun j hj => g2 j (by omega) (by omega) (by omega) (by omega) (by omega) (by omega) (by omega) (by omega) (by omega) (by omega), fun j t x y ht => g3 j t x y (by omega), g4, fun t _ => by rw [k24]⟩, ⟨g5, by rw [k32]; exact s832, by omega, by omega, by rw [k7']; exact hG.2.2.2.2.2⟩, fun p hp => ?_, fun x hx => absurd hx (by omega), fun q => absurd q (by omega), by omega⟩
    obtain ⟨p1, p2, p3⟩ := g6 p (by omega) hp
    rw [p2]
    refine ⟨pv_same k1 k7' p1, ?_⟩
    unfold gd at p3 ⊢
    rw [k30]; exact p3
  refine sp_mk99 (S0 := S8) hm hM8 hc hl6 (by rw [s8 3 (by decide) (by decide) (by decide) (by decide) (by decide) (by decide)]; exact hn) hn60 s831 (by rw [k7]; exact h0) hlook8 (fun Z P w0 hZ => h Z ?_) n 0 (by omega) S11 P10 0 hMk
  obtain ⟨hcI, hP, h23⟩ := hZ.fin hn60 hlook8
  obtain ⟨⟨z1, z2, z3, z4⟩, -, zp, -⟩ := hZ
  unfold McR
  rw [hcc]
  refine ⟨fun j a b hj => ?_, by rw [z1 15 (by omega)]; exact s815, by rw [z1 17 (by omega)]; exact s817, fun j t x y ht => ?_, fun j hj => ?_, fun t ht => ?_, hcI, fun y hy hg => ?_⟩
  · rw [z1 j (by omega)]; exact s8 j a b (by omega) (by omega) (by omega) (by omega)
  · rw [z2 j t x y ht, s8 j (by omega) (by omega) (by omega) (by omega) (by omega) (by omega)]
  · rw [z3 j hj, s823, upd_n _ _ hj]
  · rw [z4 t ht, s8 24 (by omega) (by omega) (by omega) (by omega) (by omega) (by omega)]
  · obtain ⟨N, p, hN, e23, hpN, hcase⟩ := hg
    obtain rfl : N = P := nI_inj (e23.symm.trans h23) (by omega) (by omega)
    have g := (zp p hpN).2
    have e30 : Z 30 = S1 30 := by rw [z1 30 (by omega)]; exact s830
    rcases hcase with ⟨y3, c1, c2⟩ | ⟨x, hx, hyx, c1, c2⟩
    · have := g.1 y (by omega) c1 c2
      rw [e30] at this
      exact (ha y hy).resolve_left this
    · have := g.2 x (by omega) c1 c2
      rw [e30, ← hyx] at this
      exact (ha y hy).resolve_left this
