/-! one turn of the run by INSTRUCTIONS -/
theorem sN_eq {f g : Nat → Nat} (n : Nat) (h : ∀ i : Nat, i < n → f i = g i) : sN f n = sN g n := Nat.le_antisymm (sN_le n fun i hi => by rw [h i hi]; exact Nat.le_refl _) (sN_le n fun i hi => by rw [h i hi]; exact Nat.le_refl _)
/-- the run goes on: F calls are open -/
def RI (S : MST) (M F : Nat) : Prop := MB S M ∧ 1 ≤ F ∧ F ≤ 16 ∧ S 37 0 = nI F ∧ S 43 0 = 0 ∧ FrI S M (F - 1) ∧ ∀ f : Nat, f + 1 < F → WtI S M f
/-- how much is left of it -/
def tm (S : MST) (F s : Nat) : Nat := (1500 - s) * 1300 + sN (fm S) F
theorem RI.top {S S' : MST} {M f s s' : Nat} (h : RI S M (f + 1)) (hMB : MB S' M) (h37 : S' 37 = S 37) (h43 : S' 43 = S 43) (h3 : S' 3 = S 3) (h4 : S' 4 = S 4) (h7 : S' 7 = S 7) (hcd : CdK S S' M) (hfr : ∀ t q : Nat, t ≠ f → 38 ≤ q → q ≤ 41 → S' q t = S q t) (hF : FrI S' M f) (hs : (s' = s ∧ fm S' f < fm S f) ∨ (s' = s + 1 ∧ s < 1500)) : RI S' M (f + 1) ∧ tm S' (f + 1) s' < tm S (f + 1) s := by
  obtain ⟨a, b, c, d, e, g, w⟩ := h
  have hM8 := a.1.2.1
  refine ⟨⟨hMB, b, c, by rw [h37]; exact d, by rw [h43]; exact e, by rw [show f + 1 - 1 = f by omega]; exact hF, fun t ht => (w t ht).keep hM8 (fun q x y => hfr t q (by omega) x y) h3 h4 h7 hcd⟩, ?_⟩
  unfold tm
  simp only [sN]
  have e1 : sN (fm S') f = sN (fm S) f := sN_eq f (fun t ht => fm_keep (fun q x y => hfr t q (by omega) x y))
  have := fm_le S' f
  rw [e1]
  rcases hs with ⟨q1, q2⟩ | ⟨q1, q2⟩ <;> omega
theorem sp_goes134 {S S9 : MST} {M f s m n i d o ax l e : Nat} {v : Int32} {Post : MST → Prop} (hR : RI S M (f + 1)) (hs : S 44 0 = nI s) (hs15 : s ≤ 1500) (hm : m < M) (h38 : S 38 f = nI m) (h40 : S 40 f = -1) (hn : S 3 m = nI n) (hn60 : n ≤ 60) (hi : i < n) (h39 : S 39 f = nI i) (hd8 : d ≤ 8) (h7 : S 7 (60 * m + i) = nI d) (h41 : S 41 f = nI d) (hl6 : l ≤ 6)
    (ho : o < 20) (h4 : S 4 (60 * m + i) = nI o) (hk : okX M l o (S 5 (60 * m + i))) (hax : o = 11 → ∃ y : Nat, y < M ∧ S 5 (60 * m + i) = nI y ∧ S 1 y = nI ax ∧ ax ≤ 3) (htk : tkN o ax ≤ d) (h8 : d - tkN o ax + lyN o ≤ 8) (hj : (o = 9 ∨ o = 10) → ∃ y : Nat, y < n ∧ S 5 (60 * m + i) = nI y ∧ S 7 (60 * m + y) = nI (d - tkN o ax + lyN o)) (hnx : ¬ o = 9 → ¬ o = 12 → i + 1 < n ∧ S 7 (60 * m + (i + 1)) = nI (d - tkN o ax + lyN o))
    (g9 : ∀ q : Nat, q ≠ 39 → q ≠ 41 → S9 q = S q) (g39 : S9 39 = upd (S 39) f (nI (i + 1))) (g41 : S9 41 = upd (S 41) f (nI e)) (he : ¬ o = 11 → e = d - tkN o ax + lyN o) (he11 : o = 11 → e = d)
    (hstop : ∀ S' : MST, MB S' M → ¬ S' 43 0 = 0 → Post S') (hgo : ∀ (S' : MST) (F' s' : Nat), RI S' M F' → S' 44 0 = nI s' → s' ≤ 1500 → tm S' F' s' < tm S (f + 1) s → Post S') :
    wj_X12_goes_134 S9 (nI f) (nI i) (nI o) (S 5 (60 * m + i)) (nI (15 * f + 7)) (nI d) v 0 Post := by
  obtain ⟨hMB, hF1, hF16, h37, h43, hFr, hWt⟩ := id hR
  have hM8 := hMB.1.2.1
  have same : ∀ S' : MST, (∀ q : Nat, q ≠ 12 → q ≠ 14 → q ≠ 39 → q ≠ 41 → q ≠ 42 → q ≠ 44 → S' q = S q) → MB S' M := fun S' g => hMB.same (fun q hq => g q (by omega) (by omega) (by omega) (by omega) (by omega) (by omega)) (g 13 (by decide) (by decide) (by decide) (by decide) (by decide) (by decide)) (g 15 (by decide) (by decide) (by decide) (by decide) (by decide) (by decide)) (g 17 (by decide) (by decide) (by decide) (by decide) (by decide) (by decide)) (fun q a b => g q (by omega) (by omega) (by omega) (by omega) (by omega) (by omega))
  -- the next place is x, its depth e
  have at_ : ∀ (S' : MST) (x s' : Nat), MB S' M → (∀ q : Nat, q ≠ 12 → q ≠ 13 → q ≠ 14 → q ≠ 39 → q ≠ 41 → q ≠ 42 → q ≠ 44 → S' q = S q) → S' 39 f = nI x → (∀ t : Nat, t ≠ f → S' 39 t = S 39 t) → S' 41 = S9 41 → x < n → S 7 (60 * m + x) = nI e → e ≤ 8 → S' 44 0 = nI s' → ((s' = s ∧ i < x) ∨ (s' = s + 1 ∧ s < 1500)) → Post S' := by
    intro S' x s' hX g e39 t39 e41 hx ex he8 e44 hs'
    have g' : ∀ q : Nat, (q < 12 ∨ (14 < q ∧ q < 39) ∨ q = 40 ∨ q = 43) → S' q = S q := fun q hq => g q (by omega) (by omega) (by omega) (by omega) (by omega) (by omega) (by omega)
    have hF' : FrI S' M f := ⟨m, n, hm, by rw [g' 38 (by omega)]; exact h38, by rw [g' 3 (by omega)]; exact hn, hn60, Or.inl ⟨by rw [g' 40 (by omega)]; exact h40, x, e, hx, e39, he8, by rw [g' 7 (by omega)]; exact ex, by rw [e41, g41, upd_s]⟩⟩
    have hfr : ∀ t q : Nat, t ≠ f → 38 ≤ q → q ≤ 41 → S' q t = S q t := by
      intro t q ht a b
      rcases (show q = 38 ∨ q = 39 ∨ q = 40 ∨ q = 41 by omega) with w | w | w | w
      · rw [w, g' 38 (by omega)]
      · rw [w]; exact t39 t ht
      · rw [w, g' 40 (by omega)]
      · rw [w, e41, g41, upd_n _ _ ht]
    obtain ⟨r1, r2⟩ := hR.top (s := s) (s' := s') hX (g' 37 (by omega)) (g' 43 (by omega)) (g' 3 (by omega)) (g' 4 (by omega)) (g' 7 (by omega)) (CdK.rf (g' 17 (by omega)) (g' 23 (by omega)) (g' 25 (by omega))) hfr hF' (by
      rcases hs' with ⟨w1, w2⟩ | w
      · refine Or.inl ⟨w1, ?_⟩
        unfold fm
        rw [g' 40 (by omega), h40, if_pos rfl, if_pos rfl, e39, h39, nI_clamp (n := x) (by omega), nI_clamp (n := i) (by omega)]
        omega
      · exact Or.inr w)
    exact hgo S' (f + 1) s' r1 e44 (by omega) r2
  have nxt : ¬ o = 9 → ¬ o = 12 → ¬ o = 11 → ∀ S' : MST, MB S' M → (∀ q : Nat, q ≠ 12 → q ≠ 13 → q ≠ 14 → q ≠ 42 → S' q = S9 q) → Post S' := by
    intro o9 o12 o11 S' hX g
    obtain ⟨x1, x2⟩ := hnx o9 o12
    have := he o11
    refine at_ S' (i + 1) s hX (fun q a b c d1 e1 f1 _ => by rw [g q a b c f1]; exact g9 q d1 e1) (by rw [g 39 (by decide) (by decide) (by decide) (by decide), g39, upd_s]) (fun t ht => by rw [g 39 (by decide) (by decide) (by decide) (by decide), g39, upd_n _ _ ht]) (g 41 (by decide) (by decide) (by decide) (by decide)) x1 (by rw [this]; exact x2) (by omega) (by rw [g 44 (by decide) (by decide) (by decide) (by decide), g9 44 (by decide) (by decide)]; exact hs) (Or.inl ⟨rfl, by omega⟩)
  have s9 : MB S9 M := same S9 (fun q _ _ a b _ _ => g9 q a b)
  have s937 : S9 37 0 = nI (f + 1) := by rw [g9 37 (by decide) (by decide)]; exact h37
  have s943 : S9 43 0 = 0 := by rw [g9 43 (by decide) (by decide)]; exact h43
  have s944 : S9 44 0 = nI s := by rw [g9 44 (by decide) (by decide)]; exact hs
  have e604 : ∀ (S3 : MST) (no : Int32), MB S3 M → S3 37 0 = nI (f + 1) → (no = 0 → Post S3) → wj_X12_goes_604 S3 (nI i) no Post := by
    intro S3 no hX e37 hp
    unfold wj_X12_goes_604
    refine ⟨hp, fun _ => sp_traps e37 (by omega) hF16 (fun S' hT' => hstop S' ?_ ?_)⟩
    · exact hX.same (fun q hq => hT'.2 q (by omega) (by omega)) (hT'.2 13 (by decide) (by decide)) (hT'.2 15 (by decide) (by decide)) (hT'.2 17 (by decide) (by decide)) (fun q a c => hT'.2 q (by omega) (by omega))
    · rw [hT'.1]; decide
  -- only registers, fields and items change
  have put : ¬ o = 9 → ¬ o = 12 → ¬ o = 11 → ∀ (S' : MST) (k : Nat) (g : Nat → Int32), (k = 42 ∨ k = 12 ∨ k = 14) → S' = ms S9 k g → ∀ no : Int32, wj_X12_goes_604 S' (nI i) no Post := by
    intro o9 o12 o11 S' k g hk e' no
    have hX : MB S' M := same S' (fun q a b c d1 e1 _ => by rw [e', ms_n _ _ (by omega)]; exact g9 q c d1)
    exact e604 S' no hX (by rw [e', ms_n _ _ (by omega)]; exact s937) (fun _ => nxt o9 o12 o11 S' hX (fun q a b c d1 => by rw [e', ms_n _ _ (by omega)]))
  have e604' : ¬ o = 9 → ¬ o = 12 → ¬ o = 11 → ∀ no : Int32, wj_X12_goes_604 S9 (nI i) no Post := fun o9 o12 o11 no => e604 S9 no s9 s937 (fun _ => nxt o9 o12 o11 S9 s9 (fun _ _ _ _ _ => rfl))
  -- to another INSTRUCTION
  have jmp : (o = 9 ∨ o = 10) → ∀ y : Nat, S 5 (60 * m + i) = nI y → y < n → S 7 (60 * m + y) = nI (d - tkN o ax + lyN o) → ((nI i < nI y → (vp_in (nI f) 16 ∧ (∀ S16 : MST, S16 = ms S9 39 (upd (S9 39) (nI f : Int32).toNatClampNeg (nI y)) → wj_X12_goes_604 S16 (nI i) 0 Post))) ∧ ((¬ (nI i < nI y)) → (wp_X12_stepOn S9 (fun S17 r17 => (((r17 : Int32) = 0) → (wj_X12_goes_604 S17 (nI i) 0 Post)) ∧ ((¬ ((r17 : Int32) = 0)) → (vp_in (nI f) 16 ∧ (∀ S19 : MST, S19 = ms S17 39 (upd (S17 39) (nI f : Int32).toNatClampNeg (nI y)) → (wj_X12_goes_604 S19 (nI i) 0 Post)))))))) := by
    intro oo y ey hy e7
    have hee := he (by omega)
    have v16 : vp_in (nI f) 16 := vp_in_nI (by omega) (by omega)
    rw [nI_clamp (n := f) (by omega)]
    refine ⟨fun lt => ⟨v16, fun S16 e16 => ?_⟩, fun _ => ?_⟩
    · have lt' : i < y := by
        rcases Nat.lt_or_ge i y with q | q
        · exact q
        · exact absurd lt (Int32.not_lt.mpr (nI_le q (by omega)))
      have hX : MB S16 M := same S16 (fun q a b c d1 e1 _ => by rw [e16, ms_n _ _ c]; exact g9 q c d1)
      refine e604 S16 0 hX (by rw [e16, ms_n _ _ (show 37 ≠ 39 by decide)]; exact s937) (fun _ => ?_)
      exact at_ S16 y s hX (fun q a b c d1 e1 f1 _ => by rw [e16, ms_n _ _ d1]; exact g9 q d1 e1) (by rw [e16, ms_s, upd_s]) (fun t ht => by rw [e16, ms_s, upd_n _ _ ht, g39, upd_n _ _ ht]) (by rw [e16, ms_n _ _ (show 41 ≠ 39 by decide)]) hy (by rw [hee]; exact e7) (by omega) (by rw [e16, ms_n _ _ (show 44 ≠ 39 by decide)]; exact s944) (Or.inl ⟨rfl, lt'⟩)
    · refine sp_stepOn s944 hs15 (fun hlt => ⟨fun q => absurd q (by decide), fun _ => ⟨v16, fun S19 e19 => ?_⟩⟩) (fun _ => ⟨fun _ => e604 _ 0 ?_ ?_ (fun _ => hstop _ ?_ ?_), fun q => absurd rfl q⟩)
      · have g19 : ∀ q : Nat, q ≠ 39 → q ≠ 44 → S19 q = S9 q := fun q a b => by rw [e19, ms_n _ _ a, ms_n _ _ b]
        have hX : MB S19 M := same S19 (fun q a b c d1 e1 f1 => by rw [g19 q c f1]; exact g9 q c d1)
        refine e604 S19 0 hX (by rw [g19 37 (by decide) (by decide)]; exact s937) (fun _ => ?_)
        exact at_ S19 y (s + 1) hX (fun q a b c d1 e1 f1 h1 => by rw [g19 q d1 h1]; exact g9 q d1 e1) (by rw [e19, ms_s, upd_s]) (fun t ht => by rw [e19, ms_s, upd_n _ _ ht, ms_n _ _ (show 39 ≠ 44 by decide), g39, upd_n _ _ ht]) (g19 41 (by decide) (by decide)) hy (by rw [hee]; exact e7) (by omega) (by rw [e19, ms_n _ _ (show 44 ≠ 39 by decide), ms_s]) (Or.inr ⟨rfl, hlt⟩)
      · exact s9.same (fun q hq => ms_n _ _ (by omega)) (ms_n _ _ (by decide)) (ms_n _ _ (by decide)) (ms_n _ _ (by decide)) (fun q a c => ms_n _ _ (by omega))
      · rw [ms_n _ _ (show 37 ≠ 43 by decide)]; exact s937
      · exact s9.same (fun q hq => ms_n _ _ (by omega)) (ms_n _ _ (by decide)) (ms_n _ _ (by decide)) (ms_n _ _ (by decide)) (fun q a c => ms_n _ _ (by omega))
      · rw [ms_s]; decide
  have f15 : f ≤ 15 := by omega
  unfold wj_X12_goes_134
  generalize hxe : S 5 (60 * m + i) = x at hk hax hj jmp ⊢
  rw [nI_add (15 * f + 7) d, show nI (15 * f + 7 + d) - 1 = nI (15 * f + 7 + d - 1) from nI_m1 (by omega), show nI (15 * f + 7 + d) - 2 = nI (15 * f + 7 + d - 2) from nI_sub (b := 2) (by omega)]
  have two : ¬ o = 9 → ¬ o = 12 → ¬ o = 11 → 2 ≤ d → wj_X12_goes_549 S9 (nI i) (nI o) (nI (15 * f + 7)) (nI d) v Post := by
    intro o9 o12 o11 d2
    unfold wj_X12_goes_549
    rw [nI_add (15 * f + 7) d, show nI (15 * f + 7 + d) - 2 = nI (15 * f + 7 + d - 2) from nI_sub (b := 2) (by omega)]
    have v2 : vp_in (nI (15 * f + 7 + d - 2)) 240 := vp_in_nI (by omega) (by omega)
    exact ⟨fun n6 => ⟨v2, sp_sumOf (fun q => absurd q n6) (fun r => ⟨v2, fun S6 e6 => put o9 o12 o11 S6 42 _ (Or.inl rfl) e6 0⟩)⟩, fun _ => ⟨fun nz => ⟨v2, sp_sumOf (fun _ => nz) (fun r => ⟨v2, fun S6 e6 => put o9 o12 o11 S6 42 _ (Or.inl rfl) e6 0⟩)⟩, fun _ => e604' o9 o12 o11 1⟩⟩
  have eo : ∀ k : Nat, k < 20 → nI o = nI k → o = k := fun k hk q => nI_inj q (by omega) (by omega)
  have arm2 : ∀ k : Nat, 3 ≤ k → k ≤ 8 → nI o = nI k → wj_X12_goes_549 S9 (nI i) (nI o) (nI (15 * f + 7)) (nI d) v Post := fun k a b c => by
    have := eo k (by omega) c
    subst this
    have t2 : tkN o ax = 2 := by
      unfold tkN
      rw [if_neg (by omega), if_neg (by omega), if_pos (by omega)]
    exact two (by omega) (by omega) (by omega) (by omega)
  refine ⟨fun c => ?_, fun c => ?_, fun c => ?_, fun c => ?_, arm2 3 (by omega) (by omega), arm2 4 (by omega) (by omega), arm2 5 (by omega) (by omega), arm2 6 (by omega) (by omega), arm2 7 (by omega) (by omega), arm2 8 (by omega) (by omega), fun c => ?_, fun c => ?_, fun c => ?_, fun c => ?_, fun c => ?_, fun c => ?_, fun c => ?_, fun c => ?_, fun c => ?_, fun c => ?_, fun c => ?_⟩
  · rw [nI_toInt (by omega)] at c
    exact absurd c (by omega)
  · obtain rfl := eo 0 (by omega) c
    have h88 : d + 1 ≤ 8 := by have := h8; simp only [tkN, lyN] at this; simpa using this
    exact ⟨vp_in_nI (by omega) (by omega), fun S' e' => put (by decide) (by decide) (by decide) S' 42 _ (Or.inl rfl) e' 0⟩
  · obtain rfl := eo 1 (by omega) c
    have h88 : d + 1 ≤ 8 := by have := h8; simp only [tkN, lyN] at this; simpa using this
    obtain ⟨y, hy, rfl⟩ := hk.1 (Or.inl rfl)
    rw [ix15]
    exact ⟨vp_in_nI (by omega) (by omega), vp_in_nI (by omega) (by omega), fun S' e' => put (by decide) (by decide) (by decide) S' 42 _ (Or.inl rfl) e' 0⟩
  · obtain rfl := eo 2 (by omega) c
    obtain ⟨y, hy, rfl⟩ := hk.1 (Or.inr rfl)
    rw [ix15]
    exact ⟨vp_in_nI (by omega) (by omega), fun S' e' => put (by decide) (by decide) (by decide) S' 42 _ (Or.inl rfl) e' 0⟩
  · obtain rfl := eo 9 (by omega) c
    obtain ⟨y, hy, rfl, hy7⟩ := hj (Or.inl rfl)
    exact jmp (Or.inl rfl) y rfl hy hy7
  · obtain rfl := eo 10 (by omega) c
    obtain ⟨y, hy, rfl, hy7⟩ := hj (Or.inr rfl)
    exact ⟨fun _ => e604' (by decide) (by decide) (by decide) 0, fun _ => jmp (Or.inr rfl) y rfl hy hy7⟩
  · obtain rfl := eo 11 (by omega) c
    obtain ⟨y, hy, rfl, hy1, hax3⟩ := hax rfl
    have hee := he11 rfl
    have htk2 : ax ≤ d := by have := htk; simp only [tkN] at this; simpa using this
    refine ⟨vp_in_nI (by omega) (by omega), fun S26 e26 => ⟨vp_in_nI (by omega) (by omega), ?_⟩⟩
    rw [nI_clamp (n := f) (by omega)] at e26
    have g26 : ∀ q : Nat, q ≠ 39 → q ≠ 41 → S26 q = S q := fun q a b => by rw [e26, ms_n _ _ a]; exact g9 q a b
    have t39 : S26 39 = upd (S9 39) f (nI i) := by rw [e26, ms_s]
    have t41 : S26 41 = upd (S 41) f (nI d) := by rw [e26, ms_n _ _ (show 41 ≠ 39 by decide), g41, hee]
    have ax1 : S26 1 y = nI ax := by rw [g26 1 (by decide) (by decide)]; exact hy1
    rw [nI_clamp (n := y) (by omega), ax1, nI_sub (show ax ≤ 15 * f + 7 + d by omega)]
    have hX : MB S26 M := same S26 (fun q _ _ a b _ _ => g26 q a b)
    have fr26 : ∀ t q : Nat, t ≠ f → 38 ≤ q → q ≤ 41 → S26 q t = S q t := by
      intro t q ht a b
      rcases (show q = 38 ∨ q = 39 ∨ q = 40 ∨ q = 41 by omega) with w | w | w | w
      · rw [w, g26 38 (by decide) (by decide)]
      · rw [w, t39, upd_n _ _ ht, g39, upd_n _ _ ht]
      · rw [w, g26 40 (by decide) (by decide)]
      · rw [w, t41, upd_n _ _ ht]
    have cd26 : CdK S S26 M := CdK.rf (g26 17 (by decide) (by decide)) (g26 23 (by decide) (by decide)) (g26 25 (by decide) (by decide))
    have fm26 : fm S26 f = fm S f := by
      unfold fm
      rw [g26 40 (by decide) (by decide), t39, upd_s, h39]
    have w26 : ∀ t : Nat, t < f + 1 → WtI S26 M t := by
      intro t ht
      by_cases q : t = f
      · subst q
        refine ⟨⟨m, n, hm, by rw [g26 38 (by decide) (by decide)]; exact h38, by rw [g26 3 (by decide) (by decide)]; exact hn, hn60, Or.inl ⟨by rw [g26 40 (by decide) (by decide)]; exact h40, i, d, hi, by rw [t39, upd_s], hd8, by rw [g26 7 (by decide) (by decide)]; exact h7, by rw [t41, upd_s]⟩⟩, fun m2 at2 hm2 hat2 q38 q39 => ?_⟩
        rw [g26 38 (by decide) (by decide), h38] at q38
        rw [t39, upd_s] at q39
        have e1 : m = m2 := nI_inj q38 (by omega) (by omega)
        have e2 : i = at2 := nI_inj q39 (by omega) (by omega)
        subst e1 e2
        refine ⟨fun _ => by rw [g26 4 (by decide) (by decide)]; exact h4, fun c2 hc2 q40 => ?_⟩
        rw [g26 40 (by decide) (by decide), h40] at q40
        exact absurd q40.symm (nI_neg1 (by omega))
      · exact (hWt t (by omega)).keep hM8 (fun q a b => fr26 t q (by omega) a b) (g26 3 (by decide) (by decide)) (g26 4 (by decide) (by decide)) (g26 7 (by decide) (by decide)) cd26
    refine sp_call_r (s := s) (F := f + 1) hX hy ax1 hax3 (by omega) (by rw [g26 37 (by decide) (by decide)]; exact h37) hF16 (by rw [g26 44 (by decide) (by decide)]; exact hs) hs15 (by rw [g26 43 (by decide) (by decide)]; exact h43) (fun S' hX' hne => ⟨fun _ => hstop S' hX' hne, fun q => absurd rfl q⟩) (fun S' hX' hlt hF15 e44 e43 e37 hfr e7' hcd hF' => ⟨fun _ => ?_, fun q => absurd rfl q⟩)
    refine hgo S' (f + 1 + 1) (s + 1) ⟨hX', by omega, by omega, e37, e43, by rw [show f + 1 + 1 - 1 = f + 1 by omega]; exact hF', fun t ht => (w26 t (by omega)).keep hM8 (fun q a b => hfr t q (by omega) a b) (e7' 3 (by omega)) (e7' 4 (by omega)) (e7' 7 (by omega)) hcd⟩ e44 (by omega) ?_
    unfold tm
    have e1 : sN (fm S') (f + 1) = sN (fm S) (f + 1) := sN_eq (f + 1) (fun t ht => by
      rw [fm_keep (fun q a b => hfr t q ht a b)]
      by_cases q : t = f
      · rw [q]; exact fm26
      · exact fm_keep (fun q a b => fr26 t q (by omega) a b))
    have := fm_le S' (f + 1)
    have e2 : sN (fm S') (f + 1 + 1) = sN (fm S') (f + 1) + fm S' (f + 1) := rfl
    rw [e2, e1]
    omega
  · obtain rfl := eo 12 (by omega) c
    have fr9 : ∀ t q : Nat, t ≠ f → 38 ≤ q → q ≤ 41 → S9 q t = S q t := by
      intro t q ht a b
      rcases (show q = 38 ∨ q = 39 ∨ q = 40 ∨ q = 41 by omega) with w | w | w | w
      · rw [w, g9 38 (by decide) (by decide)]
      · rw [w, g39, upd_n _ _ ht]
      · rw [w, g9 40 (by decide) (by decide)]
      · rw [w, g41, upd_n _ _ ht]
    have cd9 : CdK S S9 M := CdK.rf (g9 17 (by decide) (by decide)) (g9 23 (by decide) (by decide)) (g9 25 (by decide) (by decide))
    have w9 : ∀ t : Nat, t < f → WtI S9 M t := fun t ht => (hWt t (by omega)).keep hM8 (fun q a b => fr9 t q (by omega) a b) (g9 3 (by decide) (by decide)) (g9 4 (by decide) (by decide)) (g9 7 (by decide) (by decide)) cd9
    refine sp_returns s9 s937 (by omega) (fun hf1 => w9 (f - 1) (by omega)) (fun S' hX' hne => ⟨fun _ => hstop S' hX' hne, fun q => absurd rfl q⟩) (fun S' hf1 hRt hF' hfm => ⟨fun _ => ?_, fun q => absurd rfl q⟩)
    obtain ⟨r1, r2, r3⟩ := hRt
    have hX' : MB S' M := s9.same (fun q hq => r1 q (by omega) (by omega) (by omega) (by omega)) (r1 13 (by decide) (by decide) (by decide) (by decide)) (r1 15 (by decide) (by decide) (by decide) (by decide)) (r1 17 (by decide) (by decide) (by decide) (by decide)) (fun q a b => r1 q (by omega) (by omega) (by omega) (by omega))
    have fr' : ∀ t q : Nat, t ≠ f - 1 → 38 ≤ q → q ≤ 41 → S' q t = S9 q t := by
      intro t q ht a b
      rcases (show q = 38 ∨ q = 39 ∨ q = 40 ∨ q = 41 by omega) with w | w | w | w
      · rw [w, r1 38 (by decide) (by decide) (by decide) (by decide)]
      · rw [w]; exact (r2 t ht).1
      · rw [w, r1 40 (by decide) (by decide) (by decide) (by decide)]
      · rw [w]; exact (r2 t ht).2
    have cd' : CdK S9 S' M := CdK.rf (r1 17 (by decide) (by decide) (by decide) (by decide)) (r1 23 (by decide) (by decide) (by decide) (by decide)) (r1 25 (by decide) (by decide) (by decide) (by decide))
    refine hgo S' f s ⟨hX', hf1, by omega, r3, by rw [r1 43 (by decide) (by decide) (by decide) (by decide)]; exact s943, hF', fun t ht => (w9 t (by omega)).keep hM8 (fun q a b => fr' t q (by omega) a b) (r1 3 (by decide) (by decide) (by decide) (by decide)) (r1 4 (by decide) (by decide) (by decide) (by decide)) (r1 7 (by decide) (by decide) (by decide) (by decide)) cd'⟩ (by rw [r1 44 (by decide) (by decide) (by decide) (by decide)]; exact s944) hs15 ?_
    unfold tm
    have e1 : sN (fm S') f < sN (fm S9) f := sN_lt f (fun t ht => by
      by_cases q : t = f - 1
      · rw [q]; exact Nat.le_of_lt hfm
      · rw [fm_keep (fun q a b => fr' t q (by omega) a b)]; exact Nat.le_refl _) (f - 1) (by omega) hfm
    have e2 : sN (fm S9) f = sN (fm S) f := sN_eq f (fun t ht => fm_keep (fun q a b => fr9 t q (by omega) a b))
    have e3 : sN (fm S) (f + 1) = sN (fm S) f + fm S f := rfl
    omega
  · obtain rfl := eo 13 (by omega) c
    have h88 : d + 1 ≤ 8 := by have := h8; simp only [tkN, lyN] at this; simpa using this
    obtain ⟨y, hy, rfl⟩ := hk.2.2.1 (Or.inl rfl)
    exact ⟨vp_in_nI (by omega) (by omega), vp_in_nI (by omega) (by omega), fun S' e' => put (by decide) (by decide) (by decide) S' 42 _ (Or.inl rfl) e' 0⟩
  · obtain rfl := eo 14 (by omega) c
    obtain ⟨y, hy, rfl⟩ := hk.2.2.1 (Or.inr rfl)
    exact ⟨vp_in_nI (by omega) (by omega), fun S' e' => put (by decide) (by decide) (by decide) S' 12 _ (Or.inr (Or.inl rfl)) e' 0⟩
  · obtain rfl := eo 15 (by omega) c
    obtain ⟨y, hy, rfl⟩ := hk.2.2.2 (Or.inl rfl)
    refine sp_makesRow (by omega) (e604' (by decide) (by decide) (by decide) 4) (e604' (by decide) (by decide) (by decide) 5) (fun n' S' hn' hRw => ?_)
    have g' : ∀ q : Nat, q ≠ 13 → q ≠ 14 → S' q = S9 q := hRw.2
    have hX : MB S' M := by
      refine ⟨s9.1.same (fun q hq => g' q (by omega) (by omega)), fun r hr => ?_, s9.2.2.same (g' 1 (by decide) (by decide)) (g' 3 (by decide) (by decide)) (g' 7 (by decide) (by decide)) (g' 15 (by decide) (by decide)) (g' 17 (by decide) (by decide)) (g' 22 (by decide) (by decide)) (fun q a b => g' q (by omega) (by omega))⟩
      rw [hRw.1]
      by_cases q : r = y
      · rw [q, upd_s]; exact Or.inr ⟨n', hn', rfl⟩
      · rw [upd_n _ _ q]; exact s9.2.1 r hr
    exact e604 S' 0 hX (by rw [g' 37 (by decide) (by decide)]; exact s937) (fun _ => nxt (by decide) (by decide) (by decide) S' hX (fun q a b c d1 => g' q b c))
  · obtain rfl := eo 16 (by omega) c
    obtain ⟨y, hy, rfl⟩ := hk.2.2.2 (Or.inr (Or.inl rfl))
    have v1 : vp_in (nI (15 * f + 7 + d - 1)) 240 := vp_in_nI (by omega) (by omega)
    refine sp_refuses (by omega) s9.2.1 ⟨fun _ => ⟨v1, fun S' e' => put (by decide) (by decide) (by decide) S' 42 _ (Or.inl rfl) e' 2⟩, fun q => absurd q (by decide)⟩ ⟨fun _ => ⟨v1, fun S' e' => put (by decide) (by decide) (by decide) S' 42 _ (Or.inl rfl) e' 3⟩, fun q => absurd q (by decide)⟩ (fun i2 n2 hi2 hn2 _ ev => ⟨fun q => absurd rfl q, fun _ => ?_⟩)
    rw [ev, ix20]
    exact ⟨vp_in_nI (by omega) (by omega), v1, fun S' e' => put (by decide) (by decide) (by decide) S' 42 _ (Or.inl rfl) e' 0⟩
  · obtain rfl := eo 17 (by omega) c
    obtain ⟨y, hy, rfl⟩ := hk.2.2.2 (Or.inr (Or.inr rfl))
    have v2 : vp_in (nI (15 * f + 7 + d - 2)) 240 := vp_in_nI (by omega) (by omega)
    refine ⟨v2, sp_refuses (by omega) s9.2.1 ⟨fun _ => e604' (by decide) (by decide) (by decide) 2, fun q => absurd q (by decide)⟩ ⟨fun _ => e604' (by decide) (by decide) (by decide) 3, fun q => absurd q (by decide)⟩ (fun i2 n2 hi2 hn2 _ ev => ⟨fun q => absurd rfl q, fun _ => ⟨v2, ?_⟩⟩)⟩
    rw [ev, ix20]
    exact ⟨vp_in_nI (by omega) (by omega), fun S' e' => put (by decide) (by decide) (by decide) S' 14 _ (Or.inr (Or.inr rfl)) e' 0⟩
  · obtain rfl := eo 18 (by omega) c
    have h88 : d - 1 + 2 ≤ 8 := by have := h8; simp only [tkN, lyN] at this; simpa using this
    exact ⟨vp_in_nI (by omega) (by omega), fun S' e' => put (by decide) (by decide) (by decide) S' 42 _ (Or.inl rfl) e' 0⟩
  · obtain rfl := eo 19 (by omega) c
    exact e604' (by decide) (by decide) (by decide) 0
theorem sp_goes {S : MST} {M f s : Nat} {Post : MST → Prop} (hR : RI S M (f + 1)) (h40 : S 40 f = -1) (hs : S 44 0 = nI s) (hs15 : s ≤ 1500)
    (hstop : ∀ S' : MST, MB S' M → ¬ S' 43 0 = 0 → Post S') (hgo : ∀ (S' : MST) (F' s' : Nat), RI S' M F' → S' 44 0 = nI s' → s' ≤ 1500 → tm S' F' s' < tm S (f + 1) s → Post S') : wp_X12_goes S Post := by
  obtain ⟨hMB, hF1, hF16, h37, h43, hFr, hWt⟩ := id hR
  have hM8 := hMB.1.2.1
  rw [show f + 1 - 1 = f by omega] at hFr
  obtain ⟨m, n, hm, h38, hn, hn60, hcase⟩ := hFr
  obtain ⟨_, i, d, hi, h39, hd8, h7, h41⟩ | ⟨j, k, N, at', e17, hj, hk, e40, _⟩ := hcase
  case inr => exact absurd (e40.symm.trans h40) (nI_neg1 (by omega))
  obtain ⟨l, n', hl, hl6, h3', hn1, hn60', h70, hlook⟩ := hMB.1.2.2.2 m hm
  obtain rfl : n' = n := nI_inj (h3'.symm.trans hn) (by omega) (by omega)
  obtain ⟨d', _, hd', hr⟩ := (hlook i hi).resolve_left (by rw [h7]; exact nI_neg1 (by omega))
  obtain rfl : d' = d := nI_inj (hd'.symm.trans h7) (by omega) (by omega)
  obtain ⟨o, ax, ho, h4, hk, hax, htk, h8, hj, hnx⟩ := hr
  unfold wp_X12_goes
  rw [h37, nI_m1 (n := f + 1) (by omega), show f + 1 - 1 = f by omega, nI_clamp (n := f) (by omega), h38, h39, h41, ix60, nI_clamp (n := 60 * m + i) (by omega), h4, show (15 : Int32) * nI f + 7 = nI (15 * f + 7) from ix15 f 7, nI_add (15 * f + 7) d', show nI (15 * f + 7 + d') - 1 = nI (15 * f + 7 + d' - 1) from nI_m1 (by omega)]
  have v16 : vp_in (nI f) 16 := vp_in_nI (by omega) (by omega)
  have v480 : vp_in (nI (60 * m + i)) 480 := vp_in_nI (by omega) (by omega)
  have go : ∀ v : Int32, wj_X12_goes_87 S (nI f) (nI i) (nI o) (S 5 (60 * m + i)) (nI (15 * f + 7)) (nI d') v Post := by
    intro v
    unfold wj_X12_goes_87
    rw [nI_clamp (n := f) (by omega), nI_1]
    refine ⟨v16, fun S45 e45 => ⟨fun n11 => ?_, fun e11 => ⟨v16, fun S50 e50 => ?_⟩⟩⟩
    · have o11 : ¬ o = 11 := fun q => n11 (by rw [q]; rfl)
      refine sp_takes (ax := ax) ho (fun q => absurd q o11) (sp_lays ho ⟨v16, fun S49 e49 => ?_⟩)
      rw [nI_sub htk, nI_add] at e49
      exact sp_goes134 (e := d' - tkN o ax + lyN o) hR hs hs15 hm h38 h40 hn hn60 hi h39 hd8 h7 h41 hl6 ho h4 hk hax htk h8 hj hnx (fun q a b => by rw [e49, ms_n _ _ b, e45, ms_n _ _ a]) (by rw [e49, ms_n _ _ (show 39 ≠ 41 by decide), e45, ms_s]) (by rw [e49, ms_s, e45, ms_n _ _ (show 41 ≠ 39 by decide)]) (fun _ => rfl) (fun q => absurd q o11) hstop hgo
    · have o11 : o = 11 := nI_inj (b := 11) e11 (by omega) (by omega)
      exact sp_goes134 (e := d') hR hs hs15 hm h38 h40 hn hn60 hi h39 hd8 h7 h41 hl6 ho h4 hk hax htk h8 hj hnx (fun q a b => by rw [e50, ms_n _ _ b, e45, ms_n _ _ a]) (by rw [e50, ms_n _ _ (show 39 ≠ 41 by decide), e45, ms_s]) (by rw [e50, ms_s, e45, ms_n _ _ (show 41 ≠ 39 by decide)]) (fun q => absurd o11 q) (fun _ => rfl) hstop hgo
  exact ⟨v16, v16, v480, v480, v16, fun _ => go 0, fun _ => ⟨vp_in_nI (by omega) (by omega), go _⟩⟩
