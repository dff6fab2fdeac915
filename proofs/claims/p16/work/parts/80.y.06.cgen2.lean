/-! THE CLASS, one INSTRUCTION whole: what it takes as constant, its template, its GUARDS; what is ASSUMED -/
theorem gN_lays {i : Int32} : ∀ (k a : Nat) (G : GS), gN (gLays i k a G) ≤ gN G + k := by
  intro k
  induction k with
  | zero => intro a G; exact Nat.le_refl _
  | succ k ih => intro a G; have := ih (a + 1) (gLay a i G); have := gN_lay (r := a) (i := i) (G := G); show gN (gLays i k (a + 1) (gLay a i G)) ≤ _; omega
/-- METHOD y of the class: its INSTRUCTIONS -/
def PrC (S : CST) (y n : Nat) (op : Nat → Nat) (xs dp : Nat → Int32) : Prop := y < cnP S ∧ cv S 247 y 0 = nI n ∧ n ≤ 60 ∧ ∀ i : Nat, i < n → op i < 20 ∧ cv S 250 y i = nI (op i) ∧ cv S 260 y i = xs i ∧ cv S 270 y i = dp i
theorem PrC.ex {L : List Nat} {S S' : CST} {y n : Nat} {op : Nat → Nat} {xs dp : Nat → Int32} (h : PrC S y n op xs dp) (e : Ex L S S') (hL : (L.contains 247 || L.contains 250 || L.contains 260 || L.contains 270) = false) : PrC S' y n op xs dp := by
  simp only [Bool.or_eq_false_iff] at hL
  obtain ⟨⟨⟨a, b⟩, c⟩, d⟩ := hL
  unfold PrC
  rw [show cnP S' = cnP S from congrArg Prod.fst e.1, e.2 247 a, e.2 250 b, e.2 260 c, e.2 270 d]
  exact h
theorem xg_want {S0 S : CST} {G : GS} {y n i d : Nat} {op : Nat → Nat} {xs dp : Nat → Int32} {as : Nat → Bool} {val : Nat → Int32} {Dn : Int32} {Post : CST → Int32 → Prop} (hE : Ex LK4 S0 S) (hc : CG S G) (hP : PrC S y n op xs dp) (hi : i < n) (hd : dp i = nI d) (hI : InsOk as (op i) d (xs i) Dn) (hN : gN G + 9 ≤ 1500)
    (has : ∀ t : Nat, t < 11 → cv S 190 0 t = bI (as t)) (hval : ∀ t : Nat, t < 11 → as t = true → cv S 290 y t = val t)
    (h1 : ∀ (S' : CST) (G' : GS), Ex LK4 S0 S' → CG S' G' → gN G' ≤ gN G + 9 → ¬ op i = 19 → (¬ op i = 11 → gMake as val (op i) (xs i) d Dn (nI i) G = gT (op i) (xs i) d Dn (nI i) G') → (op i = 11 → gMake as val (op i) (xs i) d Dn (nI i) G = gGuards as val (nI i) 8 3 (gT (op i) (xs i) d Dn (nI i) G')) → Post S' 1)
    (h0 : ∀ S' : CST, Ex LK4 S0 S' → CG S' (gMake as val (op i) (xs i) d Dn (nI i) G) → ¬ op i = 11 → Post S' 0) : wp_X9_wantsTemplate S y (nI i) Post := by
  obtain ⟨hy, hl, hn60, hp⟩ := id hP
  obtain ⟨ho, hop, hx, hdp⟩ := hp i hi
  have c24 : cin S 24 y := cin_24 rfl hy
  unfold wp_X9_wantsTemplate
  refine ⟨c24, xp_X8_opAt hy hl hn60 hi ⟨c24, xp_X8_xAt hy hl hn60 hi ⟨c24, xp_X8_depthAt hy hl hn60 hi ?_⟩⟩⟩
  rw [hop, hx, hdp, hd, z6d, z5d, z7d]
  generalize op i = o at ho hI h1 h0 ⊢
  generalize xs i = x at hI h1 h0 ⊢
  obtain ⟨-, hd8, htk, h8, hx1, hx13, h11, hst, hkp⟩ := hI
  have w1 : ∀ {P : CST → Int32 → Prop} {S' : CST}, Post S' 1 → ((¬ (((0 : Int32) : Int32) = 0)) → Post S' 0) ∧ (((0 : Int32) = 0) → Post S' 1) := fun h => ⟨fun q => absurd rfl q, fun _ => h⟩
  have w0 : ∀ {P : CST → Int32 → Prop} {S' : CST}, Post S' 0 → ((¬ (((1 : Int32) : Int32) = 0)) → Post S' 0) ∧ (((1 : Int32) = 0) → Post S' 1) := fun h => ⟨fun _ => h, fun q => absurd q (by decide)⟩
  have two : 3 ≤ o → o ≤ 8 → tkN o 0 = 2 → wp_X9_isResultKnown S (nI o - 3 + 2) (nI (5 + d)) (nI (6 + d)) (nI i) (fun S8 r8 => ((¬ ((r8 : Int32) = 0)) → (Post S8 0)) ∧ (((r8 : Int32) = 0) → (Post S8 1))) := fun a b ht => by
    have hg : gMake as val o x d Dn (nI i) G = gTwo o x d Dn (nI i) G := by
      rcases (show o = 3 ∨ o = 4 ∨ o = 5 ∨ o = 6 ∨ o = 7 ∨ o = 8 by omega) with rfl | rfl | rfl | rfl | rfl | rfl <;> rfl
    refine xg_isResultKnown hE hc a b hd8 (by omega) (by omega) (fun hb S' hE' hc' => w1 (P := Post) (h1 S' _ hE' hc' ?_ (by omega) (fun _ => ?_) (fun q => by omega))) (fun hb S' hE' hc' => w0 (P := Post) (h0 S' hE' ?_ (by omega)))
    · have e1 := gN_lay (r := 5 + d) (i := nI i) (G := G)
      have e2 := gN_lay (r := 6 + d) (i := nI i) (G := gLay (5 + d) (nI i) G)
      omega
    · rw [hg]; unfold gTwo; rw [hb, if_neg Bool.false_ne_true]
    · rw [hg]; unfold gTwo; rw [if_pos hb]; exact hc'
  have lay1 : 1 ≤ d → (o = 12 ∨ o = 14 ∨ o = 15 ∨ o = 16) → wp_X9_lay S (nI (6 + d)) (nI (6 + d)) (nI i) (fun S44 => Post S44 1) := fun a b =>
    xg_lay1 (by omega) hE hc (by omega) (fun S' hE' hc' => h1 S' _ hE' hc' (by have := gN_lay (r := 6 + d) (i := nI i) (G := G); omega) (by omega) (fun _ => by rcases b with rfl | rfl | rfl | rfl <;> rfl) (fun q => by omega))
  have copy : ∀ s : Nat, s < 15 → d ≤ 7 → (o = 1 ∨ o = 18) → gMake as val o x d Dn (nI i) G = gCopy o s x d Dn (nI i) G → wp_X9_isCopyKnown S (nI s) (nI (7 + d)) (fun S13 r13 => ((¬ ((r13 : Int32) = 0)) → (Post S13 0)) ∧ (((r13 : Int32) = 0) → (Post S13 1))) := fun s hs hd7 ho' hg =>
    xg_isCopyKnown hE hc hs (by omega) (fun hk => w1 (P := Post) (h1 S G hE hc (by omega) (by omega) (fun _ => by rw [hg]; unfold gCopy; rw [hk, if_neg Bool.false_ne_true]) (fun q => by omega))) (fun hk S' hE' hc' => w0 (P := Post) (h0 S' hE' (by rw [hg]; unfold gCopy; rw [if_pos hk]; exact hc') (by omega)))
  rcases z20 ho with rfl | rfl | rfl | rfl | rfl | rfl | rfl | rfl | rfl | rfl | rfl | rfl | rfl | rfl | rfl | rfl | rfl | rfl | rfl | rfl
  · have h8 : d - 0 + 1 ≤ 8 := h8 (by decide)
    refine ⟨fun c => absurd c (by decide), fun _ => xg_know hE hc (by omega) (fun S' a b => h0 S' a b (by decide)), ?_⟩
    exact ⟨fun c => absurd c (by decide), fun c => absurd c (by decide), fun c => absurd c (by decide), fun c => absurd c (by decide), fun c => absurd c (by decide), fun c => absurd c (by decide), fun c => absurd c (by decide), fun c => absurd c (by decide), fun c => absurd c (by decide), fun c => absurd c (by decide), fun c => absurd c (by decide), fun c => absurd c (by decide), fun c => absurd c (by decide), fun c => absurd c (by decide), fun c => absurd c (by decide), fun c => absurd c (by decide), fun c => absurd c (by decide), fun c => absurd c (by decide), fun c => absurd c (by decide)⟩
  · have h8 : d - 0 + 1 ≤ 8 := h8 (by decide)
    have hd7 : d ≤ 7 := by omega
    obtain ⟨l, hl6, rfl⟩ := hx1 (Or.inl rfl)
    exact ⟨fun c => absurd c (by decide), fun c => absurd c (by decide), fun _ => copy l (by omega) hd7 (Or.inl rfl) (by show gCopy 1 (nI l).toNatClampNeg _ _ _ _ _ = _; rw [nI_clamp (by omega)]), fun c => absurd c (by decide), fun c => absurd c (by decide), fun c => absurd c (by decide), fun c => absurd c (by decide), fun c => absurd c (by decide), fun c => absurd c (by decide), fun c => absurd c (by decide), fun c => absurd c (by decide), fun c => absurd c (by decide), fun c => absurd c (by decide), fun c => absurd c (by decide), fun c => absurd c (by decide), fun c => absurd c (by decide), fun c => absurd c (by decide), fun c => absurd c (by decide), fun c => absurd c (by decide), fun c => absurd c (by decide), fun c => absurd c (by decide)⟩
  · have h1d : 1 ≤ d := htk
    obtain ⟨l, hl6, rfl⟩ := hx1 (Or.inr rfl)
    have hg : gMake as val 2 (nI l) d Dn (nI i) G = gStore (nI l) d Dn (nI i) G := rfl
    exact ⟨fun c => absurd c (by decide), fun c => absurd c (by decide), fun c => absurd c (by decide), fun _ => xg_isStoredKnown hE hc (by omega) hd8 h1d (by omega) (fun hk S' a b => w1 (P := Post) (h1 S' _ a b (by show gN G ≤ _; omega) (by decide) (fun _ => by rw [hg]; unfold gStore; rw [hk, if_neg Bool.false_ne_true, nI_clamp (n := l) (by omega)]) (fun q => absurd q (by decide)))) (fun hk S' a b => w0 (P := Post) (h0 S' a (by rw [hg]; unfold gStore; rw [if_pos hk, nI_clamp (n := l) (by omega)]; exact b) (by decide))), fun c => absurd c (by decide), fun c => absurd c (by decide), fun c => absurd c (by decide), fun c => absurd c (by decide), fun c => absurd c (by decide), fun c => absurd c (by decide), fun c => absurd c (by decide), fun c => absurd c (by decide), fun c => absurd c (by decide), fun c => absurd c (by decide), fun c => absurd c (by decide), fun c => absurd c (by decide), fun c => absurd c (by decide), fun c => absurd c (by decide), fun c => absurd c (by decide), fun c => absurd c (by decide), fun c => absurd c (by decide)⟩
  · exact ⟨fun c => absurd c (by decide), fun c => absurd c (by decide), fun c => absurd c (by decide), fun c => absurd c (by decide), fun _ => two (by decide) (by decide) rfl, fun c => absurd c (by decide), fun c => absurd c (by decide), fun c => absurd c (by decide), fun c => absurd c (by decide), fun c => absurd c (by decide), fun c => absurd c (by decide), fun c => absurd c (by decide), fun c => absurd c (by decide), fun c => absurd c (by decide), fun c => absurd c (by decide), fun c => absurd c (by decide), fun c => absurd c (by decide), fun c => absurd c (by decide), fun c => absurd c (by decide), fun c => absurd c (by decide), fun c => absurd c (by decide)⟩
  · exact ⟨fun c => absurd c (by decide), fun c => absurd c (by decide), fun c => absurd c (by decide), fun c => absurd c (by decide), fun c => absurd c (by decide), fun _ => two (by decide) (by decide) rfl, fun c => absurd c (by decide), fun c => absurd c (by decide), fun c => absurd c (by decide), fun c => absurd c (by decide), fun c => absurd c (by decide), fun c => absurd c (by decide), fun c => absurd c (by decide), fun c => absurd c (by decide), fun c => absurd c (by decide), fun c => absurd c (by decide), fun c => absurd c (by decide), fun c => absurd c (by decide), fun c => absurd c (by decide), fun c => absurd c (by decide), fun c => absurd c (by decide)⟩
  · exact ⟨fun c => absurd c (by decide), fun c => absurd c (by decide), fun c => absurd c (by decide), fun c => absurd c (by decide), fun c => absurd c (by decide), fun c => absurd c (by decide), fun _ => two (by decide) (by decide) rfl, fun c => absurd c (by decide), fun c => absurd c (by decide), fun c => absurd c (by decide), fun c => absurd c (by decide), fun c => absurd c (by decide), fun c => absurd c (by decide), fun c => absurd c (by decide), fun c => absurd c (by decide), fun c => absurd c (by decide), fun c => absurd c (by decide), fun c => absurd c (by decide), fun c => absurd c (by decide), fun c => absurd c (by decide), fun c => absurd c (by decide)⟩
  · exact ⟨fun c => absurd c (by decide), fun c => absurd c (by decide), fun c => absurd c (by decide), fun c => absurd c (by decide), fun c => absurd c (by decide), fun c => absurd c (by decide), fun c => absurd c (by decide), fun _ => two (by decide) (by decide) rfl, fun c => absurd c (by decide), fun c => absurd c (by decide), fun c => absurd c (by decide), fun c => absurd c (by decide), fun c => absurd c (by decide), fun c => absurd c (by decide), fun c => absurd c (by decide), fun c => absurd c (by decide), fun c => absurd c (by decide), fun c => absurd c (by decide), fun c => absurd c (by decide), fun c => absurd c (by decide), fun c => absurd c (by decide)⟩
  · exact ⟨fun c => absurd c (by decide), fun c => absurd c (by decide), fun c => absurd c (by decide), fun c => absurd c (by decide), fun c => absurd c (by decide), fun c => absurd c (by decide), fun c => absurd c (by decide), fun c => absurd c (by decide), fun _ => two (by decide) (by decide) rfl, fun c => absurd c (by decide), fun c => absurd c (by decide), fun c => absurd c (by decide), fun c => absurd c (by decide), fun c => absurd c (by decide), fun c => absurd c (by decide), fun c => absurd c (by decide), fun c => absurd c (by decide), fun c => absurd c (by decide), fun c => absurd c (by decide), fun c => absurd c (by decide), fun c => absurd c (by decide)⟩
  · exact ⟨fun c => absurd c (by decide), fun c => absurd c (by decide), fun c => absurd c (by decide), fun c => absurd c (by decide), fun c => absurd c (by decide), fun c => absurd c (by decide), fun c => absurd c (by decide), fun c => absurd c (by decide), fun c => absurd c (by decide), fun _ => two (by decide) (by decide) rfl, fun c => absurd c (by decide), fun c => absurd c (by decide), fun c => absurd c (by decide), fun c => absurd c (by decide), fun c => absurd c (by decide), fun c => absurd c (by decide), fun c => absurd c (by decide), fun c => absurd c (by decide), fun c => absurd c (by decide), fun c => absurd c (by decide), fun c => absurd c (by decide)⟩
  · exact ⟨fun c => absurd c (by decide), fun c => absurd c (by decide), fun c => absurd c (by decide), fun c => absurd c (by decide), fun c => absurd c (by decide), fun c => absurd c (by decide), fun c => absurd c (by decide), fun c => absurd c (by decide), fun c => absurd c (by decide), fun c => absurd c (by decide), fun _ => xg_lay8 hE hc (by omega) (fun S' a b => h1 S' _ a b (by have := gN_lays (i := nI i) 8 7 G; omega) (by decide) (fun _ => rfl) (fun q => absurd q (by decide))), fun c => absurd c (by decide), fun c => absurd c (by decide), fun c => absurd c (by decide), fun c => absurd c (by decide), fun c => absurd c (by decide), fun c => absurd c (by decide), fun c => absurd c (by decide), fun c => absurd c (by decide), fun c => absurd c (by decide), fun c => absurd c (by decide)⟩
  · have h1d : 1 ≤ d := htk
    have hg : gMake as val 10 x d Dn (nI i) G = gWhen x d Dn (nI i) G := rfl
    exact ⟨fun c => absurd c (by decide), fun c => absurd c (by decide), fun c => absurd c (by decide), fun c => absurd c (by decide), fun c => absurd c (by decide), fun c => absurd c (by decide), fun c => absurd c (by decide), fun c => absurd c (by decide), fun c => absurd c (by decide), fun c => absurd c (by decide), fun c => absurd c (by decide), fun _ => xg_isWaySure hE hc hd8 h1d (by omega) (fun hk S' a b => w1 (P := Post) (h1 S' _ a b (by have := gN_lays (i := nI i) 8 7 G; omega) (by decide) (fun _ => by rw [hg]; unfold gWhen; rw [hk, if_neg Bool.false_ne_true]) (fun q => absurd q (by decide)))) (fun hk S' a b => w0 (P := Post) (h0 S' a (by rw [hg]; unfold gWhen; rw [if_pos hk]; exact b) (by decide))), fun c => absurd c (by decide), fun c => absurd c (by decide), fun c => absurd c (by decide), fun c => absurd c (by decide), fun c => absurd c (by decide), fun c => absurd c (by decide), fun c => absurd c (by decide), fun c => absurd c (by decide), fun c => absurd c (by decide)⟩
  · exact ⟨fun c => absurd c (by decide), fun c => absurd c (by decide), fun c => absurd c (by decide), fun c => absurd c (by decide), fun c => absurd c (by decide), fun c => absurd c (by decide), fun c => absurd c (by decide), fun c => absurd c (by decide), fun c => absurd c (by decide), fun c => absurd c (by decide), fun c => absurd c (by decide), fun c => absurd c (by decide), fun _ => xg_lay8 hE hc (by omega) (fun S' a b => h1 S' _ a b (by have := gN_lays (i := nI i) 8 7 G; omega) (by decide) (fun q => absurd rfl q) (fun _ => rfl)), fun c => absurd c (by decide), fun c => absurd c (by decide), fun c => absurd c (by decide), fun c => absurd c (by decide), fun c => absurd c (by decide), fun c => absurd c (by decide), fun c => absurd c (by decide), fun c => absurd c (by decide)⟩
  · exact ⟨fun c => absurd c (by decide), fun c => absurd c (by decide), fun c => absurd c (by decide), fun c => absurd c (by decide), fun c => absurd c (by decide), fun c => absurd c (by decide), fun c => absurd c (by decide), fun c => absurd c (by decide), fun c => absurd c (by decide), fun c => absurd c (by decide), fun c => absurd c (by decide), fun c => absurd c (by decide), fun c => absurd c (by decide), fun _ => lay1 htk (Or.inl rfl), fun c => absurd c (by decide), fun c => absurd c (by decide), fun c => absurd c (by decide), fun c => absurd c (by decide), fun c => absurd c (by decide), fun c => absurd c (by decide), fun c => absurd c (by decide)⟩
  · have h8 : d - 0 + 1 ≤ 8 := h8 (by decide)
    have hd7 : d ≤ 7 := by omega
    obtain ⟨f, hf, rfl⟩ := hx13 (Or.inl rfl)
    have hg : gMake as val 13 (nI f) d Dn (nI i) G = gField as val (nI f) d Dn (nI i) G := rfl
    exact ⟨fun c => absurd c (by decide), fun c => absurd c (by decide), fun c => absurd c (by decide), fun c => absurd c (by decide), fun c => absurd c (by decide), fun c => absurd c (by decide), fun c => absurd c (by decide), fun c => absurd c (by decide), fun c => absurd c (by decide), fun c => absurd c (by decide), fun c => absurd c (by decide), fun c => absurd c (by decide), fun c => absurd c (by decide), fun c => absurd c (by decide), fun _ => ⟨c24, xg_isFieldKnown hE hc hy hf hd7 has hval (fun hk => w1 (P := Post) (h1 S G hE hc (by omega) (by decide) (fun _ => by rw [hg]; unfold gField; rw [nI_clamp (n := f) (by omega), hk, if_neg Bool.false_ne_true]) (fun q => absurd q (by decide)))) (fun hk S' a b => w0 (P := Post) (h0 S' a (by rw [hg]; unfold gField; rw [nI_clamp (n := f) (by omega), if_pos hk]; exact b) (by decide)))⟩, fun c => absurd c (by decide), fun c => absurd c (by decide), fun c => absurd c (by decide), fun c => absurd c (by decide), fun c => absurd c (by decide), fun c => absurd c (by decide)⟩
  · exact ⟨fun c => absurd c (by decide), fun c => absurd c (by decide), fun c => absurd c (by decide), fun c => absurd c (by decide), fun c => absurd c (by decide), fun c => absurd c (by decide), fun c => absurd c (by decide), fun c => absurd c (by decide), fun c => absurd c (by decide), fun c => absurd c (by decide), fun c => absurd c (by decide), fun c => absurd c (by decide), fun c => absurd c (by decide), fun c => absurd c (by decide), fun c => absurd c (by decide), fun _ => lay1 htk (Or.inr (Or.inl rfl)), fun c => absurd c (by decide), fun c => absurd c (by decide), fun c => absurd c (by decide), fun c => absurd c (by decide), fun c => absurd c (by decide)⟩
  · exact ⟨fun c => absurd c (by decide), fun c => absurd c (by decide), fun c => absurd c (by decide), fun c => absurd c (by decide), fun c => absurd c (by decide), fun c => absurd c (by decide), fun c => absurd c (by decide), fun c => absurd c (by decide), fun c => absurd c (by decide), fun c => absurd c (by decide), fun c => absurd c (by decide), fun c => absurd c (by decide), fun c => absurd c (by decide), fun c => absurd c (by decide), fun c => absurd c (by decide), fun c => absurd c (by decide), fun _ => lay1 htk (Or.inr (Or.inr (Or.inl rfl))), fun c => absurd c (by decide), fun c => absurd c (by decide), fun c => absurd c (by decide), fun c => absurd c (by decide)⟩
  · exact ⟨fun c => absurd c (by decide), fun c => absurd c (by decide), fun c => absurd c (by decide), fun c => absurd c (by decide), fun c => absurd c (by decide), fun c => absurd c (by decide), fun c => absurd c (by decide), fun c => absurd c (by decide), fun c => absurd c (by decide), fun c => absurd c (by decide), fun c => absurd c (by decide), fun c => absurd c (by decide), fun c => absurd c (by decide), fun c => absurd c (by decide), fun c => absurd c (by decide), fun c => absurd c (by decide), fun c => absurd c (by decide), fun _ => lay1 htk (Or.inr (Or.inr (Or.inr rfl))), fun c => absurd c (by decide), fun c => absurd c (by decide), fun c => absurd c (by decide)⟩
  · have h2d : 2 ≤ d := htk
    exact ⟨fun c => absurd c (by decide), fun c => absurd c (by decide), fun c => absurd c (by decide), fun c => absurd c (by decide), fun c => absurd c (by decide), fun c => absurd c (by decide), fun c => absurd c (by decide), fun c => absurd c (by decide), fun c => absurd c (by decide), fun c => absurd c (by decide), fun c => absurd c (by decide), fun c => absurd c (by decide), fun c => absurd c (by decide), fun c => absurd c (by decide), fun c => absurd c (by decide), fun c => absurd c (by decide), fun c => absurd c (by decide), fun c => absurd c (by decide), fun _ => xg_lay2 (by omega) hE hc (by omega) (fun S' a b => h1 S' _ a b (by have e1 := gN_lay (r := 5 + d) (i := nI i) (G := G); have e2 := gN_lay (r := 6 + d) (i := nI i) (G := gLay (5 + d) (nI i) G); omega) (by decide) (fun _ => rfl) (fun q => absurd q (by decide))), fun c => absurd c (by decide), fun c => absurd c (by decide)⟩
  · have h8 : d - 1 + 2 ≤ 8 := h8 (by decide)
    exact ⟨fun c => absurd c (by decide), fun c => absurd c (by decide), fun c => absurd c (by decide), fun c => absurd c (by decide), fun c => absurd c (by decide), fun c => absurd c (by decide), fun c => absurd c (by decide), fun c => absurd c (by decide), fun c => absurd c (by decide), fun c => absurd c (by decide), fun c => absurd c (by decide), fun c => absurd c (by decide), fun c => absurd c (by decide), fun c => absurd c (by decide), fun c => absurd c (by decide), fun c => absurd c (by decide), fun c => absurd c (by decide), fun c => absurd c (by decide), fun c => absurd c (by decide), fun _ => copy (6 + d) (by omega) (by omega) (Or.inr rfl) rfl, fun c => absurd c (by decide)⟩
  · have h1d : 1 ≤ d := htk
    exact ⟨fun c => absurd c (by decide), fun c => absurd c (by decide), fun c => absurd c (by decide), fun c => absurd c (by decide), fun c => absurd c (by decide), fun c => absurd c (by decide), fun c => absurd c (by decide), fun c => absurd c (by decide), fun c => absurd c (by decide), fun c => absurd c (by decide), fun c => absurd c (by decide), fun c => absurd c (by decide), fun c => absurd c (by decide), fun c => absurd c (by decide), fun c => absurd c (by decide), fun c => absurd c (by decide), fun c => absurd c (by decide), fun c => absurd c (by decide), fun c => absurd c (by decide), fun c => absurd c (by decide), fun _ => xg_forget hE hc (by omega) (fun S' a b _ => h0 S' a b (by decide))⟩
/-- the template -/
theorem xg_addTemplate {S0 S : CST} {G : GS} {y n i d : Nat} {op : Nat → Nat} {xs dp : Nat → Int32} {Dn : Int32} {Post : CST → Prop} (hE : Ex LK4 S0 S) (hc : CG S G) (hP : PrC S y n op xs dp) (hi : i < n) (hd : dp i = nI d) (h11 : op i = 11 → i + 1 < n ∧ dp (i + 1) = Dn) (hN : gN G < 1511) (h19 : ¬ op i = 19)
    (h : ∀ S' : CST, Ex LK4 S0 S' → CG S' (gT (op i) (xs i) d Dn (nI i) G) → Post S') : wp_X3_addTemplate S y (nI i) Post := by
  obtain ⟨hy, hl, hn60, hp⟩ := id hP
  obtain ⟨ho, hop, hx, hdp⟩ := hp i hi
  refine xp_X3_addTemplate (Dn := Dn) hy hl hn60 hi ho hop hx (hdp.trans hd) (fun q => ⟨(h11 q).1, (hp _ (h11 q).1).2.2.2.trans (h11 q).2⟩) hc.1 hN (fun _ S' hA => h S' (Ex.step hA.1 (by decide) hE) ?_) (fun q => absurd q h19)
  obtain ⟨e, n', old, c1, c2, c3, c4, c5⟩ := hA
  refine ⟨n', fun p hp => ?_, fun r hr => by rw [e.2 160 rfl, e.2 170 rfl]; exact hc.2.2 r hr⟩
  have hp : p < gN G + 1 := hp
  have eP : gP (gT (op i) (xs i) d Dn (nI i) G) p = if p = gN G then ((tpl (op i) (xs i) (nI d) Dn).1, (tpl (op i) (xs i) (nI d) Dn).2.1, (tpl (op i) (xs i) (nI d) Dn).2.2.1, (tpl (op i) (xs i) (nI d) Dn).2.2.2, nI i) else gP G p := rfl
  rw [eP]
  by_cases w : p = gN G
  · rw [if_pos w, w]
    exact ⟨c1, c2, c3, c4, c5⟩
  · rw [if_neg w, old _ (by omega), old _ (by omega), old _ (by omega), old _ (by omega), old _ (by omega)]
    exact hc.2.1 p (by omega)
theorem xg_addGuards_7 {S0 : CST} {y : Nat} {i : Int32} {as : Nat → Bool} {val : Nat → Int32} {K Post : CST → Prop} (hy : y < cnP S0) (has : ∀ t : Nat, t < 11 → cv S0 190 0 t = bI (as t)) (hval : ∀ t : Nat, t < 11 → as t = true → cv S0 290 y t = val t) : ∀ (k t : Nat) (S : CST) (G : GS), t + k = 11 → Ex LK4 S0 S → CG S G → gN G + k ≤ 1511 → (∀ S' : CST, Ex LK4 S0 S' → CG S' (gGuards as val i k t G) → K S') → wl_X9_addGuards_7 K Post (k + 1) S y i (nI t) := by
  intro k
  induction k with
  | zero =>
    intro t S G ht hE hc _ h
    unfold wl_X9_addGuards_7
    obtain rfl : t = 11 := by omega
    exact ⟨fun _ => h S hE hc, fun c => absurd (show (11 : Int32) ≤ nI 11 by decide) c⟩
  | succ k ih =>
    intro t S G ht hE hc hN h
    have hyS : y < S.2.1 := by rw [show S.2.1 = S0.2.1 from congrArg Prod.fst hE.1]; exact hy
    unfold wl_X9_addGuards_7
    rw [nI_1, nI_clamp (n := t) (by omega), hE.2 190 rfl, has t (by omega)]
    refine ⟨fun c => absurd c (nI_ge (b := 11) (by omega) (by omega)), fun _ => ⟨vp_in_nI (by omega) (by omega), fun c => ?_, fun c => ?_⟩⟩
    · have e : gGuard as val i t G = G := if_neg (by rw [bI_0 c]; exact Bool.false_ne_true)
      refine ih (t + 1) S G (by omega) hE hc (by omega) (fun S' a b => h S' a ?_)
      show CG S' (gGuards as val i k (t + 1) (gGuard as val i t G))
      rw [e]; exact b
    · have e : gGuard as val i t G = gAdd (gdT val i t) G := if_pos (bI_1 c)
      have vo : ∀ {P : Int32 → Prop}, P (val t) → wp_X5_valueOf S y (nI t) P := fun hp => by
        unfold wp_X5_valueOf
        rw [nI_clamp (n := t) (by omega), hE.2 290 rfl, hval t (by omega) (bI_1 c)]
        exact ⟨fun c => absurd c (nI_nn _ (by omega)), fun _ => ⟨fun c => absurd c (nI_ge (b := 11) (by omega) (by omega)), fun _ => ⟨cin_28 rfl hyS, cin_29 rfl hyS, vp_in_nI (by omega) (by omega), hp⟩⟩⟩
      have go : ∀ S' : CST, Ex LK4 S0 S' → CG S' (gAdd (gdT val i t) G) → wl_X9_addGuards_7 K Post (k + 1) S' y i (nI (t + 1)) := fun S' a b => ih (t + 1) S' _ (by omega) a b (by show gN G + 1 + k ≤ 1511; omega) (fun S2 a2 b2 => h S2 a2 (by
        show CG S2 (gGuards as val i k (t + 1) (gGuard as val i t G))
        rw [e]; exact b2))
      refine ⟨fun c3 => ⟨cin_28 rfl hyS, vo ?_⟩, fun c3 => ⟨cin_28 rfl hyS, vo ?_⟩⟩
      · have t3 : 3 ≤ t := Nat.not_lt.mp (fun q => nI_ge (b := 3) q (by omega) c3)
        rw [show nI t - 3 = nI (t - 3) from nI_sub (b := 3) t3]
        exact xg_add hE hc (by omega) (fun S' a b => go S' a (by rw [gdT_hi t3]; exact b))
      · have t3 : t < 3 := Nat.not_le.mp (fun q => c3 (nI_le (a := 3) q (by omega)))
        exact xg_add hE hc (by omega) (fun S' a b => go S' a (by rw [show gdT val i t = (17, nI t, val t, 0, i) from if_pos t3]; exact b))
theorem xg_addGuards {S0 S : CST} {y k t : Nat} {i : Int32} {as : Nat → Bool} {val : Nat → Int32} {G : GS} {Post : CST → Prop} (htk : t + k = 11) (hy : y < cnP S0) (has : ∀ t : Nat, t < 11 → cv S0 190 0 t = bI (as t)) (hval : ∀ t : Nat, t < 11 → as t = true → cv S0 290 y t = val t) (hE : Ex LK4 S0 S) (hc : CG S G) (hN : gN G + k ≤ 1511) (h : ∀ S' : CST, Ex LK4 S0 S' → CG S' (gGuards as val i k t G) → Post S') : wp_X9_addGuards S y (nI t) i Post := by
  unfold wp_X9_addGuards
  rw [if_neg (nI_nn t (by omega))]
  exact ⟨k + 1, xg_addGuards_7 hy has hval k t S G htk hE hc hN h⟩
/-- an INSTRUCTION whole -/
theorem xg_ins {S0 S : CST} {G : GS} {y n i d : Nat} {op : Nat → Nat} {xs dp : Nat → Int32} {as : Nat → Bool} {val : Nat → Int32} {Dn : Int32} {L : CST → Prop} (hE : Ex LK4 S0 S) (hc : CG S G) (hP : PrC S0 y n op xs dp) (hi : i < n) (hd : dp i = nI d) (hI : InsOk as (op i) d (xs i) Dn) (h11 : op i = 11 → i + 1 < n ∧ dp (i + 1) = Dn) (hN : gN G + 18 ≤ 1500)
    (has : ∀ t : Nat, t < 11 → cv S0 190 0 t = bI (as t)) (hval : ∀ t : Nat, t < 11 → as t = true → cv S0 290 y t = val t) (h : ∀ S' : CST, Ex LK4 S0 S' → CG S' (gMake as val (op i) (xs i) d Dn (nI i) G) → L S') :
    wp_X9_wantsTemplate S y (nI i) (fun S36 r36 => (((r36 : Int32) = 0) → (cin S36 24 y ∧ (wp_X8_opAt S36 y (nI i) (fun r39 => ((¬ ((r39 : Int32) = 11)) → L S36) ∧ (((r39 : Int32) = 11) → (cin S36 24 y ∧ (wp_X9_addGuards S36 y 3 (nI i) (fun S43 => L S43)))))))) ∧ ((¬ ((r36 : Int32) = 0)) → (wp_X3_addTemplate S36 y (nI i) (fun S46 => cin S46 24 y ∧ (wp_X8_opAt S46 y (nI i) (fun r48 => ((¬ ((r48 : Int32) = 11)) → L S46) ∧ (((r48 : Int32) = 11) → (cin S46 24 y ∧ (wp_X9_addGuards S46 y 3 (nI i) (fun S52 => L S52)))))))))) := by
  have yS : ∀ {S' : CST}, Ex LK4 S0 S' → y < S'.2.1 := fun hE' => by rw [show (_ : CST).2.1 = S0.2.1 from congrArg Prod.fst hE'.1]; exact hP.1
  have opa : ∀ {S' : CST} {P : Int32 → Prop}, Ex LK4 S0 S' → P (nI (op i)) → wp_X8_opAt S' y (nI i) P := fun hE' hp => by
    obtain ⟨a, b, c, d'⟩ := hP.ex hE' rfl
    refine xp_X8_opAt a b c hi ?_
    rw [(d' i hi).2.1]; exact hp
  have o20 := (hP.2.2.2 i hi).1
  refine xg_want hE hc (hP.ex hE rfl) hi hd hI (by omega) (fun t ht => by rw [hE.2 190 rfl]; exact has t ht) (fun t ht hat => by rw [hE.2 290 rfl]; exact hval t ht hat) (fun S' G' hE' hc' hN' h19 e1 e2 => ⟨fun q => absurd q (by decide), fun _ => ?_⟩) (fun S' hE' hc' hn11 => ⟨fun _ => ⟨cin_24 rfl (yS hE'), opa hE' ⟨fun _ => h S' hE' hc', fun q => absurd (nI_inj (b := 11) q (by omega) (by omega)) hn11⟩⟩, fun q => absurd rfl q⟩)
  refine xg_addTemplate hE' hc' (hP.ex hE' rfl) hi hd h11 (by omega) h19 (fun S2 hE2 hc2 => ⟨cin_24 rfl (yS hE2), opa hE2 ⟨fun q => h S2 hE2 ?_, fun q => ⟨cin_24 rfl (yS hE2), ?_⟩⟩⟩)
  · rw [e1 (fun w => q (by rw [w]; rfl))]; exact hc2
  · have o11 : op i = 11 := nI_inj (b := 11) q (by omega) (by omega)
    refine xg_addGuards (t := 3) (k := 8) rfl hP.1 has hval hE2 hc2 (by show gN G' + 1 + 8 ≤ 1511; omega) (fun S3 a b => h S3 a ?_)
    rw [e2 o11]; exact b
