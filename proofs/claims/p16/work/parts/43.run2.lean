/-! remembering what a call was given -/
theorem sp_rm_r {S0 : MST} {m ax b : Nat} {K : MST → Int32 → Prop} {Post : MST → Prop} (hm : m < 8) (hax : S0 1 m = nI ax) (hax3 : ax ≤ 3) (hb : b + ax ≤ 240) (h : ∀ S : MST, (∀ q : Nat, q ≠ 20 → q ≠ 21 → S q = S0 q) → K S (nI m)) :
    ∀ (k j : Nat), j + k = 11 → ∀ S : MST, (∀ q : Nat, q ≠ 20 → q ≠ 21 → S q = S0 q) → wl_X12_remember_r_3 K Post (k + 1) S (nI m) (nI b) (nI j) := by
  intro k
  induction k with
  | zero =>
    intro j hj S hS
    unfold wl_X12_remember_r_3
    obtain rfl : j = 11 := by omega
    exact ⟨fun _ => h S hS, fun q => absurd (show (11 : Int32) ≤ nI 11 by decide) q⟩
  | succ k ih =>
    intro j hj S hS
    unfold wl_X12_remember_r_3
    have haxS : S 1 m = nI ax := by rw [hS 1 (by decide) (by decide)]; exact hax
    rw [ix11, nI_1, nI_clamp (n := m) (by omega), haxS]
    have v8 : vp_in (nI m) 8 := vp_in_nI (by omega) (by omega)
    have v88 : vp_in (nI (11 * m + j)) 88 := vp_in_nI (by omega) (by omega)
    have w21 : ∀ (Sx : MST) (g : Nat → Int32), (∀ q : Nat, q ≠ 20 → q ≠ 21 → Sx q = S0 q) → ∀ S5 : MST, S5 = ms Sx 21 g → wl_X12_remember_r_3 K Post (k + 1) S5 (nI m) (nI b) (nI (j + 1)) := fun Sx g hx S5 e5 => ih (j + 1) (by omega) S5 (fun q a c => by rw [e5, ms_n _ _ c]; exact hx q a c)
    have h16 : ∀ (g1 g2 : Nat → Int32) (S15 : MST), S15 = ms S 20 g1 → ∀ S16 : MST, S16 = ms S15 21 g2 → ∀ q : Nat, q ≠ 20 → q ≠ 21 → S16 q = S0 q := fun g1 g2 S15 e15 S16 e16 q a c => by rw [e16, ms_n _ _ c, e15, ms_n _ _ a]; exact hS q a c
    refine ⟨fun q => absurd ((nI_leI (a := 11) (b := j) (by omega) (by omega)).mp q) (by omega), fun _ => ⟨fun g3 => ?_, fun _ => ⟨v8, fun _ => ?_, fun lt => ?_⟩⟩⟩
    · have g3' : 3 ≤ j := (nI_leI (a := 3) (b := j) (by omega) (by omega)).mp g3
      rw [show nI j - 3 = nI (j - 3) from nI_sub (b := 3) g3']
      exact ⟨vp_in_nI (by omega) (by omega), v8, fun _ => ⟨v88, fun _ => ⟨v88, w21 S _ hS⟩, fun _ => ⟨v88, fun _ => ⟨v88, w21 S _ hS⟩, fun _ => ⟨v88, w21 S _ hS⟩⟩⟩, fun _ => ⟨v88, fun S15 e15 => ⟨v88, fun S16 e16 => ⟨v88, fun _ => ⟨v88, w21 S16 _ (h16 _ _ S15 e15 S16 e16)⟩, fun _ => ⟨v88, fun _ => ⟨v88, w21 S16 _ (h16 _ _ S15 e15 S16 e16)⟩, fun _ => ⟨v88, w21 S16 _ (h16 _ _ S15 e15 S16 e16)⟩⟩⟩⟩⟩⟩
    · exact ⟨v8, fun _ => ⟨v88, fun _ => ⟨v88, w21 S _ hS⟩, fun _ => ⟨v88, fun _ => ⟨v88, w21 S _ hS⟩, fun _ => ⟨v88, w21 S _ hS⟩⟩⟩, fun _ => ⟨v88, fun S15 e15 => ⟨v88, fun S16 e16 => ⟨v88, fun _ => ⟨v88, w21 S16 _ (h16 _ _ S15 e15 S16 e16)⟩, fun _ => ⟨v88, fun _ => ⟨v88, w21 S16 _ (h16 _ _ S15 e15 S16 e16)⟩, fun _ => ⟨v88, w21 S16 _ (h16 _ _ S15 e15 S16 e16)⟩⟩⟩⟩⟩⟩
    · have lt' : j < ax := by
        rcases Nat.lt_or_ge j ax with q | q
        · exact q
        · exact absurd (nI_le q (by omega)) lt
      rw [nI_add b j]
      exact ⟨vp_in_nI (by omega) (by omega), v8, fun _ => ⟨v88, fun _ => ⟨v88, w21 S _ hS⟩, fun _ => ⟨v88, fun _ => ⟨v88, w21 S _ hS⟩, fun _ => ⟨v88, w21 S _ hS⟩⟩⟩, fun _ => ⟨v88, fun S15 e15 => ⟨v88, fun S16 e16 => ⟨v88, fun _ => ⟨v88, w21 S16 _ (h16 _ _ S15 e15 S16 e16)⟩, fun _ => ⟨v88, fun _ => ⟨v88, w21 S16 _ (h16 _ _ S15 e15 S16 e16)⟩, fun _ => ⟨v88, w21 S16 _ (h16 _ _ S15 e15 S16 e16)⟩⟩⟩⟩⟩⟩
theorem sp_remember_r {S : MST} {m ax b : Nat} {Post : MST → Prop} (hm : m < 8) (hax : S 1 m = nI ax) (hax3 : ax ≤ 3) (hb : b + ax ≤ 240) (h : ∀ S' : MST, (∀ q : Nat, q ≠ 16 → q ≠ 20 → q ≠ 21 → S' q = S q) → Post S') : wp_X12_remember_r S (nI m) (nI b) Post := by
  unfold wp_X12_remember_r
  have v8 : vp_in (nI m) 8 := vp_in_nI (by omega) (by omega)
  exact ⟨12, sp_rm_r hm hax hax3 hb (fun S1 h1 => ⟨v8, v8, fun S2 e2 => h S2 (fun q a c d => by rw [e2, ms_n _ _ a]; exact h1 q c d)⟩) 11 0 (by omega) S (fun _ _ _ => rfl)⟩
theorem sp_cl93_r {S0 : MST} {m ax b F : Nat} {K : MST → Int32 → Int32 → Int32 → Prop} {Post : MST → Prop} (hm : m < 8) (hax : S0 1 m = nI ax) (hax3 : ax ≤ 3) (hb : b + ax ≤ 240) (hF : F < 16) (h : ∀ S : MST, (∀ q : Nat, q ≠ 42 → S q = S0 q) → K S (nI m) (nI b) (nI F)) :
    ∀ (k j : Nat), j + k = 15 → ∀ S : MST, (∀ q : Nat, q ≠ 42 → S q = S0 q) → wl_X12_call_r_93 K Post (k + 1) S (nI m) (nI b) (nI F) (nI j) := by
  intro k
  induction k with
  | zero =>
    intro j hj S hS
    unfold wl_X12_call_r_93
    obtain rfl : j = 15 := by omega
    exact ⟨fun _ => h S hS, fun q => absurd (show (15 : Int32) ≤ nI 15 by decide) q⟩
  | succ k ih =>
    intro j hj S hS
    unfold wl_X12_call_r_93
    have haxS : S 1 m = nI ax := by rw [hS 1 (by decide)]; exact hax
    rw [ix15, nI_1, nI_clamp (n := m) (by omega), haxS]
    have v8 : vp_in (nI m) 8 := vp_in_nI (by omega) (by omega)
    have v240 : vp_in (nI (15 * F + j)) 240 := vp_in_nI (by omega) (by omega)
    have w42 : ∀ (g : Nat → Int32) (S5 : MST), S5 = ms S 42 g → wl_X12_call_r_93 K Post (k + 1) S5 (nI m) (nI b) (nI F) (nI (j + 1)) := fun g S5 e5 => ih (j + 1) (by omega) S5 (fun q a => by rw [e5, ms_n _ _ a]; exact hS q a)
    refine ⟨fun q => absurd ((nI_leI (a := 15) (b := j) (by omega) (by omega)).mp q) (by omega), fun _ => ⟨v8, fun _ => ⟨v240, fun S5 e5 => w42 _ S5 e5⟩, fun lt => ?_⟩⟩
    have lt' : j < ax := by
      rcases Nat.lt_or_ge j ax with q | q
      · exact q
      · exact absurd (nI_le q (by omega)) lt
    rw [nI_add b j]
    exact ⟨vp_in_nI (by omega) (by omega), v240, fun S5 e5 => w42 _ S5 e5⟩
theorem sp_call60_r {S : MST} {m ax b F k : Nat} {Post : MST → Prop} (hm : m < 8) (hax : S 1 m = nI ax) (hax3 : ax ≤ 3) (hb : b + ax ≤ 240) (hF : F < 16) (h37 : S 37 0 = nI F) (hk : S 17 m = nI k) (hk12 : k ≤ 12) (hk1 : ¬ S 15 m = 0 → 1 ≤ k)
    (h : ∀ S' : MST, (∀ q : Nat, q ≠ 16 → q ≠ 19 → q ≠ 20 → q ≠ 21 → (q < 37 ∨ 42 < q) → q ≠ 46 → S' q = S q) → (∀ f q : Nat, f ≠ F → 38 ≤ q → q ≤ 41 → S' q f = S q f) → S' 37 0 = nI (F + 1) → S' 38 F = nI m → S' 39 F = nI 0 → S' 41 F = nI 0 → (S' 40 F = -1 ∨ (¬ S 15 m = 0 ∧ S' 40 F = nI (12 * m + (k - 1)))) → Post S') : wj_X12_call_r_60 S (nI m) (nI b) Post := by
  unfold wj_X12_call_r_60
  have v16 : vp_in (nI F) 16 := vp_in_nI hF (by omega)
  have v8 : vp_in (nI m) 8 := vp_in_nI hm (by omega)
  rw [h37, nI_clamp (n := F) (by omega)]
  refine ⟨v16, fun S2 e2 => ⟨v16, fun S3 e3 => ⟨v16, fun S4 e4 => ⟨16, sp_cl93_r (S0 := S4) hm (by rw [e4, ms_n _ _ (show 1 ≠ 41 by decide), e3, ms_n _ _ (show 1 ≠ 39 by decide), e2, ms_n _ _ (show 1 ≠ 38 by decide)]; exact hax) hax3 hb hF (fun S5 h5 => ?_) 15 0 (by omega) S4 (fun _ _ => rfl)⟩⟩⟩⟩
  have g5 : ∀ q : Nat, q ≠ 42 → q ≠ 41 → q ≠ 39 → q ≠ 38 → S5 q = S q := fun q a c d e => by rw [h5 q a, e4, ms_n _ _ c, e3, ms_n _ _ d, e2, ms_n _ _ e]
  have g38 : S5 38 = upd (S 38) F (nI m) := by rw [h5 38 (by decide), e4, ms_n _ _ (show 38 ≠ 41 by decide), e3, ms_n _ _ (show 38 ≠ 39 by decide), e2, ms_s]
  have g39 : S5 39 = upd (S 39) F 0 := by rw [h5 39 (by decide), e4, ms_n _ _ (show 39 ≠ 41 by decide), e3, ms_s, e2, ms_n _ _ (show 39 ≠ 38 by decide)]
  have g41 : S5 41 = upd (S 41) F 0 := by rw [h5 41 (by decide), e4, ms_s, e3, ms_n _ _ (show 41 ≠ 39 by decide), e2, ms_n _ _ (show 41 ≠ 38 by decide)]
  have g37 : S5 37 0 = nI F := by rw [g5 37 (by decide) (by decide) (by decide) (by decide)]; exact h37
  have e15 : S5 15 = S 15 := g5 15 (by decide) (by decide) (by decide) (by decide)
  have fin : ∀ (S9 : MST) (x : Int32), S9 40 = upd (S 40) F x → (∀ q : Nat, q ≠ 16 → q ≠ 19 → q ≠ 20 → q ≠ 21 → q ≠ 40 → q ≠ 46 → S9 q = S5 q) → (x = -1 ∨ (¬ S 15 m = 0 ∧ x = nI (12 * m + (k - 1)))) → wj_X12_call_r_199 S9 Post := by
    intro S9 x e40 h9 hx
    unfold wj_X12_call_r_199
    rw [h9 37 (by decide) (by decide) (by decide) (by decide) (by decide) (by decide), g37, nI_1]
    intro S1 e1
    have f1 : ∀ q : Nat, q ≠ 37 → S1 q = S9 q := fun q a => by rw [e1, ms_n _ _ a]
    have f38 : S1 38 = upd (S 38) F (nI m) := by rw [f1 38 (by decide), h9 38 (by decide) (by decide) (by decide) (by decide) (by decide) (by decide), g38]
    have f39 : S1 39 = upd (S 39) F 0 := by rw [f1 39 (by decide), h9 39 (by decide) (by decide) (by decide) (by decide) (by decide) (by decide), g39]
    have f41 : S1 41 = upd (S 41) F 0 := by rw [f1 41 (by decide), h9 41 (by decide) (by decide) (by decide) (by decide) (by decide) (by decide), g41]
    have f40 : S1 40 = upd (S 40) F x := by rw [f1 40 (by decide), e40]
    refine h S1 (fun q a c d e f g => ?_) (fun f q hf a c => ?_) (by rw [e1, ms_s]) (by rw [f38, upd_s]) (by rw [f39, upd_s]; rfl) (by rw [f41, upd_s]; rfl) ?_
    · rw [f1 q (by omega), h9 q a c d e (by omega) g, g5 q (by omega) (by omega) (by omega) (by omega)]
    · rcases (show q = 38 ∨ q = 39 ∨ q = 40 ∨ q = 41 by omega) with w | w | w | w
      · rw [w, f38, upd_n _ _ hf]
      · rw [w, f39, upd_n _ _ hf]
      · rw [w, f40, upd_n _ _ hf]
      · rw [w, f41, upd_n _ _ hf]
    · rw [f40, upd_s]; exact hx
  rw [nI_clamp (n := m) (by omega), nI_clamp (n := F) (by omega)]
  refine ⟨v8, fun _ => ⟨v16, fun S7 e7 => ?_⟩, fun hc => ?_⟩
  · have e1 : S7 1 m = nI ax := by rw [e7, ms_n _ _ (show 1 ≠ 40 by decide), g5 1 (by decide) (by decide) (by decide) (by decide)]; exact hax
    refine sp_remember_r hm e1 hax3 hb (fun S8 h8 => fin S8 (-1) ?_ (fun q a c d e f g => by rw [h8 q a d e, e7, ms_n _ _ f]) (Or.inl rfl))
    rw [h8 40 (by decide) (by decide) (by decide), e7, ms_s, g5 40 (by decide) (by decide) (by decide) (by decide)]
  · rw [e15] at hc
    have k1 := hk1 hc
    refine sp_codeNow hm (by rw [g5 17 (by decide) (by decide) (by decide) (by decide)]; exact hk) k1 hk12 ⟨v16, fun S10 e10 => ⟨v8, v8, fun S12 e12 S13 e13 => fin S13 (nI (12 * m + (k - 1))) ?_ (fun q a c d e f g => by rw [e13, ms_n _ _ g, e12, ms_n _ _ c, e10, ms_n _ _ f]) (Or.inr ⟨hc, rfl⟩)⟩⟩
    rw [e13, ms_n _ _ (show 40 ≠ 46 by decide), e12, ms_n _ _ (show 40 ≠ 19 by decide), e10, ms_s, g5 40 (by decide) (by decide) (by decide) (by decide)]
/-! remembering what a call was given -/
theorem sp_rm_f {S0 : MST} {m ax b : Nat} {K : MST → Int32 → Prop} {Post : MST → Prop} (hm : m < 8) (hax : S0 1 m = nI ax) (hax3 : ax ≤ 3) (hb : b + ax ≤ 3) (h : ∀ S : MST, (∀ q : Nat, q ≠ 20 → q ≠ 21 → S q = S0 q) → K S (nI m)) :
    ∀ (k j : Nat), j + k = 11 → ∀ S : MST, (∀ q : Nat, q ≠ 20 → q ≠ 21 → S q = S0 q) → wl_X12_remember_f_3 K Post (k + 1) S (nI m) (nI b) (nI j) := by
  intro k
  induction k with
  | zero =>
    intro j hj S hS
    unfold wl_X12_remember_f_3
    obtain rfl : j = 11 := by omega
    exact ⟨fun _ => h S hS, fun q => absurd (show (11 : Int32) ≤ nI 11 by decide) q⟩
  | succ k ih =>
    intro j hj S hS
    unfold wl_X12_remember_f_3
    have haxS : S 1 m = nI ax := by rw [hS 1 (by decide) (by decide)]; exact hax
    rw [ix11, nI_1, nI_clamp (n := m) (by omega), haxS]
    have v8 : vp_in (nI m) 8 := vp_in_nI (by omega) (by omega)
    have v88 : vp_in (nI (11 * m + j)) 88 := vp_in_nI (by omega) (by omega)
    have w21 : ∀ (Sx : MST) (g : Nat → Int32), (∀ q : Nat, q ≠ 20 → q ≠ 21 → Sx q = S0 q) → ∀ S5 : MST, S5 = ms Sx 21 g → wl_X12_remember_f_3 K Post (k + 1) S5 (nI m) (nI b) (nI (j + 1)) := fun Sx g hx S5 e5 => ih (j + 1) (by omega) S5 (fun q a c => by rw [e5, ms_n _ _ c]; exact hx q a c)
    have h16 : ∀ (g1 g2 : Nat → Int32) (S15 : MST), S15 = ms S 20 g1 → ∀ S16 : MST, S16 = ms S15 21 g2 → ∀ q : Nat, q ≠ 20 → q ≠ 21 → S16 q = S0 q := fun g1 g2 S15 e15 S16 e16 q a c => by rw [e16, ms_n _ _ c, e15, ms_n _ _ a]; exact hS q a c
    refine ⟨fun q => absurd ((nI_leI (a := 11) (b := j) (by omega) (by omega)).mp q) (by omega), fun _ => ⟨fun g3 => ?_, fun _ => ⟨v8, fun _ => ?_, fun lt => ?_⟩⟩⟩
    · have g3' : 3 ≤ j := (nI_leI (a := 3) (b := j) (by omega) (by omega)).mp g3
      rw [show nI j - 3 = nI (j - 3) from nI_sub (b := 3) g3']
      exact ⟨vp_in_nI (by omega) (by omega), v8, fun _ => ⟨v88, fun _ => ⟨v88, w21 S _ hS⟩, fun _ => ⟨v88, fun _ => ⟨v88, w21 S _ hS⟩, fun _ => ⟨v88, w21 S _ hS⟩⟩⟩, fun _ => ⟨v88, fun S15 e15 => ⟨v88, fun S16 e16 => ⟨v88, fun _ => ⟨v88, w21 S16 _ (h16 _ _ S15 e15 S16 e16)⟩, fun _ => ⟨v88, fun _ => ⟨v88, w21 S16 _ (h16 _ _ S15 e15 S16 e16)⟩, fun _ => ⟨v88, w21 S16 _ (h16 _ _ S15 e15 S16 e16)⟩⟩⟩⟩⟩⟩
    · exact ⟨v8, fun _ => ⟨v88, fun _ => ⟨v88, w21 S _ hS⟩, fun _ => ⟨v88, fun _ => ⟨v88, w21 S _ hS⟩, fun _ => ⟨v88, w21 S _ hS⟩⟩⟩, fun _ => ⟨v88, fun S15 e15 => ⟨v88, fun S16 e16 => ⟨v88, fun _ => ⟨v88, w21 S16 _ (h16 _ _ S15 e15 S16 e16)⟩, fun _ => ⟨v88, fun _ => ⟨v88, w21 S16 _ (h16 _ _ S15 e15 S16 e16)⟩, fun _ => ⟨v88, w21 S16 _ (h16 _ _ S15 e15 S16 e16)⟩⟩⟩⟩⟩⟩
    · have lt' : j < ax := by
        rcases Nat.lt_or_ge j ax with q | q
        · exact q
        · exact absurd (nI_le q (by omega)) lt
      rw [nI_add b j]
      exact ⟨vp_in_nI (by omega) (by omega), v8, fun _ => ⟨v88, fun _ => ⟨v88, w21 S _ hS⟩, fun _ => ⟨v88, fun _ => ⟨v88, w21 S _ hS⟩, fun _ => ⟨v88, w21 S _ hS⟩⟩⟩, fun _ => ⟨v88, fun S15 e15 => ⟨v88, fun S16 e16 => ⟨v88, fun _ => ⟨v88, w21 S16 _ (h16 _ _ S15 e15 S16 e16)⟩, fun _ => ⟨v88, fun _ => ⟨v88, w21 S16 _ (h16 _ _ S15 e15 S16 e16)⟩, fun _ => ⟨v88, w21 S16 _ (h16 _ _ S15 e15 S16 e16)⟩⟩⟩⟩⟩⟩
theorem sp_remember_f {S : MST} {m ax b : Nat} {Post : MST → Prop} (hm : m < 8) (hax : S 1 m = nI ax) (hax3 : ax ≤ 3) (hb : b + ax ≤ 3) (h : ∀ S' : MST, (∀ q : Nat, q ≠ 16 → q ≠ 20 → q ≠ 21 → S' q = S q) → Post S') : wp_X12_remember_f S (nI m) (nI b) Post := by
  unfold wp_X12_remember_f
  have v8 : vp_in (nI m) 8 := vp_in_nI (by omega) (by omega)
  exact ⟨12, sp_rm_f hm hax hax3 hb (fun S1 h1 => ⟨v8, v8, fun S2 e2 => h S2 (fun q a c d => by rw [e2, ms_n _ _ a]; exact h1 q c d)⟩) 11 0 (by omega) S (fun _ _ _ => rfl)⟩
theorem sp_cl93_f {S0 : MST} {m ax b F : Nat} {K : MST → Int32 → Int32 → Int32 → Prop} {Post : MST → Prop} (hm : m < 8) (hax : S0 1 m = nI ax) (hax3 : ax ≤ 3) (hb : b + ax ≤ 3) (hF : F < 16) (h : ∀ S : MST, (∀ q : Nat, q ≠ 42 → S q = S0 q) → K S (nI m) (nI b) (nI F)) :
    ∀ (k j : Nat), j + k = 15 → ∀ S : MST, (∀ q : Nat, q ≠ 42 → S q = S0 q) → wl_X12_call_f_93 K Post (k + 1) S (nI m) (nI b) (nI F) (nI j) := by
  intro k
  induction k with
  | zero =>
    intro j hj S hS
    unfold wl_X12_call_f_93
    obtain rfl : j = 15 := by omega
    exact ⟨fun _ => h S hS, fun q => absurd (show (15 : Int32) ≤ nI 15 by decide) q⟩
  | succ k ih =>
    intro j hj S hS
    unfold wl_X12_call_f_93
    have haxS : S 1 m = nI ax := by rw [hS 1 (by decide)]; exact hax
    rw [ix15, nI_1, nI_clamp (n := m) (by omega), haxS]
    have v8 : vp_in (nI m) 8 := vp_in_nI (by omega) (by omega)
    have v240 : vp_in (nI (15 * F + j)) 240 := vp_in_nI (by omega) (by omega)
    have w42 : ∀ (g : Nat → Int32) (S5 : MST), S5 = ms S 42 g → wl_X12_call_f_93 K Post (k + 1) S5 (nI m) (nI b) (nI F) (nI (j + 1)) := fun g S5 e5 => ih (j + 1) (by omega) S5 (fun q a => by rw [e5, ms_n _ _ a]; exact hS q a)
    refine ⟨fun q => absurd ((nI_leI (a := 15) (b := j) (by omega) (by omega)).mp q) (by omega), fun _ => ⟨v8, fun _ => ⟨v240, fun S5 e5 => w42 _ S5 e5⟩, fun lt => ?_⟩⟩
    have lt' : j < ax := by
      rcases Nat.lt_or_ge j ax with q | q
      · exact q
      · exact absurd (nI_le q (by omega)) lt
    rw [nI_add b j]
    exact ⟨vp_in_nI (by omega) (by omega), v240, fun S5 e5 => w42 _ S5 e5⟩
theorem sp_call60_f {S : MST} {m ax b F k : Nat} {Post : MST → Prop} (hm : m < 8) (hax : S 1 m = nI ax) (hax3 : ax ≤ 3) (hb : b + ax ≤ 3) (hF : F < 16) (h37 : S 37 0 = nI F) (hk : S 17 m = nI k) (hk12 : k ≤ 12) (hk1 : ¬ S 15 m = 0 → 1 ≤ k)
    (h : ∀ S' : MST, (∀ q : Nat, q ≠ 16 → q ≠ 19 → q ≠ 20 → q ≠ 21 → (q < 37 ∨ 42 < q) → q ≠ 46 → S' q = S q) → (∀ f q : Nat, f ≠ F → 38 ≤ q → q ≤ 41 → S' q f = S q f) → S' 37 0 = nI (F + 1) → S' 38 F = nI m → S' 39 F = nI 0 → S' 41 F = nI 0 → (S' 40 F = -1 ∨ (¬ S 15 m = 0 ∧ S' 40 F = nI (12 * m + (k - 1)))) → Post S') : wj_X12_call_f_60 S (nI m) (nI b) Post := by
  unfold wj_X12_call_f_60
  have v16 : vp_in (nI F) 16 := vp_in_nI hF (by omega)
  have v8 : vp_in (nI m) 8 := vp_in_nI hm (by omega)
  rw [h37, nI_clamp (n := F) (by omega)]
  refine ⟨v16, fun S2 e2 => ⟨v16, fun S3 e3 => ⟨v16, fun S4 e4 => ⟨16, sp_cl93_f (S0 := S4) hm (by rw [e4, ms_n _ _ (show 1 ≠ 41 by decide), e3, ms_n _ _ (show 1 ≠ 39 by decide), e2, ms_n _ _ (show 1 ≠ 38 by decide)]; exact hax) hax3 hb hF (fun S5 h5 => ?_) 15 0 (by omega) S4 (fun _ _ => rfl)⟩⟩⟩⟩
  have g5 : ∀ q : Nat, q ≠ 42 → q ≠ 41 → q ≠ 39 → q ≠ 38 → S5 q = S q := fun q a c d e => by rw [h5 q a, e4, ms_n _ _ c, e3, ms_n _ _ d, e2, ms_n _ _ e]
  have g38 : S5 38 = upd (S 38) F (nI m) := by rw [h5 38 (by decide), e4, ms_n _ _ (show 38 ≠ 41 by decide), e3, ms_n _ _ (show 38 ≠ 39 by decide), e2, ms_s]
  have g39 : S5 39 = upd (S 39) F 0 := by rw [h5 39 (by decide), e4, ms_n _ _ (show 39 ≠ 41 by decide), e3, ms_s, e2, ms_n _ _ (show 39 ≠ 38 by decide)]
  have g41 : S5 41 = upd (S 41) F 0 := by rw [h5 41 (by decide), e4, ms_s, e3, ms_n _ _ (show 41 ≠ 39 by decide), e2, ms_n _ _ (show 41 ≠ 38 by decide)]
  have g37 : S5 37 0 = nI F := by rw [g5 37 (by decide) (by decide) (by decide) (by decide)]; exact h37
  have e15 : S5 15 = S 15 := g5 15 (by decide) (by decide) (by decide) (by decide)
  have fin : ∀ (S9 : MST) (x : Int32), S9 40 = upd (S 40) F x → (∀ q : Nat, q ≠ 16 → q ≠ 19 → q ≠ 20 → q ≠ 21 → q ≠ 40 → q ≠ 46 → S9 q = S5 q) → (x = -1 ∨ (¬ S 15 m = 0 ∧ x = nI (12 * m + (k - 1)))) → wj_X12_call_f_199 S9 Post := by
    intro S9 x e40 h9 hx
    unfold wj_X12_call_f_199
    rw [h9 37 (by decide) (by decide) (by decide) (by decide) (by decide) (by decide), g37, nI_1]
    intro S1 e1
    have f1 : ∀ q : Nat, q ≠ 37 → S1 q = S9 q := fun q a => by rw [e1, ms_n _ _ a]
    have f38 : S1 38 = upd (S 38) F (nI m) := by rw [f1 38 (by decide), h9 38 (by decide) (by decide) (by decide) (by decide) (by decide) (by decide), g38]
    have f39 : S1 39 = upd (S 39) F 0 := by rw [f1 39 (by decide), h9 39 (by decide) (by decide) (by decide) (by decide) (by decide) (by decide), g39]
    have f41 : S1 41 = upd (S 41) F 0 := by rw [f1 41 (by decide), h9 41 (by decide) (by decide) (by decide) (by decide) (by decide) (by decide), g41]
    have f40 : S1 40 = upd (S 40) F x := by rw [f1 40 (by decide), e40]
    refine h S1 (fun q a c d e f g => ?_) (fun f q hf a c => ?_) (by rw [e1, ms_s]) (by rw [f38, upd_s]) (by rw [f39, upd_s]; rfl) (by rw [f41, upd_s]; rfl) ?_
    · rw [f1 q (by omega), h9 q a c d e (by omega) g, g5 q (by omega) (by omega) (by omega) (by omega)]
    · rcases (show q = 38 ∨ q = 39 ∨ q = 40 ∨ q = 41 by omega) with w | w | w | w
      · rw [w, f38, upd_n _ _ hf]
      · rw [w, f39, upd_n _ _ hf]
      · rw [w, f40, upd_n _ _ hf]
      · rw [w, f41, upd_n _ _ hf]
    · rw [f40, upd_s]; exact hx
  rw [nI_clamp (n := m) (by omega), nI_clamp (n := F) (by omega)]
  refine ⟨v8, fun _ => ⟨v16, fun S7 e7 => ?_⟩, fun hc => ?_⟩
  · have e1 : S7 1 m = nI ax := by rw [e7, ms_n _ _ (show 1 ≠ 40 by decide), g5 1 (by decide) (by decide) (by decide) (by decide)]; exact hax
    refine sp_remember_f hm e1 hax3 hb (fun S8 h8 => fin S8 (-1) ?_ (fun q a c d e f g => by rw [h8 q a d e, e7, ms_n _ _ f]) (Or.inl rfl))
    rw [h8 40 (by decide) (by decide) (by decide), e7, ms_s, g5 40 (by decide) (by decide) (by decide) (by decide)]
  · rw [e15] at hc
    have k1 := hk1 hc
    refine sp_codeNow hm (by rw [g5 17 (by decide) (by decide) (by decide) (by decide)]; exact hk) k1 hk12 ⟨v16, fun S10 e10 => ⟨v8, v8, fun S12 e12 S13 e13 => fin S13 (nI (12 * m + (k - 1))) ?_ (fun q a c d e f g => by rw [e13, ms_n _ _ g, e12, ms_n _ _ c, e10, ms_n _ _ f]) (Or.inr ⟨hc, rfl⟩)⟩⟩
    rw [e13, ms_n _ _ (show 40 ≠ 46 by decide), e12, ms_n _ _ (show 40 ≠ 19 by decide), e10, ms_s, g5 40 (by decide) (by decide) (by decide) (by decide)]
