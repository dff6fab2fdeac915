/-! the loop of look(), in the reference -/
def sN (f : Nat → Nat) : Nat → Nat
  | 0 => 0
  | n + 1 => sN f n + f n
theorem sN_le {f g : Nat → Nat} : ∀ (n : Nat), (∀ i : Nat, i < n → f i ≤ g i) → sN f n ≤ sN g n
  | 0, _ => Nat.le_refl _
  | n + 1, h => Nat.add_le_add (sN_le n fun i hi => h i (by omega)) (h n (by omega))
theorem sN_lt {f g : Nat → Nat} : ∀ (n : Nat), (∀ i : Nat, i < n → f i ≤ g i) → ∀ k : Nat, k < n → f k < g k → sN f n < sN g n
  | 0, _, k, hk, _ => absurd hk (by omega)
  | n + 1, h, k, hk, hlt => by
    rcases Nat.lt_or_ge k n with q | q
    · have := sN_lt n (fun i hi => h i (by omega)) k q hlt
      have := h n (by omega)
      simp only [sN]; omega
    · obtain rfl : k = n := by omega
      have := sN_le k (fun i hi => h i (by omega))
      simp only [sN]; omega
theorem sN_const {f : Nat → Nat} {c : Nat} : ∀ (n : Nat), (∀ i : Nat, i < n → f i ≤ c) → sN f n ≤ n * c
  | 0, _ => by simp [sN]
  | n + 1, h => by
    have := sN_const n (fun i hi => h i (by omega))
    have := h n (by omega)
    simp only [sN, Nat.succ_mul]; omega
/-- all places of METHOD m below j are NONE, none of them waits; all else as it was -/
def ClS (m j : Nat) (S0 S : MST) : Prop := (∀ k : Nat, k ≠ 7 → k ≠ 10 → S k = S0 k) ∧ (∀ t : Nat, t < 60 * m ∨ 60 * m + 60 ≤ t → S 7 t = S0 7 t) ∧ (∀ i : Nat, i < j → S 7 (60 * m + i) = -1 ∧ S 10 i = 0)
theorem sp_clear {S0 : MST} {m : Nat} {K : MST → Int32 → Prop} {Post : MST → Int32 → Prop} (hm : m < 8) (h : ∀ S : MST, ClS m 60 S0 S → K S (nI m)) : ∀ (k j : Nat), j + k = 60 → ∀ S : MST, ClS m j S0 S → wl_X12_look_30 K Post (k + 1) S (nI m) (nI j) := by
  intro k
  induction k with
  | zero =>
    intro j hj S hS
    unfold wl_X12_look_30
    obtain rfl : j = 60 := by omega
    exact ⟨fun _ => h S hS, fun c => absurd (show (60 : Int32) ≤ nI 60 by decide) c⟩
  | succ k ih =>
    intro j hj S hS
    unfold wl_X12_look_30
    refine ⟨fun c => absurd ((nI_leI (a := 60) (b := j) (by omega) (by omega)).mp c) (by omega), fun _ => ⟨vp_in_nI (by omega) (by omega), fun S1 e1 => ?_⟩⟩
    rw [ix60]
    refine ⟨vp_in_nI (by omega) (by omega), fun S2 e2 => ?_⟩
    rw [nI_1]
    rw [nI_clamp (n := j) (by omega), vn_0] at e1
    rw [nI_clamp (n := 60 * m + j) (by omega)] at e2
    refine ih (j + 1) (by omega) S2 ⟨fun q a b => ?_, fun t ht => ?_, fun i hi => ?_⟩
    · rw [e2, ms_n _ _ a, e1, ms_n _ _ b]; exact hS.1 q a b
    · rw [e2, ms_s, upd_n _ _ (show t ≠ 60 * m + j by omega), e1, ms_n _ _ (show 7 ≠ 10 by decide)]; exact hS.2.1 t ht
    · rw [e2, ms_s, ms_n _ _ (show 10 ≠ 7 by decide), e1, ms_s, ms_n _ _ (show 7 ≠ 10 by decide)]
      by_cases q : i = j
      · subst q; rw [upd_s, upd_s]; exact ⟨rfl, rfl⟩
      · rw [upd_n _ _ (show 60 * m + i ≠ 60 * m + j by omega), upd_n _ _ q]; exact hS.2.2 i (by omega)
/-- what holds at the head of the loop over the places that wait; 'but' is the place that is gone through now (n: none) -/
def LoI (S0 : MST) (M m l n but : Nat) (S : MST) : Prop := (∀ k : Nat, k ≠ 7 → k ≠ 10 → k ≠ 9 → S k = S0 k) ∧ (∀ t : Nat, t < 60 * m ∨ 60 * m + 60 ≤ t → S 7 t = S0 7 t) ∧ S 7 (60 * m) = nI 0 ∧
  (∀ i : Nat, i < n → S 7 (60 * m + i) = -1 ∨ ∃ d : Nat, d ≤ 8 ∧ S 7 (60 * m + i) = nI d ∧ (S 10 i = 0 → i ≠ but → rightI S M m l n i d)) ∧ (∀ i : Nat, i < n → S 10 i = 0 ∨ S 10 i = 1) ∧ (∀ i : Nat, i < n → S 7 (60 * m + i) = -1 → S 10 i = 0)
theorem rightI_ext {S S' : MST} {M m l n i d m2 : Nat} (hE : ExtL m2 n S S') (h : rightI S M m l n i d) : rightI S' M m l n i d := by
  obtain ⟨o, ax, ho, h4, hk, hax, ht, h8, hj, hn⟩ := h
  have h1 := hE.1 1 (by decide) (by decide)
  have e4 := hE.1 4 (by decide) (by decide)
  have e5 := hE.1 5 (by decide) (by decide)
  refine ⟨o, ax, ho, by rw [e4]; exact h4, by rw [e5]; exact hk, by rw [e5, h1]; exact hax, ht, h8, fun q => ?_, fun a b => ?_⟩
  · obtain ⟨y, hy, e, e7⟩ := hj q
    exact ⟨y, hy, by rw [e5]; exact e, by rw [hE.2.1 _ (by rw [e7]; exact nI_neg1 (by omega))]; exact e7⟩
  · obtain ⟨g1, g2⟩ := hn a b
    exact ⟨g1, by rw [hE.2.1 _ (by rw [g2]; exact nI_neg1 (by omega))]; exact g2⟩
/-- how much is left to do: 2 for a place not come to, 1 for one that waits -/
def muL (m : Nat) (S : MST) (i : Nat) : Nat := if S 7 (60 * m + i) = -1 then 2 else if S 10 i = 0 then 0 else 1
theorem muL_ext {m n : Nat} {S S' : MST} (hE : ExtL m n S S') (i : Nat) : muL m S' i ≤ muL m S i := by
  unfold muL
  by_cases h : S 7 (60 * m + i) = -1
  · rw [if_pos h]
    split
    · omega
    · split <;> omega
  · rw [if_neg h, hE.2.1 _ h, if_neg h]
    rcases hE.2.2.2 i with q | ⟨_, q, _⟩
    · rw [q]; exact Nat.le_refl _
    · exact absurd q h
theorem LoI_step {S0 S S12 S15 : MST} {M m l n i d : Nat} (hn60 : n ≤ 60) (h : LoI S0 M m l n n S) (hi : i < n) (e12 : S12 = ms S 10 (upd (S 10) i 0)) (hE : ExtL m n S12 S15) (hd : S 7 (60 * m + i) = nI d) (hd8 : d ≤ 8) (hr : rightI S15 M m l n i d) (r : Int32) : LoI S0 M m l n n (ms S15 9 (fun _ => r)) := by
  obtain ⟨h1, h2, h3, h4, h5, h6⟩ := h
  have e7 : S12 7 = S 7 := by rw [e12, ms_n _ _ (show 7 ≠ 10 by decide)]
  have e10 : S12 10 = upd (S 10) i 0 := by rw [e12, ms_s]
  have f7 : ms S15 9 (fun _ => r) 7 = S15 7 := ms_n _ _ (by decide)
  have f10 : ms S15 9 (fun _ => r) 10 = S15 10 := ms_n _ _ (by decide)
  have hsame : ∀ {i2 d2 : Nat}, rightI S15 M m l n i2 d2 → rightI (ms S15 9 (fun _ => r)) M m l n i2 d2 := by
    intro i2 d2 hq
    unfold rightI at hq ⊢
    rw [ms_n _ _ (show 4 ≠ 9 by decide), ms_n _ _ (show 5 ≠ 9 by decide), ms_n _ _ (show 1 ≠ 9 by decide), f7]
    exact hq
  refine ⟨fun k a b c => ?_, fun t ht => ?_, ?_, fun i2 hi2 => ?_, fun i2 hi2 => ?_, fun i2 hi2 hz => ?_⟩
  · rw [ms_n _ _ c, hE.1 k a b, e12, ms_n _ _ b]; exact h1 k a b c
  · rw [f7]
    rcases hE.2.2.1 t with q | ⟨i3, hi3, q, _⟩
    · rw [q, e7]; exact h2 t ht
    · exact absurd q (by omega)
  · rw [f7, hE.2.1 _ (by rw [e7, h3]; exact nI_neg1 (by omega)), e7]; exact h3
  · rw [f7, f10]
    rcases h4 i2 hi2 with q | ⟨d2, hd2, q, hq⟩
    · rcases hE.2.2.1 (60 * m + i2) with g | ⟨i3, hi3, g1, g2, g3, d3, hd3, g4⟩
      · exact Or.inl (by rw [g, e7]; exact q)
      · obtain rfl : i3 = i2 := by omega
        exact Or.inr ⟨d3, hd3, g4, fun w => absurd (g3.symm.trans w) (by decide)⟩
    · have hne : ¬ S12 7 (60 * m + i2) = -1 := by rw [e7, q]; exact nI_neg1 (by omega)
      refine Or.inr ⟨d2, hd2, by rw [hE.2.1 _ hne, e7]; exact q, fun w _ => hsame ?_⟩
      by_cases hii : i2 = i
      · subst hii
        obtain rfl : d2 = d := nI_inj (q.symm.trans hd) (by omega) (by omega)
        exact hr
      · rcases hE.2.2.2 i2 with g | ⟨_, g, _⟩
        · have hz : S 10 i2 = 0 := by rw [g, e10, upd_n _ _ hii] at w; exact w
          refine rightI_ext hE ?_
          have hq2 := hq hz (by omega)
          unfold rightI at hq2 ⊢
          rw [e7, show S12 4 = S 4 by rw [e12, ms_n _ _ (show 4 ≠ 10 by decide)], show S12 5 = S 5 by rw [e12, ms_n _ _ (show 5 ≠ 10 by decide)], show S12 1 = S 1 by rw [e12, ms_n _ _ (show 1 ≠ 10 by decide)]]
          exact hq2
        · exact absurd g hne
  · rw [f10]
    rcases hE.2.2.2 i2 with g | ⟨g, _, _⟩
    · rw [g, e10]
      by_cases hii : i2 = i
      · subst hii; rw [upd_s]; exact Or.inl rfl
      · rw [upd_n _ _ hii]; exact h5 i2 hi2
    · exact Or.inr g
  · rw [f7] at hz
    rw [f10]
    have hz2 : S 7 (60 * m + i2) = -1 := by
      by_cases w : S12 7 (60 * m + i2) = -1
      · rw [e7] at w; exact w
      · rw [hE.2.1 _ w] at hz; exact absurd hz w
    rcases hE.2.2.2 i2 with g | ⟨_, _, g⟩
    · rw [g, e10]
      by_cases hii : i2 = i
      · subst hii; rw [upd_s]
      · rw [upd_n _ _ hii]; exact h6 i2 hi2 hz2
    · exact absurd hz g
theorem sp_look91 {S0 : MST} {M m l n : Nat} {K1 : MST → Int32 → Int32 → Prop} {K2 : MST → Int32 → Prop} {Post : MST → Int32 → Prop} (hM : S0 0 0 = nI M) (hM8 : M ≤ 8) (hm : m < M) (hT : toldM S0 M) (hl : S0 2 m = nI l) (hl6 : l ≤ 6) (hn : S0 3 m = nI n) (hn60 : n ≤ 60)
    (hdone : ∀ (S : MST) (most : Int32), LoI S0 M m l n n S → (∀ i : Nat, i < n → S 10 i = 0) → K1 S (nI m) most)
    (hfault : ∀ (S : MST) (i : Nat), (∀ k : Nat, k ≠ 7 → k ≠ 10 → k ≠ 9 → S k = S0 k) → (∀ t : Nat, t < 60 * m ∨ 60 * m + 60 ≤ t → S 7 t = S0 7 t) → i < n → K2 S (nI i)) :
    ∀ (k : Nat) (S : MST) (most : Int32) (i : Nat), LoI S0 M m l n n S → i < n → ¬ S 10 i = 0 → sN (muL m S) n ≤ k → wl_X12_look_91 K1 K2 Post (k + 2) S (nI m) most (nI i) := by
  intro k
  induction k with
  | zero =>
    intro S most i hL hi hw hk
    have h1 : muL m S i = 1 := by
      unfold muL
      rw [if_neg (fun q => hw (hL.2.2.2.2.2 i hi q)), if_neg hw]
    have := sN_lt (f := fun j => if j = i then 0 else muL m S j) (g := muL m S) n (fun j _ => by
      show (if j = i then 0 else muL m S j) ≤ muL m S j
      split <;> omega) i hi (by
      show (if i = i then 0 else muL m S i) < muL m S i
      rw [if_pos rfl, h1]; omega)
    omega
  | succ k ih =>
    intro S most i hL hi hw hk
    have hlive : ¬ S 7 (60 * m + i) = -1 := fun q => hw (hL.2.2.2.2.2 i hi q)
    obtain ⟨d, hd8, hd, -⟩ := (hL.2.2.2.1 i hi).resolve_left hlive
    have hsum : ∀ S12 : MST, S12 = ms S 10 (upd (S 10) i 0) → sN (muL m S12) n < sN (muL m S) n := by
      intro S12 e12
      have e7 : S12 7 = S 7 := by rw [e12, ms_n _ _ (show 7 ≠ 10 by decide)]
      have e10 : S12 10 = upd (S 10) i 0 := by rw [e12, ms_s]
      refine sN_lt n (fun j _ => ?_) i hi ?_
      · unfold muL
        rw [e7, e10]
        by_cases q : j = i
        · subst q; rw [upd_s, if_neg hlive, if_neg hlive, if_pos rfl]; exact Nat.zero_le _
        · rw [upd_n _ _ q]; exact Nat.le_refl _
      · unfold muL
        rw [e7, e10, upd_s, if_neg hlive, if_neg hlive, if_pos rfl, if_neg hw]; omega
    have hc : (nI i).toNatClampNeg = i := nI_clamp (by omega)
    have hc60 : (nI (60 * m + i)).toNatClampNeg = 60 * m + i := nI_clamp (by omega)
    -- what comes behind looksAt, whatever 'most' is
    have after : ∀ (S12 : MST), S12 = ms S 10 (upd (S 10) i 0) → ∀ mo : Int32, wp_X12_looksAt S12 (nI m) (nI i) (fun S15 r15 => ∀ S16 : MST, S16 = ms S15 9 (fun _ => r15) → (((S16 9 0 : Int32) = 0) → (wp_X12_nextWaiting S16 (nI m) (fun r18 => wl_X12_look_91 K1 K2 Post (k + 2) S16 (nI m) mo r18))) ∧ ((¬ ((S16 9 0 : Int32) = 0)) → K2 S16 (nI i))) := by
      intro S12 e12 mo
      have g : ∀ j : Nat, j ≠ 10 → S12 j = S j := fun j hj => by rw [e12, ms_n _ _ hj]
      have g0 : ∀ j : Nat, j ≠ 7 → j ≠ 10 → j ≠ 9 → S12 j = S0 j := fun j a b c => (g j b).trans (hL.1 j a b c)
      have hT12 : toldM S12 M := by
        unfold toldM
        rw [g0 1 (by decide) (by decide) (by decide), g0 2 (by decide) (by decide) (by decide), g0 3 (by decide) (by decide) (by decide), g0 4 (by decide) (by decide) (by decide)]
        exact hT
      refine sp_looksAt (M := M) (l := l) (n := n) (d := d) (by rw [g0 0 (by decide) (by decide) (by decide)]; exact hM) hM8 hm hT12 (by rw [g0 2 (by decide) (by decide) (by decide)]; exact hl) hl6 (by rw [g0 3 (by decide) (by decide) (by decide)]; exact hn) hn60 hi (by rw [g 7 (by decide)]; exact hd) hd8 (fun S15 hE hr S16 e16 => ?_) (fun S15 r hE hr1 hr6 S16 e16 => ?_)
      · have hL16 : LoI S0 M m l n n S16 := by rw [e16]; exact LoI_step hn60 hL hi e12 hE hd hd8 hr 0
        have hs16 : sN (muL m S16) n ≤ k := by
          have h1 := hsum S12 e12
          have h2 : sN (muL m S16) n ≤ sN (muL m S12) n := sN_le n fun j _ => by
            have h3 := muL_ext hE j
            unfold muL at h3 ⊢
            rw [e16, ms_n _ _ (show 7 ≠ 9 by decide), ms_n _ _ (show 10 ≠ 9 by decide)]
            exact h3
          omega
        refine ⟨fun _ => ?_, fun q => absurd (by rw [e16, ms_s]) q⟩
        refine sp_nextWaiting (n := n) (by omega) (by rw [hL16.1 3 (by decide) (by decide) (by decide)]; exact hn) hn60 (fun hz => ?_) (fun j hj hjw => ih S16 mo j hL16 hj hjw hs16)
        unfold wl_X12_look_91
        exact ⟨fun _ => hdone S16 mo hL16 hz, fun q => absurd (show (-1 : Int32) < 0 by decide) q⟩
      · refine ⟨fun q => ?_, fun _ => hfault S16 i (fun j a b c => ?_) (fun t ht => ?_) hi⟩
        · rw [e16, ms_s] at q
          exact absurd (nI_inj (b := 0) q (by omega) (by omega)) (by omega)
        · rw [e16, ms_n _ _ c, hE.1 j a b]; exact g0 j a b c
        · rw [e16, ms_n _ _ (show 7 ≠ 9 by decide)]
          rcases hE.2.2.1 t with q | ⟨i3, hi3, q, _⟩
          · rw [q, g 7 (by decide)]; exact hL.2.1 t ht
          · exact absurd q (by omega)
    unfold wl_X12_look_91
    rw [ix60, hc, hc60, vn_0]
    refine ⟨fun q => absurd q (nI_pos (by omega)), fun _ => ⟨vp_in_nI (by omega) (by omega), fun S12 e12 => ⟨vp_in_nI (by omega) (by omega), fun _ => after S12 e12 most, fun _ => ⟨vp_in_nI (by omega) (by omega), after S12 e12 _⟩⟩⟩⟩
/-- a METHOD that was looked over rightly -/
def lookedM (S : MST) (M y : Nat) : Prop := ∃ (l n : Nat), S 2 y = nI l ∧ l ≤ 6 ∧ S 3 y = nI n ∧ 1 ≤ n ∧ n ≤ 60 ∧ S 7 (60 * y) = nI 0 ∧ ∀ i : Nat, i < n → S 7 (60 * y + i) = -1 ∨ ∃ d : Nat, d ≤ 8 ∧ S 7 (60 * y + i) = nI d ∧ rightI S M y l n i d
/-- the programs: M METHODS, each told well; a looked one looked over rightly -/
def PI (S : MST) (M : Nat) : Prop := S 0 0 = nI M ∧ M ≤ 8 ∧ toldM S M ∧ (∀ y : Nat, y < M → S 6 y = 0 ∨ (S 6 y = 1 ∧ lookedM S M y)) ∧ (∀ y : Nat, M ≤ y → y < 8 → S 3 y = 0 ∧ S 6 y = 0)
/-- what look() of METHOD m leaves -/
def LookR (S : MST) (M m : Nat) (S' : MST) : Prop := (∀ k : Nat, k ≠ 6 → k ≠ 7 → k ≠ 8 → k ≠ 9 → k ≠ 10 → S' k = S k) ∧ (∀ t : Nat, t < 60 * m ∨ 60 * m + 60 ≤ t → S' 7 t = S 7 t) ∧ (S' 6 = S 6 ∨ (S' 6 = upd (S 6) m 1 ∧ lookedM S' M m))
theorem sp_look {S : MST} {M : Nat} {a : Int32} {Post : MST → Int32 → Prop} (hP : PI S M) (hb : Post S (-2)) (hs : Post S (-3)) (h : ∀ (m : Nat) (S' : MST) (r : Int32), m < M → a = nI m → S 6 m = 0 → LookR S M m S' → Post S' r) : wp_X12_look S a Post := by
  obtain ⟨hM, hM8, hT, hlk, -⟩ := hP
  unfold wp_X12_look
  refine sp_isMethod hM hM8 (fun _ => ⟨fun q => absurd rfl q, fun _ => hb⟩) (fun m hm ea => ⟨fun _ => ?_, fun q => absurd q (by decide)⟩)
  subst ea
  have hc : (nI m).toNatClampNeg = m := nI_clamp (by omega)
  rw [hc]
  refine ⟨vp_in_nI (by omega) (by omega), fun h6 S5 e5 => ⟨61, ?_⟩, fun _ => hs⟩
  obtain ⟨ax, l, n, hax, hax3, hl, hal, hl6, hn, hn60, hops⟩ := hT m hm
  refine sp_clear (S0 := S5) (by omega) (fun S1 hC => ?_) 60 0 (by omega) S5 ⟨fun _ _ _ => rfl, fun _ _ => rfl, fun i hi => absurd hi (by omega)⟩
  have g1 : ∀ k : Nat, k ≠ 7 → k ≠ 10 → k ≠ 9 → S1 k = S k := fun k x y z => (hC.1 k x y).trans (by rw [e5, ms_n _ _ z])
  have g7 : ∀ t : Nat, t < 60 * m ∨ 60 * m + 60 ≤ t → S1 7 t = S 7 t := fun t ht => (hC.2.1 t ht).trans (by rw [e5, ms_n _ _ (show 7 ≠ 9 by decide)])
  rw [hc]
  have hn1 : S1 3 m = nI n := by rw [g1 3 (by decide) (by decide) (by decide)]; exact hn
  refine ⟨vp_in_nI (by omega) (by omega), fun hne => ?_, fun hz S2 e2 => ?_⟩
  · have hn0 : 0 < n := by
      rcases Nat.eq_zero_or_pos n with q | q
      · subst q; exact absurd hn1 hne
      · exact q
    refine sp_comesTo (i := 0) (d := 0) (by omega) (by omega) (fun q => ?_) (fun q => absurd (hC.2.2 0 (by omega)).1 q) (fun q => absurd (hC.2.2 0 (by omega)).1 q)
    have hE0 : ExtL m n S1 (cmS S1 m 0 (nI 0)) := ExtL.cm hn0 (by omega) q
    have c7 : cmS S1 m 0 (nI 0) 7 = upd (S1 7) (60 * m + 0) (nI 0) := by unfold cmS; rw [ms_n _ _ (show 7 ≠ 10 by decide), ms_s]
    have c10 : cmS S1 m 0 (nI 0) 10 = upd (S1 10) 0 1 := by unfold cmS; rw [ms_s]
    have hT1 : toldM S1 M := by
      unfold toldM
      rw [g1 1 (by decide) (by decide) (by decide), g1 2 (by decide) (by decide) (by decide), g1 3 (by decide) (by decide) (by decide), g1 4 (by decide) (by decide) (by decide)]
      exact hT
    have hL0 : LoI S1 M m l n n (cmS S1 m 0 (nI 0)) := by
      refine ⟨fun k x y z => hE0.1 k x y, fun t ht => ?_, by rw [c7]; exact upd_s _ _ _, fun i hi => ?_, fun i hi => ?_, fun i hi hz => ?_⟩
      · rw [c7, upd_n _ _ (by omega)]
      · rw [c7, c10]
        by_cases w : i = 0
        · subst w
          exact Or.inr ⟨0, by omega, upd_s _ _ _, fun v => absurd (by rw [upd_s] at v; exact v) (show ¬ (1 : Int32) = 0 by decide)⟩
        · rw [upd_n _ _ (by omega)]
          exact Or.inl (hC.2.2 i (by omega)).1
      · rw [c10]
        by_cases w : i = 0
        · subst w; rw [upd_s]; exact Or.inr rfl
        · rw [upd_n _ _ w]; exact Or.inl (hC.2.2 i (by omega)).2
      · rw [c7] at hz
        rw [c10]
        by_cases w : i = 0
        · subst w; rw [upd_s] at hz; exact absurd hz (nI_neg1 (by omega))
        · rw [upd_n _ _ w]; exact (hC.2.2 i (by omega)).2
    refine ⟨sN (muL m (cmS S1 m 0 (nI 0))) n + 2, sp_look91 (S0 := S1) (by rw [g1 0 (by decide) (by decide) (by decide)]; exact hM) hM8 hm hT1 (by rw [g1 2 (by decide) (by decide) (by decide)]; exact hl) hl6 hn1 hn60 (fun S2 most hL hz => ?_) (fun S2 i hk ht hi => ?_) _ _ 0 0 hL0 hn0 (show ¬ cmS S1 m 0 (nI 0) 10 0 = 0 by rw [c10, upd_s]; decide) (Nat.le_refl _)⟩
    · refine ⟨vp_in_nI (by omega) (by omega), fun S3 e3 => ⟨vp_in_nI (by omega) (by omega), fun S4 e4 => ?_⟩⟩
      rw [hc, vn_1] at e3
      have q3 : ∀ k : Nat, k ≠ 6 → k ≠ 8 → S4 k = S2 k := fun k x y => by rw [e4, ms_n _ _ y, e3, ms_n _ _ x]
      refine h m S4 most hm rfl h6 ⟨fun k x6 x7 x8 x9 x10 => ?_, fun t ht => ?_, Or.inr ⟨?_, ?_⟩⟩
      · rw [q3 k x6 x8, hL.1 k x7 x10 x9, g1 k x7 x10 x9]
      · rw [q3 7 (by decide) (by decide), hL.2.1 t ht, g7 t ht]
      · rw [e4, ms_n _ _ (show 6 ≠ 8 by decide), e3, ms_s, hL.1 6 (by decide) (by decide) (by decide), g1 6 (by decide) (by decide) (by decide)]
      · refine ⟨l, n, ?_, hl6, ?_, hn0, hn60, by rw [q3 7 (by decide) (by decide)]; exact hL.2.2.1, fun i hi => ?_⟩
        · rw [q3 2 (by decide) (by decide), hL.1 2 (by decide) (by decide) (by decide), g1 2 (by decide) (by decide) (by decide)]; exact hl
        · rw [q3 3 (by decide) (by decide), hL.1 3 (by decide) (by decide) (by decide)]; exact hn1
        · rw [q3 7 (by decide) (by decide)]
          rcases hL.2.2.2.1 i hi with w | ⟨d, hd, w, hr⟩
          · exact Or.inl w
          · refine Or.inr ⟨d, hd, w, ?_⟩
            have hr := hr (hz i hi) (by omega)
            unfold rightI at hr ⊢
            rw [q3 4 (by decide) (by decide), q3 5 (by decide) (by decide), q3 1 (by decide) (by decide), q3 7 (by decide) (by decide)]
            exact hr
    · refine h m S2 _ hm rfl h6 ⟨fun k x6 x7 x8 x9 x10 => ?_, fun t hq => ?_, Or.inl ?_⟩
      · rw [hk k x7 x10 x9, g1 k x7 x10 x9]
      · rw [ht t hq, g7 t hq]
      · rw [hk 6 (by decide) (by decide) (by decide), g1 6 (by decide) (by decide) (by decide)]
  · refine h m S2 _ hm rfl h6 ⟨fun k x6 x7 x8 x9 x10 => ?_, fun t ht => ?_, Or.inl ?_⟩
    · rw [e2, ms_n _ _ x9]; exact g1 k x7 x10 x9
    · rw [e2, ms_n _ _ (show 7 ≠ 9 by decide)]; exact g7 t ht
    · rw [e2, ms_n _ _ (show 6 ≠ 9 by decide)]; exact g1 6 (by decide) (by decide) (by decide)
