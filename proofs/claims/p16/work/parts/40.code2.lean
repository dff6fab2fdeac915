/-! making a METHOD's code, in the reference -/
theorem sp_has6 {S : MST} {m n : Nat} {o x : Int32} {K : Int32 → Prop} {Post : Int32 → Prop} (hm : m < 8) (hn : S 3 m = nI n) (hn60 : n ≤ 60) (h0 : K 0) (h1 : K 1) : ∀ (k j : Nat), j + k = n → ∀ r : Int32, (r = 0 ∨ r = 1) → wl_X12_has_6 S K Post (k + 1) (nI m) o x r (nI j) := by
  intro k
  induction k with
  | zero =>
    intro j hj r hr
    unfold wl_X12_has_6
    rw [nI_clamp (n := m) (by omega), hn]
    refine ⟨vp_in_nI hm (by omega), fun _ => ?_, fun q => absurd (nI_le (by omega) (by omega)) q⟩
    rcases hr with rfl | rfl
    · exact h0
    · exact h1
  | succ k ih =>
    intro j hj r hr
    unfold wl_X12_has_6
    rw [nI_clamp (n := m) (by omega), hn, ix60, nI_clamp (n := 60 * m + j) (by omega), nI_1]
    have l0 := ih (j + 1) (by omega) 0 (Or.inl rfl)
    have l1 := ih (j + 1) (by omega) 1 (Or.inr rfl)
    have v : vp_in (nI (60 * m + j)) 480 := vp_in_nI (by omega) (by omega)
    exact ⟨vp_in_nI hm (by omega), fun q => absurd q (nI_ge (by omega) (by omega)), fun _ => ⟨fun _ => l1, fun _ => ⟨v, fun _ => l0, fun _ => ⟨v, fun _ => l0, fun _ => ⟨v, fun _ => l0, fun _ => l1⟩⟩⟩⟩⟩
theorem sp_has {S : MST} {m n : Nat} {o x : Int32} {Post : Int32 → Prop} (hm : m < 8) (hn : S 3 m = nI n) (hn60 : n ≤ 60) (h0 : Post 0) (h1 : Post 1) : wp_X12_has S (nI m) o x Post := by
  unfold wp_X12_has
  exact ⟨n + 1, sp_has6 hm hn hn60 ⟨Or.inl rfl, h0⟩ ⟨Or.inr rfl, h1⟩ n 0 (by omega) 0 (Or.inl rfl)⟩
theorem sp_isTarget {S : MST} {m n : Nat} {x : Int32} {Post : Int32 → Prop} (hm : m < 8) (hn : S 3 m = nI n) (hn60 : n ≤ 60) (h0 : Post 0) (h1 : Post 1) : wp_X12_isTarget S (nI m) x Post := by
  unfold wp_X12_isTarget
  exact sp_has hm hn hn60 ⟨fun q => absurd rfl q, fun _ => sp_has hm hn hn60 ⟨fun _ => h0, fun q => absurd rfl q⟩ ⟨fun q => absurd q (by decide), fun _ => h1⟩⟩ ⟨fun _ => h1, fun q => absurd q (by decide)⟩
theorem sp_as2 {S0 : MST} {m n : Nat} {K : MST → Prop} {Post : MST → Prop} (hm : m < 8) (hn : S0 3 m = nI n) (hn60 : n ≤ 60)
    (h : ∀ S : MST, (∀ k : Nat, k ≠ 30 → S k = S0 k) → (∀ j : Nat, j < 11 → S 30 j = 0 ∨ S0 22 (11 * m + j) = 0) → K S) :
    ∀ (k j : Nat), j + k = 11 → ∀ S : MST, (∀ k : Nat, k ≠ 30 → S k = S0 k) → (∀ i : Nat, i < j → S 30 i = 0 ∨ S0 22 (11 * m + i) = 0) → wl_X12_assumes_2 K Post (k + 1) S (nI m) (nI j) := by
  intro k
  induction k with
  | zero =>
    intro j hj S hS hz
    unfold wl_X12_assumes_2
    obtain rfl : j = 11 := by omega
    exact ⟨fun _ => h S hS hz, fun q => absurd (show (11 : Int32) ≤ nI 11 by decide) q⟩
  | succ k ih =>
    intro j hj S hS hz
    unfold wl_X12_assumes_2
    rw [nI_clamp (n := j) (by omega), ix11, nI_clamp (n := 11 * m + j) (by omega), nI_1, vn_0, vn_1]
    have hn' : S 3 m = nI n := by rw [hS 3 (by decide)]; exact hn
    have v11 : vp_in (nI j) 11 := vp_in_nI (by omega) (by omega)
    have v88 : vp_in (nI (11 * m + j)) 88 := vp_in_nI (by omega) (by omega)
    have v8 : vp_in (nI m) 8 := vp_in_nI (by omega) (by omega)
    have nx : ∀ (x : Int32), (x = 0 ∨ S0 22 (11 * m + j) = 0) → ∀ S5 : MST, S5 = ms S 30 (upd (S 30) j x) → wl_X12_assumes_2 K Post (k + 1) S5 (nI m) (nI (j + 1)) := by
      intro x hx S5 e5
      refine ih (j + 1) (by omega) S5 (fun q hq => by rw [e5, ms_n _ _ hq]; exact hS q hq) (fun i hi => ?_)
      rw [e5, ms_s]
      by_cases q : i = j
      · subst q; rw [upd_s]; exact hx
      · rw [upd_n _ _ q]; exact hz i (by omega)
    have n0 := nx 0 (Or.inl rfl)
    have n1 : S 22 (11 * m + j) = 0 → ∀ S5 : MST, S5 = ms S 30 (upd (S 30) j 1) → wl_X12_assumes_2 K Post (k + 1) S5 (nI m) (nI (j + 1)) := fun z => nx 1 (Or.inr (by rw [← hS 22 (by decide)]; exact z))
    refine ⟨fun q => absurd ((nI_leI (a := 11) (b := j) (by omega) (by omega)).mp q) (by omega), fun _ => ⟨fun _ => ?_, fun _ => ⟨v8, fun _ => ⟨v11, n0⟩, fun _ => ?_⟩⟩⟩
    · exact sp_has hm hn' hn60 ⟨fun _ => ⟨v11, n0⟩, fun q => absurd rfl q⟩ ⟨fun q => absurd q (by decide), fun _ => sp_has hm hn' hn60 ⟨fun q => absurd rfl q, fun _ => ⟨v88, fun _ => ⟨v11, n0⟩, fun z => ⟨v88, fun _ => ⟨v11, n0⟩, fun _ => ⟨v11, n1 z⟩⟩⟩⟩ ⟨fun _ => ⟨v11, n0⟩, fun q => absurd q (by decide)⟩⟩
    · exact sp_has hm hn' hn60 ⟨fun _ => ⟨v11, n0⟩, fun q => absurd rfl q⟩ ⟨fun q => absurd q (by decide), fun _ => sp_has hm hn' hn60 ⟨fun q => absurd rfl q, fun _ => ⟨v88, fun _ => ⟨v11, n0⟩, fun z => ⟨v88, fun _ => ⟨v11, n0⟩, fun _ => ⟨v11, n1 z⟩⟩⟩⟩ ⟨fun _ => ⟨v11, n0⟩, fun q => absurd q (by decide)⟩⟩
theorem sp_assumes {S : MST} {m n : Nat} {Post : MST → Prop} (hm : m < 8) (hn : S 3 m = nI n) (hn60 : n ≤ 60)
    (h : ∀ S' : MST, (∀ k : Nat, k ≠ 30 → S' k = S k) → (∀ j : Nat, j < 11 → S' 30 j = 0 ∨ S 22 (11 * m + j) = 0) → Post S') : wp_X12_assumes S (nI m) Post := by
  unfold wp_X12_assumes
  exact ⟨12, sp_as2 hm hn hn60 h 11 0 (by omega) S (fun _ _ => rfl) (fun i hi => absurd hi (by omega))⟩
theorem sp_bg23 {S0 : MST} {m : Nat} {K : MST → Prop} {Post : MST → Prop} (hm : m < 8) (h : ∀ S : MST, (∀ k : Nat, k ≠ 33 → k ≠ 34 → S k = S0 k) → K S) : ∀ (k j : Nat), j + k = 7 → ∀ S : MST, (∀ k : Nat, k ≠ 33 → k ≠ 34 → S k = S0 k) → wl_X12_begins_23 K Post (k + 1) S (nI m) (nI j) := by
  intro k
  induction k with
  | zero =>
    intro j hj S hS
    unfold wl_X12_begins_23
    obtain rfl : j = 7 := by omega
    exact ⟨fun _ => h S hS, fun q => absurd (show (7 : Int32) ≤ nI 7 by decide) q⟩
  | succ k ih =>
    intro j hj S hS
    unfold wl_X12_begins_23
    rw [nI_1, ix11]
    have v : vp_in (nI j) 7 := vp_in_nI (by omega) (by omega)
    have v11 : vp_in (nI j) 11 := vp_in_nI (by omega) (by omega)
    have v88 : vp_in (nI (11 * m + j)) 88 := vp_in_nI (by omega) (by omega)
    have nx : ∀ (g1 : Nat → Int32) (S3 : MST), S3 = ms S 33 g1 → ∀ (g2 : Nat → Int32) (S5 : MST), S5 = ms S3 34 g2 → wl_X12_begins_23 K Post (k + 1) S5 (nI m) (nI (j + 1)) := by
      intro g1 S3 e3 g2 S5 e5
      exact ih (j + 1) (by omega) S5 (fun q a b => by rw [e5, ms_n _ _ b, e3, ms_n _ _ a]; exact hS q a b)
    refine ⟨fun q => absurd ((nI_leI (a := 7) (b := j) (by omega) (by omega)).mp q) (by omega), fun _ => ⟨fun _ => ⟨v, fun S3 e3 => ⟨fun _ => ⟨v, fun S5 e5 => nx _ S3 e3 _ S5 e5⟩, fun _ => ⟨v88, v, fun S5 e5 => nx _ S3 e3 _ S5 e5⟩⟩⟩, fun _ => ⟨v11, fun _ => ⟨v, fun S3 e3 => ⟨fun _ => ⟨v, fun S5 e5 => nx _ S3 e3 _ S5 e5⟩, fun _ => ⟨v88, v, fun S5 e5 => nx _ S3 e3 _ S5 e5⟩⟩⟩, fun _ => ⟨v, fun S3 e3 => ⟨fun _ => ⟨v, fun S5 e5 => nx _ S3 e3 _ S5 e5⟩, fun _ => ⟨v88, v, fun S5 e5 => nx _ S3 e3 _ S5 e5⟩⟩⟩⟩⟩⟩
theorem sp_bg2 {S0 : MST} {a : Int32} {K : MST → Int32 → Prop} {Post : MST → Prop} (h : ∀ S : MST, (∀ k : Nat, k ≠ 35 → S k = S0 k) → (∀ j : Nat, j < 9 → S 35 j = 0) → K S a) : ∀ (k j : Nat), j + k = 9 → ∀ S : MST, (∀ k : Nat, k ≠ 35 → S k = S0 k) → (∀ i : Nat, i < j → S 35 i = 0) → wl_X12_begins_2 K Post (k + 1) S a (nI j) := by
  intro k
  induction k with
  | zero =>
    intro j hj S hS hz
    unfold wl_X12_begins_2
    obtain rfl : j = 9 := by omega
    exact ⟨fun _ => h S hS hz, fun q => absurd (show (9 : Int32) ≤ nI 9 by decide) q⟩
  | succ k ih =>
    intro j hj S hS hz
    unfold wl_X12_begins_2
    rw [nI_1, nI_clamp (n := j) (by omega), vn_0]
    refine ⟨fun q => absurd ((nI_leI (a := 9) (b := j) (by omega) (by omega)).mp q) (by omega), fun _ => ⟨vp_in_nI (by omega) (by omega), fun S5 e5 => ih (j + 1) (by omega) S5 (fun q a => by rw [e5, ms_n _ _ a]; exact hS q a) (fun i hi => ?_)⟩⟩
    rw [e5, ms_s]
    by_cases q : i = j
    · subst q; rw [upd_s]
    · rw [upd_n _ _ q]; exact hz i (by omega)
theorem sp_begins {S : MST} {m : Nat} {Post : MST → Prop} (hm : m < 8) (h : ∀ S' : MST, (∀ k : Nat, k ≠ 33 → k ≠ 34 → k ≠ 35 → S' k = S k) → kn S' = 0 → Post S') : wp_X12_begins S (nI m) Post := by
  unfold wp_X12_begins
  refine ⟨10, sp_bg2 (S0 := S) (fun S1 h1 hz => ⟨8, sp_bg23 (S0 := S1) hm (fun S2 h2 => h S2 (fun k a b c => by rw [h2 k a b]; exact h1 k c) ?_) 7 0 (by omega) S1 (fun _ _ _ => rfl)⟩) 9 0 (by omega) S (fun _ _ => rfl) (fun i hi => absurd hi (by omega))⟩
  have e : kn S2 = kn S1 := kn_eq (h2 35 (by decide) (by decide))
  rw [e]
  unfold kn
  have := sN_const (f := fun j => if S1 35 j = 0 then 0 else 1) (c := 0) 9 (fun i hi => by
    show (if S1 35 i = 0 then 0 else 1) ≤ 0
    rw [if_pos (hz i hi)]; exact Nat.le_refl _)
  omega
theorem rightI_same {S S' : MST} {M m l n i d : Nat} (h1 : S' 1 = S 1) (h4 : S' 4 = S 4) (h5 : S' 5 = S 5) (h7 : S' 7 = S 7) (h : rightI S M m l n i d) : rightI S' M m l n i d := by
  unfold rightI at h ⊢
  rw [h1, h4, h5, h7]
  exact h
/-- what holds while a code is made: before INSTRUCTION i; P PARTS so far; the last one that was put in is w0 -/
def MkI (S0 : MST) (M m n c i : Nat) (S : MST) (P w0 : Nat) : Prop :=
  ((∀ k : Nat, (k < 23 ∨ 36 < k ∨ (29 < k ∧ k < 32)) → S k = S0 k) ∧ (∀ k t : Nat, 25 ≤ k → k ≤ 29 → (t < 640 * c ∨ 640 * c + 640 ≤ t) → S k t = S0 k t) ∧ (∀ j : Nat, j ≠ c → S 23 j = S0 23 j) ∧ (∀ t : Nat, (t < 60 * c ∨ 60 * c + 60 ≤ t) → S 24 t = S0 24 t)) ∧
  (S 23 c = nI P ∧ S 32 0 = nI w0 ∧ w0 < n ∧ w0 ≤ i - 1 ∧ ¬ S 7 (60 * m + w0) = -1) ∧
  (∀ p : Nat, p < P → pv S M m n (S 25 (640 * c + p)) (S 26 (640 * c + p)) (S 27 (640 * c + p)) (S 28 (640 * c + p)) (S 29 (640 * c + p)) ∧ gd S (S 25 (640 * c + p)) (S 26 (640 * c + p))) ∧
  (∀ x : Nat, x < i → ¬ S 7 (60 * m + x) = -1 → x ≤ w0 ∧ ∃ s : Nat, s ≤ P ∧ S 24 (60 * c + x) = nI s ∧ (∀ p w : Nat, p < P → w < 60 → S 29 (640 * c + p) = nI w → w < x → p < s) ∧ ((S 4 (60 * m + w0) = nI 9 ∨ S 4 (60 * m + w0) = nI 12) → s < P)) ∧
  (0 < i → (S 4 (60 * m + w0) = nI 9 ∨ S 4 (60 * m + w0) = nI 12) → 1 ≤ P ∧ (S 25 (640 * c + (P - 1)) = nI 8 ∨ S 25 (640 * c + (P - 1)) = nI 11)) ∧ P + kn S ≤ 11 + 9 * i
theorem MkI.gr {S0 S S' : MST} {M m n c i P P' w0 : Nat} (h : MkI S0 M m n c i S P w0) (hn : n ≤ 60) (g : GR M m n c w0 S P S' P') (hP : P' ≤ 640) (hk : P' + kn S' ≤ 11 + 9 * i) (ho : i = 0 ∨ (¬ S 4 (60 * m + w0) = nI 9 ∧ ¬ S 4 (60 * m + w0) = nI 12) ∨ P' = P) : MkI S0 M m n c i S' P' w0 := by
  obtain ⟨⟨a1, a2, a3, a4⟩, ⟨b1, b2, b3, b4, b5⟩, hp, hs, hl, -⟩ := h
  obtain ⟨k1, k3, k4, k5, k7, k20, k30, k31, k32, k24, k2⟩ := g.keep
  obtain ⟨g1, g2, g3, g4, g5, g6⟩ := g
  have old : ∀ (k p : Nat), 25 ≤ k → k ≤ 29 → p < P → S' k (640 * c + p) = S k (640 * c + p) := fun k p x y z => g3 k _ x y (by omega)
  refine ⟨⟨fun k hk => ?_, fun k t x y ht => ?_, fun j hj => by rw [g4 j hj]; exact a3 j hj, by rw [k24]; exact a4⟩, ⟨g5, by rw [k32]; exact b2, b3, b4, by rw [k7]; exact b5⟩, fun p hpp => ?_, fun x hx hlx => ?_, fun hi hop => ?_, hk⟩
  · rw [g2 k (by omega) (by omega) (by omega) (by omega) (by omega) (by omega) (by omega) (by omega) (by omega) (by omega)]; exact a1 k hk
  · rw [g3 k t x y (by omega)]; exact a2 k t x y ht
  · rcases Nat.lt_or_ge p P with q | q
    · rw [old 25 p (by omega) (by omega) q, old 26 p (by omega) (by omega) q, old 27 p (by omega) (by omega) q, old 28 p (by omega) (by omega) q, old 29 p (by omega) (by omega) q]
      obtain ⟨p1, p2⟩ := hp p q
      refine ⟨pv_same k1 k7 p1, ?_⟩
      unfold gd at p2 ⊢
      rw [k30]; exact p2
    · obtain ⟨p1, p2, p3⟩ := g6 p q hpp
      rw [p2]
      refine ⟨pv_same k1 k7 p1, ?_⟩
      unfold gd at p3 ⊢
      rw [k30]; exact p3
  · rw [k7] at hlx
    obtain ⟨x1, s, x2, x3, x4, x5⟩ := hs x hx hlx
    refine ⟨x1, s, by omega, by rw [k24]; exact x3, fun p w hpp hw hw2 hwx => ?_, fun hop => ?_⟩
    · rcases Nat.lt_or_ge p P with q | q
      · exact x4 p w q hw (by rw [← old 29 p (by omega) (by omega) q]; exact hw2) hwx
      · have e := (g6 p q hpp).2.1
        have : w = w0 := nI_inj (hw2.symm.trans e) (by omega) (by omega)
        omega
    · rw [k4] at hop
      have := x5 hop
      omega
  · rw [k4] at hop
    rcases ho with q | ⟨q1, q2⟩ | q
    · exact absurd hi (by omega)
    · rcases hop with w | w
      · exact absurd w q1
      · exact absurd w q2
    · subst q
      obtain ⟨h1, h2⟩ := hl hi hop
      rw [old 25 (P' - 1) (by omega) (by omega) (by omega)]
      exact ⟨h1, h2⟩
theorem MkI.next {S0 S S20 S21 : MST} {M m n c i P P' w0 s : Nat} (h : MkI S0 M m n c i S P w0) (hin : i < n) (hn : n ≤ 60) (hlive : ¬ S 7 (60 * m + i) = -1) (hsv : (i = 0 ∧ s = 0) ∨ s = P) (e20 : S20 = ms (ms S 24 (upd (S 24) (60 * c + i) (nI s))) 32 (fun _ => nI i))
    (g : GR M m n c i S20 P S21 P') (hP : P' ≤ 640) (hk : P' + kn S21 ≤ P + kn S + 9) (hop : (S 4 (60 * m + i) = nI 9 ∨ S 4 (60 * m + i) = nI 12) → P < P' ∧ (S21 25 (640 * c + (P' - 1)) = nI 8 ∨ S21 25 (640 * c + (P' - 1)) = nI 11)) : MkI S0 M m n c (i + 1) S21 P' i := by
  obtain ⟨⟨a1, a2, a3, a4⟩, ⟨b1, b2, b3, b4, b5⟩, hp, hs, hl, hB⟩ := h
  have d : ∀ k : Nat, k ≠ 24 → k ≠ 32 → S20 k = S k := fun k x y => by rw [e20, ms_n _ _ y, ms_n _ _ x]
  have d24 : S20 24 = upd (S 24) (60 * c + i) (nI s) := by rw [e20, ms_n _ _ (show 24 ≠ 32 by decide), ms_s]
  have d32 : S20 32 0 = nI i := by rw [e20, ms_s]
  obtain ⟨k1, k3, k4, k5, k7, k20, k30, k31, k32, k24, k2⟩ := g.keep
  rw [d 1 (by decide) (by decide)] at k1
  rw [d 4 (by decide) (by decide)] at k4
  rw [d 7 (by decide) (by decide)] at k7
  rw [d 30 (by decide) (by decide)] at k30
  rw [d24] at k24
  obtain ⟨g1, g2, g3, g4, g5, g6⟩ := g
  have old : ∀ (k p : Nat), 25 ≤ k → k ≤ 29 → p < P → S21 k (640 * c + p) = S k (640 * c + p) := fun k p x y z => by
    rw [g3 k _ x y (by omega), d k (by omega) (by omega)]
  refine ⟨⟨fun k hk => ?_, fun k t x y ht => ?_, fun j hj => by rw [g4 j hj, d 23 (by decide) (by decide)]; exact a3 j hj, fun t ht => by rw [k24, upd_n _ _ (by omega)]; exact a4 t ht⟩, ⟨g5, by rw [k32]; exact d32, hin, by omega, by rw [k7]; exact hlive⟩, fun p hpp => ?_, fun x hx hlx => ?_, fun _ hop2 => ?_, by omega⟩
  · rw [g2 k (by omega) (by omega) (by omega) (by omega) (by omega) (by omega) (by omega) (by omega) (by omega) (by omega), d k (by omega) (by omega)]; exact a1 k hk
  · rw [g3 k t x y (by omega), d k (by omega) (by omega)]; exact a2 k t x y ht
  · rcases Nat.lt_or_ge p P with q | q
    · rw [old 25 p (by omega) (by omega) q, old 26 p (by omega) (by omega) q, old 27 p (by omega) (by omega) q, old 28 p (by omega) (by omega) q, old 29 p (by omega) (by omega) q]
      obtain ⟨p1, p2⟩ := hp p q
      refine ⟨pv_same k1 k7 p1, ?_⟩
      unfold gd at p2 ⊢
      rw [k30]; exact p2
    · obtain ⟨p1, p2, p3⟩ := g6 p q hpp
      rw [p2]
      refine ⟨pv_same (by rw [k1, d 1 (by decide) (by decide)]) (by rw [k7, d 7 (by decide) (by decide)]) p1, ?_⟩
      unfold gd at p3 ⊢
      rw [k30]
      rw [d 30 (by decide) (by decide)] at p3
      exact p3
  · rw [k7] at hlx
    have newp : ∀ (p w : Nat), P ≤ p → p < P' → w < 60 → S21 29 (640 * c + p) = nI w → w = i := fun p w q hpp hw hw2 => nI_inj (hw2.symm.trans (g6 p q hpp).2.1) (by omega) (by omega)
    rw [k4]
    by_cases hxi : x = i
    · subst hxi
      refine ⟨Nat.le_refl _, s, by omega, by rw [k24, upd_s], fun p w hpp hw hw2 hwx => ?_, fun hop2 => ?_⟩
      · rcases Nat.lt_or_ge p P with q | q
        · omega
        · have := newp p w q hpp hw hw2
          omega
      · have := (hop hop2).1
        omega
    · obtain ⟨x1, s2, x2, x3, x4, x5⟩ := hs x (by omega) hlx
      refine ⟨by omega, s2, by omega, by rw [k24, upd_n _ _ (by omega)]; exact x3, fun p w hpp hw hw2 hwx => ?_, fun hop2 => ?_⟩
      · rcases Nat.lt_or_ge p P with q | q
        · exact x4 p w q hw (by rw [← old 29 p (by omega) (by omega) q]; exact hw2) hwx
        · have := newp p w q hpp hw hw2
          omega
      · have := (hop hop2).1
        omega
  · rw [k4] at hop2
    obtain ⟨h1, h2⟩ := hop hop2
    exact ⟨by omega, h2⟩
