/-! a PART of each op, in range -/
theorem pv_0 {S : MST} {M m n i : Nat} {d a b : Int32} (hi : i < n) (hl : ¬ S 7 (60 * m + i) = -1) (h0 : ∃ x : Nat, x < 15 ∧ d = nI x) : pv S M m n (nI 0) d a b (nI i) := ⟨0, i, by omega, rfl, rfl, hi, hl, fun _ => h0, fun q => absurd q (by omega), fun q => absurd q (by omega), fun q => absurd q (by omega), fun q => absurd q (by omega), fun q => absurd q (by omega), fun q => absurd q (by omega), fun q => absurd q (by omega), fun q => absurd q (by omega), fun q => absurd q (by omega), fun q => absurd q (by omega)⟩
theorem pv_1 {S : MST} {M m n i : Nat} {d a b : Int32} (hi : i < n) (hl : ¬ S 7 (60 * m + i) = -1) (h0 : ∃ x : Nat, x < 15 ∧ d = nI x) (h1 : ∃ x : Nat, x < 15 ∧ a = nI x) : pv S M m n (nI 1) d a b (nI i) := ⟨1, i, by omega, rfl, rfl, hi, hl, fun _ => h0, fun _ => h1, fun q => absurd q (by omega), fun q => absurd q (by omega), fun q => absurd q (by omega), fun q => absurd q (by omega), fun q => absurd q (by omega), fun q => absurd q (by omega), fun q => absurd q (by omega), fun q => absurd q (by omega), fun q => absurd q (by omega)⟩
theorem pv_2 {S : MST} {M m n i : Nat} {d a b : Int32} (hi : i < n) (hl : ¬ S 7 (60 * m + i) = -1) (h0 : ∃ x : Nat, x < 15 ∧ d = nI x) (h1 : ∃ x : Nat, x < 15 ∧ a = nI x) (h2 : ∃ x : Nat, x < 15 ∧ b = nI x) : pv S M m n (nI 2) d a b (nI i) := ⟨2, i, by omega, rfl, rfl, hi, hl, fun _ => h0, fun _ => h1, fun _ => h2, fun q => absurd q (by omega), fun q => absurd q (by omega), fun q => absurd q (by omega), fun q => absurd q (by omega), fun q => absurd q (by omega), fun q => absurd q (by omega), fun q => absurd q (by omega), fun q => absurd q (by omega)⟩
theorem pv_3 {S : MST} {M m n i : Nat} {d a b : Int32} (hi : i < n) (hl : ¬ S 7 (60 * m + i) = -1) (h0 : ∃ x : Nat, x < 15 ∧ d = nI x) (h1 : ∃ x : Nat, x < 15 ∧ a = nI x) (h2 : ∃ x : Nat, x < 15 ∧ b = nI x) : pv S M m n (nI 3) d a b (nI i) := ⟨3, i, by omega, rfl, rfl, hi, hl, fun _ => h0, fun _ => h1, fun _ => h2, fun q => absurd q (by omega), fun q => absurd q (by omega), fun q => absurd q (by omega), fun q => absurd q (by omega), fun q => absurd q (by omega), fun q => absurd q (by omega), fun q => absurd q (by omega), fun q => absurd q (by omega)⟩
theorem pv_4 {S : MST} {M m n i : Nat} {d a b : Int32} (hi : i < n) (hl : ¬ S 7 (60 * m + i) = -1) (h0 : ∃ x : Nat, x < 15 ∧ d = nI x) (h1 : ∃ x : Nat, x < 15 ∧ a = nI x) (h2 : ∃ x : Nat, x < 15 ∧ b = nI x) : pv S M m n (nI 4) d a b (nI i) := ⟨4, i, by omega, rfl, rfl, hi, hl, fun _ => h0, fun _ => h1, fun _ => h2, fun q => absurd q (by omega), fun q => absurd q (by omega), fun q => absurd q (by omega), fun q => absurd q (by omega), fun q => absurd q (by omega), fun q => absurd q (by omega), fun q => absurd q (by omega), fun q => absurd q (by omega)⟩
theorem pv_5 {S : MST} {M m n i : Nat} {d a b : Int32} (hi : i < n) (hl : ¬ S 7 (60 * m + i) = -1) (h0 : ∃ x : Nat, x < 15 ∧ d = nI x) (h1 : ∃ x : Nat, x < 15 ∧ a = nI x) (h2 : ∃ x : Nat, x < 15 ∧ b = nI x) : pv S M m n (nI 5) d a b (nI i) := ⟨5, i, by omega, rfl, rfl, hi, hl, fun _ => h0, fun _ => h1, fun _ => h2, fun q => absurd q (by omega), fun q => absurd q (by omega), fun q => absurd q (by omega), fun q => absurd q (by omega), fun q => absurd q (by omega), fun q => absurd q (by omega), fun q => absurd q (by omega), fun q => absurd q (by omega)⟩
theorem pv_6 {S : MST} {M m n i : Nat} {d a b : Int32} (hi : i < n) (hl : ¬ S 7 (60 * m + i) = -1) (h0 : ∃ x : Nat, x < 15 ∧ d = nI x) (h1 : ∃ x : Nat, x < 15 ∧ a = nI x) (h2 : ∃ x : Nat, x < 15 ∧ b = nI x) : pv S M m n (nI 6) d a b (nI i) := ⟨6, i, by omega, rfl, rfl, hi, hl, fun _ => h0, fun _ => h1, fun _ => h2, fun q => absurd q (by omega), fun q => absurd q (by omega), fun q => absurd q (by omega), fun q => absurd q (by omega), fun q => absurd q (by omega), fun q => absurd q (by omega), fun q => absurd q (by omega), fun q => absurd q (by omega)⟩
theorem pv_7 {S : MST} {M m n i : Nat} {d a b : Int32} (hi : i < n) (hl : ¬ S 7 (60 * m + i) = -1) (h0 : ∃ x : Nat, x < 15 ∧ d = nI x) (h1 : ∃ x : Nat, x < 15 ∧ a = nI x) (h2 : ∃ x : Nat, x < 15 ∧ b = nI x) : pv S M m n (nI 7) d a b (nI i) := ⟨7, i, by omega, rfl, rfl, hi, hl, fun _ => h0, fun _ => h1, fun _ => h2, fun q => absurd q (by omega), fun q => absurd q (by omega), fun q => absurd q (by omega), fun q => absurd q (by omega), fun q => absurd q (by omega), fun q => absurd q (by omega), fun q => absurd q (by omega), fun q => absurd q (by omega)⟩
theorem pv_8 {S : MST} {M m n i : Nat} {d a b : Int32} (hi : i < n) (hl : ¬ S 7 (60 * m + i) = -1) (h3 : ∃ x : Nat, x < n ∧ d = nI x ∧ ¬ S 7 (60 * m + x) = -1) : pv S M m n (nI 8) d a b (nI i) := ⟨8, i, by omega, rfl, rfl, hi, hl, fun q => absurd q (by omega), fun q => absurd q (by omega), fun q => absurd q (by omega), fun _ => h3, fun q => absurd q (by omega), fun q => absurd q (by omega), fun q => absurd q (by omega), fun q => absurd q (by omega), fun q => absurd q (by omega), fun q => absurd q (by omega), fun q => absurd q (by omega)⟩
theorem pv_9 {S : MST} {M m n i : Nat} {d a b : Int32} (hi : i < n) (hl : ¬ S 7 (60 * m + i) = -1) (h1 : ∃ x : Nat, x < 15 ∧ a = nI x) (h3 : ∃ x : Nat, x < n ∧ d = nI x ∧ ¬ S 7 (60 * m + x) = -1) : pv S M m n (nI 9) d a b (nI i) := ⟨9, i, by omega, rfl, rfl, hi, hl, fun q => absurd q (by omega), fun _ => h1, fun q => absurd q (by omega), fun _ => h3, fun q => absurd q (by omega), fun q => absurd q (by omega), fun q => absurd q (by omega), fun q => absurd q (by omega), fun q => absurd q (by omega), fun q => absurd q (by omega), fun q => absurd q (by omega)⟩
theorem pv_10 {S : MST} {M m n i : Nat} {d a b : Int32} (hi : i < n) (hl : ¬ S 7 (60 * m + i) = -1) (h4 : ∃ (y x ax : Nat), y < M ∧ a = nI y ∧ S 1 y = nI ax ∧ ax ≤ 3 ∧ d = nI x ∧ x + ax ≤ 15 ∧ x < 15 ∧ i + 1 < n ∧ ¬ S 7 (60 * m + (i + 1)) = -1) : pv S M m n (nI 10) d a b (nI i) := ⟨10, i, by omega, rfl, rfl, hi, hl, fun q => absurd q (by omega), fun q => absurd q (by omega), fun q => absurd q (by omega), fun q => absurd q (by omega), fun _ => h4, fun q => absurd q (by omega), fun q => absurd q (by omega), fun q => absurd q (by omega), fun q => absurd q (by omega), fun q => absurd q (by omega), fun q => absurd q (by omega)⟩
theorem pv_11 {S : MST} {M m n i : Nat} {d a b : Int32} (hi : i < n) (hl : ¬ S 7 (60 * m + i) = -1) (h1 : ∃ x : Nat, x < 15 ∧ a = nI x) : pv S M m n (nI 11) d a b (nI i) := ⟨11, i, by omega, rfl, rfl, hi, hl, fun q => absurd q (by omega), fun _ => h1, fun q => absurd q (by omega), fun q => absurd q (by omega), fun q => absurd q (by omega), fun q => absurd q (by omega), fun q => absurd q (by omega), fun q => absurd q (by omega), fun q => absurd q (by omega), fun q => absurd q (by omega), fun q => absurd q (by omega)⟩
theorem pv_12 {S : MST} {M m n i : Nat} {d a b : Int32} (hi : i < n) (hl : ¬ S 7 (60 * m + i) = -1) (h0 : ∃ x : Nat, x < 15 ∧ d = nI x) (h5 : ∃ x : Nat, x < 8 ∧ a = nI x) : pv S M m n (nI 12) d a b (nI i) := ⟨12, i, by omega, rfl, rfl, hi, hl, fun _ => h0, fun q => absurd q (by omega), fun q => absurd q (by omega), fun q => absurd q (by omega), fun q => absurd q (by omega), fun _ => h5, fun q => absurd q (by omega), fun q => absurd q (by omega), fun q => absurd q (by omega), fun q => absurd q (by omega), fun q => absurd q (by omega)⟩
theorem pv_13 {S : MST} {M m n i : Nat} {d a b : Int32} (hi : i < n) (hl : ¬ S 7 (60 * m + i) = -1) (h1 : ∃ x : Nat, x < 15 ∧ a = nI x) (h7 : ∃ x : Nat, x < 8 ∧ d = nI x) : pv S M m n (nI 13) d a b (nI i) := ⟨13, i, by omega, rfl, rfl, hi, hl, fun q => absurd q (by omega), fun _ => h1, fun q => absurd q (by omega), fun q => absurd q (by omega), fun q => absurd q (by omega), fun q => absurd q (by omega), fun q => absurd q (by omega), fun _ => h7, fun q => absurd q (by omega), fun q => absurd q (by omega), fun q => absurd q (by omega)⟩
theorem pv_14 {S : MST} {M m n i : Nat} {d a b : Int32} (hi : i < n) (hl : ¬ S 7 (60 * m + i) = -1) (h1 : ∃ x : Nat, x < 15 ∧ a = nI x) (h8 : ∃ x : Nat, x < 4 ∧ d = nI x) : pv S M m n (nI 14) d a b (nI i) := ⟨14, i, by omega, rfl, rfl, hi, hl, fun q => absurd q (by omega), fun _ => h1, fun q => absurd q (by omega), fun q => absurd q (by omega), fun q => absurd q (by omega), fun q => absurd q (by omega), fun q => absurd q (by omega), fun q => absurd q (by omega), fun _ => h8, fun q => absurd q (by omega), fun q => absurd q (by omega)⟩
theorem pv_15 {S : MST} {M m n i : Nat} {d a b : Int32} (hi : i < n) (hl : ¬ S 7 (60 * m + i) = -1) (h0 : ∃ x : Nat, x < 15 ∧ d = nI x) (h2 : ∃ x : Nat, x < 15 ∧ b = nI x) (h6 : ∃ x : Nat, x < 4 ∧ a = nI x) : pv S M m n (nI 15) d a b (nI i) := ⟨15, i, by omega, rfl, rfl, hi, hl, fun _ => h0, fun q => absurd q (by omega), fun _ => h2, fun q => absurd q (by omega), fun q => absurd q (by omega), fun q => absurd q (by omega), fun _ => h6, fun q => absurd q (by omega), fun q => absurd q (by omega), fun q => absurd q (by omega), fun q => absurd q (by omega)⟩
theorem pv_16 {S : MST} {M m n i : Nat} {d a b : Int32} (hi : i < n) (hl : ¬ S 7 (60 * m + i) = -1) (h1 : ∃ x : Nat, x < 15 ∧ a = nI x) (h2 : ∃ x : Nat, x < 15 ∧ b = nI x) (h8 : ∃ x : Nat, x < 4 ∧ d = nI x) : pv S M m n (nI 16) d a b (nI i) := ⟨16, i, by omega, rfl, rfl, hi, hl, fun q => absurd q (by omega), fun _ => h1, fun _ => h2, fun q => absurd q (by omega), fun q => absurd q (by omega), fun q => absurd q (by omega), fun q => absurd q (by omega), fun q => absurd q (by omega), fun _ => h8, fun q => absurd q (by omega), fun q => absurd q (by omega)⟩
theorem pv_17 {S : MST} {M m n i : Nat} {d a b : Int32} (hi : i < n) (hl : ¬ S 7 (60 * m + i) = -1) (h9 : ∃ x : Nat, x < 3 ∧ d = nI x) : pv S M m n (nI 17) d a b (nI i) := ⟨17, i, by omega, rfl, rfl, hi, hl, fun q => absurd q (by omega), fun q => absurd q (by omega), fun q => absurd q (by omega), fun q => absurd q (by omega), fun q => absurd q (by omega), fun q => absurd q (by omega), fun q => absurd q (by omega), fun q => absurd q (by omega), fun q => absurd q (by omega), fun _ => h9, fun q => absurd q (by omega)⟩
theorem pv_18 {S : MST} {M m n i : Nat} {d a b : Int32} (hi : i < n) (hl : ¬ S 7 (60 * m + i) = -1) (h10 : ∃ x : Nat, x < 8 ∧ d = nI x) : pv S M m n (nI 18) d a b (nI i) := ⟨18, i, by omega, rfl, rfl, hi, hl, fun q => absurd q (by omega), fun q => absurd q (by omega), fun q => absurd q (by omega), fun q => absurd q (by omega), fun q => absurd q (by omega), fun q => absurd q (by omega), fun q => absurd q (by omega), fun q => absurd q (by omega), fun q => absurd q (by omega), fun q => absurd q (by omega), fun _ => h10⟩
theorem gd_no {S : MST} {o : Nat} {d : Int32} (h : o < 17) : gd S (nI o) d := ⟨fun _ _ q => absurd (nI_inj q (by omega) (by omega)) (by omega), fun _ _ q => absurd (nI_inj q (by omega) (by omega)) (by omega)⟩
/-- what the making of a code stands on: the code, its PARTS so far, the INSTRUCTION that they belong to -/
def GC (S : MST) (m n c own P : Nat) : Prop := S 31 0 = nI c ∧ c < 96 ∧ S 23 c = nI P ∧ S 32 0 = nI own ∧ own < n ∧ ¬ S 7 (60 * m + own) = -1
theorem GC.go {M m n c own P P' : Nat} {S S' : MST} (h : GC S m n c own P) (g : GR M m n c own S P S' P') : GC S' m n c own P' := by
  obtain ⟨_, _, _, _, k7, _, _, k31, k32, _, _⟩ := g.keep
  exact ⟨by rw [k31]; exact h.1, h.2.1, g.2.2.2.2.1, by rw [k32]; exact h.2.2.2.1, h.2.2.2.2.1, by rw [k7]; exact h.2.2.2.2.2⟩
/-- writes beside the code alone -/
theorem GR.side {M m n c own P : Nat} {S S' : MST} (h : S 23 c = nI P) (e : ∀ k : Nat, k ≠ 33 → k ≠ 34 → k ≠ 35 → k ≠ 36 → S' k = S k) : GR M m n c own S P S' P :=
  ⟨Nat.le_refl _, fun k _ _ _ _ _ _ a b d f => e k a b d f, fun k t a b _ => by rw [e k (by omega) (by omega) (by omega) (by omega)], fun j _ => by rw [e 23 (by decide) (by decide) (by decide) (by decide)], by rw [e 23 (by decide) (by decide) (by decide) (by decide)]; exact h, fun p a b => absurd a (by omega)⟩
theorem kn_pos {S : MST} {j : Nat} (hj : j < 9) (h : ¬ S 35 j = 0) : 1 ≤ kn S := by
  have := kn_off (S := S) hj h (ms S 35 (upd (S 35) j 0)) (ms_s _ _ _) rfl
  omega
theorem sp_layOne {M m n c own P q : Nat} {S : MST} {Post : MST → Prop} (hG : GC S m n c own P) (hq : q < 8) (hB : P + kn S ≤ 640)
    (h : ∀ (S' : MST) (P' : Nat), GR M m n c own S P S' P' → P' + kn S' ≤ P + kn S → S' 35 q = 0 → (∀ j : Nat, j ≠ q → S' 35 j = S 35 j) → Post S') : wp_X12_layOne S (nI q) Post := by
  obtain ⟨h31, hc, h23, h32, hown, hlive⟩ := hG
  unfold wp_X12_layOne
  have hv : vp_in (nI q) 9 := vp_in_nI (by omega) (by omega)
  rw [nI_clamp (n := q) (by omega), vn_0]
  refine ⟨hv, fun w => h S P (GR.rf h23) (Nat.le_refl _) w (fun _ _ => rfl), fun w => ⟨hv, ?_⟩⟩
  have hk := kn_pos (by omega) w
  rw [show (7 : Int32) + nI q = nI (7 + q) from nI_add 7 q]
  refine sp_part (M := M) (o := nI 0) h31 hc h23 (by omega) h32 (pv_0 hown hlive ⟨7 + q, by omega, rfl⟩) (gd_no (by omega)) (fun S4 g4 e35 _ _ _ _ => ⟨hv, fun S5 e5 => ?_⟩)
  have g5 : GR M m n c own S4 (P + 1) S5 (P + 1) := GR.side g4.2.2.2.2.1 (fun k _ _ a _ => by rw [e5, ms_n _ _ a])
  have e35' : S5 35 = upd (S 35) q 0 := by rw [e5, ms_s, e35]
  have hk2 := kn_off (by omega) w S5 e35' rfl
  exact h S5 (P + 1) (g4.tr g5 (by omega)) (by omega) (by rw [e35', upd_s]) (fun j hj => by rw [e35', upd_n _ _ hj])
theorem sp_la2 {M m n c own d P0 : Nat} {S0 : MST} {K : MST → Prop} {Post : MST → Prop} (hG : GC S0 m n c own P0) (hd : d ≤ 8) (hB : P0 + kn S0 ≤ 640)
    (h : ∀ (S' : MST) (P' : Nat), GR M m n c own S0 P0 S' P' → P' + kn S' ≤ P0 + kn S0 → (∀ j : Nat, j < d → S' 35 j = 0) → (∀ j : Nat, d ≤ j → S' 35 j = S0 35 j) → K S') :
    ∀ (k j : Nat), j + k = d → ∀ (S : MST) (P : Nat), GR M m n c own S0 P0 S P → P + kn S ≤ P0 + kn S0 → (∀ i : Nat, i < j → S 35 i = 0) → (∀ i : Nat, j ≤ i → S 35 i = S0 35 i) → wl_X12_layAll_2 K Post (k + 1) S (nI d) (nI j) := by
  intro k
  induction k with
  | zero =>
    intro j hj S P g hp hz hs
    unfold wl_X12_layAll_2
    obtain rfl : j = d := by omega
    exact ⟨fun _ => h S P g hp hz hs, fun q => absurd (nI_le (Nat.le_refl _) (by omega)) q⟩
  | succ k ih =>
    intro j hj S P g hp hz hs
    unfold wl_X12_layAll_2
    refine ⟨fun q => absurd q (nI_ge (by omega) (by omega)), fun _ => sp_layOne (M := M) (hG.go g) (by omega) (by omega) (fun S' P' g' hp' hz' hs' => ?_)⟩
    rw [nI_1]
    refine ih (j + 1) (by omega) S' P' (g.tr g' (by omega)) (by omega) (fun i hi => ?_) (fun i hi => by rw [hs' i (by omega)]; exact hs i (by omega))
    by_cases q : i = j
    · rw [q]; exact hz'
    · rw [hs' i q]; exact hz i (by omega)
theorem sp_layAll {M m n c own d P : Nat} {S : MST} {Post : MST → Prop} (hG : GC S m n c own P) (hd : d ≤ 8) (hB : P + kn S ≤ 640)
    (h : ∀ (S' : MST) (P' : Nat), GR M m n c own S P S' P' → P' + kn S' ≤ P + kn S → (∀ j : Nat, j < d → S' 35 j = 0) → (∀ j : Nat, d ≤ j → S' 35 j = S 35 j) → Post S') : wp_X12_layAll S (nI d) Post := by
  unfold wp_X12_layAll
  exact ⟨d + 1, sp_la2 hG hd hB h d 0 (by omega) S P (GR.rf hG.2.2.1) (Nat.le_refl _) (fun i hi => absurd hi (by omega)) (fun _ _ => rfl)⟩
theorem sp_knows {M m n c own P q : Nat} {S : MST} {v : Int32} {Post : MST → Prop} (h23 : S 23 c = nI P) (hq : q < 9) (h : ∀ S' : MST, GR M m n c own S P S' P → kn S' ≤ kn S + 1 → Post S') : wp_X12_knows S (nI q) v Post := by
  unfold wp_X12_knows
  have hv : vp_in (nI q) 9 := vp_in_nI hq (by omega)
  rw [nI_clamp (n := q) (by omega), vn_1]
  refine ⟨hv, fun S1 e1 => ⟨hv, fun S2 e2 => h S2 (GR.side h23 (fun k _ _ a b => by rw [e2, ms_n _ _ b, e1, ms_n _ _ a])) (kn_on (j := q) (x := 1) (by rw [e2, ms_n _ _ (show 35 ≠ 36 by decide), e1, ms_s]))⟩⟩
theorem sp_fg2 {M m n c own P0 : Nat} {S0 : MST} {K : MST → Prop} {Post : MST → Prop} (hG : GC S0 m n c own P0) (hm : m < 8) (hB : P0 + 8 ≤ 640)
    (h : ∀ (S' : MST) (P' : Nat), GR M m n c own S0 P0 S' P' → P' ≤ P0 + 8 → S' 35 = S0 35 → K S') :
    ∀ (k j : Nat), j + k = 8 → ∀ (S : MST) (P : Nat), GR M m n c own S0 P0 S P → P ≤ P0 + j → S 35 = S0 35 → wl_X12_fieldGuards_2 K Post (k + 1) S (nI m) (nI j) := by
  intro k
  induction k with
  | zero =>
    intro j hj S P g hp hs
    unfold wl_X12_fieldGuards_2
    exact ⟨fun _ => h S P g (by omega) hs, fun q => absurd ((nI_leI (a := 8) (b := j) (by omega) (by omega)).mpr (by omega)) q⟩
  | succ k ih =>
    intro j hj S P g hp hs
    unfold wl_X12_fieldGuards_2
    rw [show (3 : Int32) + nI j = nI (3 + j) from nI_add 3 j, nI_clamp (n := 3 + j) (by omega), show (11 : Int32) * nI m + 3 = nI (11 * m + 3) from ix11 m 3, nI_add, nI_1]
    obtain ⟨_, _, _, _, k7, _, k30, _⟩ := g.keep
    have hG' := hG.go g
    refine ⟨fun q => absurd ((nI_leI (a := 8) (b := j) (by omega) (by omega)).mp q) (by omega), fun _ => ⟨vp_in_nI (by omega) (by omega), fun _ => ih (j + 1) (by omega) S P g (by omega) hs, fun hne => ⟨vp_in_nI (by omega) (by omega), ?_⟩⟩⟩
    refine sp_part (M := M) (o := nI 18) hG'.1 hG'.2.1 hG'.2.2.1 (by omega) hG'.2.2.2.1 (pv_18 hG'.2.2.2.2.1 hG'.2.2.2.2.2 ⟨j, by omega, rfl⟩) ⟨fun _ _ q => absurd (nI_inj q (by omega) (by omega)) (by omega), fun x hx _ e => by
      obtain rfl : j = x := nI_inj e (by omega) (by omega)
      exact hne⟩ (fun S4 g4 e35 _ _ _ _ => ih (j + 1) (by omega) S4 (P + 1) (g.tr g4 (by omega)) (by omega) (e35.trans hs))
