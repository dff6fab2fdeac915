/-! the reference's digest(): it ends -/
theorem sp_dg6 {S : MST} {K : Int64 → Prop} {Post : Int64 → Prop} (h : ∀ x : Int64, K x) : ∀ (k j : Nat) (x : Int64), j + k = 8 → wl_X12_digest_6 S K Post (k + 1) x (nI j) := by
  intro k
  induction k with
  | zero =>
    intro j x hj
    unfold wl_X12_digest_6
    exact ⟨fun _ => h _, fun c => absurd ((nI_leI (a := 8) (b := j) (by omega) (by omega)).mpr (by omega)) c⟩
  | succ k ih =>
    intro j x hj
    unfold wl_X12_digest_6
    refine ⟨fun _ => h _, fun _ => ⟨vp_in_nI (by omega) (by omega), ?_⟩⟩
    rw [nI_1]
    exact ih (j + 1) _ (by omega)
theorem sp_dg113 {S : MST} {K : Int64 → Prop} {Post : Int64 → Prop} (h : ∀ x : Int64, K x) : ∀ (k j : Nat) (x : Int64), j + k = 4 → wl_X12_digest_113 S K Post (k + 1) x (nI j) := by
  intro k
  induction k with
  | zero =>
    intro j x hj
    unfold wl_X12_digest_113
    exact ⟨fun _ => h _, fun c => absurd ((nI_leI (a := 4) (b := j) (by omega) (by omega)).mpr (by omega)) c⟩
  | succ k ih =>
    intro j x hj
    unfold wl_X12_digest_113
    refine ⟨fun _ => h _, fun _ => ⟨vp_in_nI (by omega) (by omega), ?_⟩⟩
    rw [nI_1]
    exact ih (j + 1) _ (by omega)
theorem sp_dg56 {S : MST} {K : Int64 → Int32 → Prop} {Post : Int64 → Prop} {r : Nat} (hr : r < 4) (hR : S 13 r = -1 ∨ ∃ k : Nat, k ≤ 20 ∧ S 13 r = nI k) (h : ∀ x : Int64, K x (nI r)) : ∀ (k j : Nat) (x : Int64), j + k = 20 → wl_X12_digest_56 S K Post (k + 1) x (nI r) (nI j) := by
  intro k
  induction k with
  | zero =>
    intro j x hj
    unfold wl_X12_digest_56
    rw [nI_clamp (n := r) (by omega)]
    refine ⟨vp_in_nI (by omega) (by omega), fun _ => h _, fun c => ?_⟩
    rcases hR with q | ⟨k, hk, q⟩
    · rw [q] at c
      exact absurd (z_m1 (nI_pos (by omega))) c
    · rw [q] at c
      exact absurd (nI_le (by omega) (by omega)) c
  | succ k ih =>
    intro j x hj
    unfold wl_X12_digest_56
    refine ⟨vp_in_nI (by omega) (by omega), fun _ => h _, fun _ => ?_⟩
    rw [ix20, nI_1]
    exact ⟨vp_in_nI (by omega) (by omega), ih (j + 1) _ (by omega)⟩
theorem sp_dg34 {S : MST} {K : Int64 → Prop} {Post : Int64 → Prop} (hR : rowN S) (h : ∀ x : Int64, K x) : ∀ (k j : Nat) (x : Int64), j + k = 4 → wl_X12_digest_34 S K Post (k + 1) x (nI j) := by
  intro k
  induction k with
  | zero =>
    intro j x hj
    unfold wl_X12_digest_34
    exact ⟨fun _ => h _, fun c => absurd ((nI_leI (a := 4) (b := j) (by omega) (by omega)).mpr (by omega)) c⟩
  | succ k ih =>
    intro j x hj
    unfold wl_X12_digest_34
    refine ⟨fun _ => h _, fun _ => ⟨vp_in_nI (by omega) (by omega), 21, sp_dg56 (by omega) (hR j (by omega)) (fun x => ?_) 20 0 _ (by omega)⟩⟩
    rw [nI_1]
    exact ih (j + 1) _ (by omega)
theorem sp_dg151 {S : MST} {M m : Nat} {K : Int64 → Int32 → Prop} {Post : Int64 → Prop} (hM : S 0 0 = nI M) (hM8 : M ≤ 8) (hc : ∀ y : Nat, y < M → codN S y) (h : ∀ x : Int64, K x (nI m)) : ∀ (k j : Nat) (x : Int64), j + k = 6 → wl_X12_digest_151 S K Post (k + 1) x (nI m) (nI j) := by
  intro k
  induction k with
  | zero =>
    intro j x hj
    unfold wl_X12_digest_151
    exact ⟨fun _ => h _, fun c => absurd ((nI_leI (a := 6) (b := j) (by omega) (by omega)).mpr (by omega)) c⟩
  | succ k ih =>
    intro j x hj
    unfold wl_X12_digest_151
    refine ⟨fun _ => h _, fun _ => sp_of hM hM8 hc (fun r => ?_)⟩
    rw [nI_1]
    exact ih (j + 1) _ (by omega)
theorem sp_dg195 {S : MST} {M m i : Nat} {K : Int64 → Int32 → Int32 → Prop} {Post : Int64 → Prop} (hM : S 0 0 = nI M) (hM8 : M ≤ 8) (hc : ∀ y : Nat, y < M → codN S y) (h : ∀ x : Int64, K x (nI m) (nI i)) : ∀ (k j : Nat) (x : Int64), j + k = 5 → wl_X12_digest_195 S K Post (k + 1) x (nI m) (nI i) (nI j) := by
  intro k
  induction k with
  | zero =>
    intro j x hj
    unfold wl_X12_digest_195
    exact ⟨fun _ => h _, fun c => absurd ((nI_leI (a := 5) (b := j) (by omega) (by omega)).mpr (by omega)) c⟩
  | succ k ih =>
    intro j x hj
    unfold wl_X12_digest_195
    refine ⟨fun _ => h _, fun _ => sp_part_ hM hM8 hc (fun r => ?_)⟩
    rw [nI_1]
    exact ih (j + 1) _ (by omega)
theorem sp_dg182 {S : MST} {M m : Nat} {K : Int64 → Int32 → Prop} {Post : Int64 → Prop} (hM : S 0 0 = nI M) (hM8 : M ≤ 8) (hm : m < M) (hc : ∀ y : Nat, y < M → codN S y) (h : ∀ x : Int64, K x (nI m)) : ∀ (k j : Nat) (x : Int64), j + k = 640 → wl_X12_digest_182 S K Post (k + 1) x (nI m) (nI j) := by
  intro k
  induction k with
  | zero =>
    intro j x hj
    unfold wl_X12_digest_182
    refine sp_partsOf (by omega) (hc m hm) (fun _ => ⟨fun _ => h _, fun c => absurd (nI_le (a := 0) (by omega) (by omega)) c⟩) (fun _ N _ _ _ _ hN _ => ⟨fun _ => h _, fun c => absurd (nI_le (by omega) (by omega)) c⟩)
  | succ k ih =>
    intro j x hj
    unfold wl_X12_digest_182
    have go : ∀ r2 : Int32, (r2 ≤ nI j → K x (nI m)) ∧ (¬ r2 ≤ nI j → ∃ n_195, wl_X12_digest_195 S (fun x1 x3 x4 => wl_X12_digest_182 S K Post (k + 1) x1 x3 (x4 + 1)) Post n_195 x (nI m) (nI j) 0) := by
      intro r2
      refine ⟨fun _ => h _, fun _ => ⟨6, sp_dg195 (i := j) hM hM8 hc (fun x => ?_) 5 0 x (by omega)⟩⟩
      rw [nI_1]
      exact ih (j + 1) _ (by omega)
    exact sp_partsOf (by omega) (hc m hm) (fun _ => go 0) (fun _ N _ _ _ _ _ _ => go (nI N))
theorem sp_dg140 {S : MST} {M : Nat} {K : Int64 → Prop} {Post : Int64 → Prop} (hM : S 0 0 = nI M) (hM8 : M ≤ 8) (hc : ∀ y : Nat, y < M → codN S y) (h : ∀ x : Int64, K x) : ∀ (k j : Nat) (x : Int64), j + k = M → wl_X12_digest_140 S K Post (k + 1) x (nI j) := by
  intro k
  induction k with
  | zero =>
    intro j x hj
    unfold wl_X12_digest_140
    rw [hM]
    exact ⟨fun _ => h _, fun c => absurd (nI_le (by omega) (by omega)) c⟩
  | succ k ih =>
    intro j x hj
    unfold wl_X12_digest_140
    refine ⟨fun _ => h _, fun _ => ⟨7, sp_dg151 (m := j) hM hM8 hc (fun x => ⟨641, sp_dg182 (m := j) hM hM8 (by omega) hc (fun x => ?_) 640 0 x (by omega)⟩) 6 0 x (by omega)⟩⟩
    rw [nI_1]
    exact ih (j + 1) _ (by omega)
theorem sp_digest {S : MST} {M : Nat} {Post : Int64 → Prop} (hM : S 0 0 = nI M) (hM8 : M ≤ 8) (hc : ∀ y : Nat, y < M → codN S y) (hR : rowN S) (h : ∀ r : Int64, Post r) : wp_X12_digest S Post := by
  unfold wp_X12_digest
  exact ⟨9, sp_dg6 (fun _ => ⟨5, sp_dg34 hR (fun _ => ⟨5, sp_dg113 (fun _ => ⟨M + 1, sp_dg140 hM hM8 hc (fun x => h x) M 0 _ (by omega)⟩) 4 0 _ (by omega)⟩) 4 0 _ (by omega)⟩) 8 0 _ (by omega)⟩
