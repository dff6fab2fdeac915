/-! the reference's reads: they end, whatever they answer -/
theorem ix12 (m i : Nat) : (12 : Int32) * nI m + nI i = nI (12 * m + i) := by rw [show (12 : Int32) = nI 12 from rfl, nI_mul, nI_add]
theorem nI_m1 {n : Nat} (h : 1 ≤ n) : nI n - 1 = nI (n - 1) := nI_sub (b := 1) h
/-- how many codes a METHOD has had, how many PARTS each -/
def codN (S : MST) (y : Nat) : Prop := ∃ k : Nat, k ≤ 12 ∧ S 17 y = nI k ∧ ∀ j : Nat, j < k → ∃ N : Nat, 1 ≤ N ∧ N ≤ 640 ∧ S 23 (12 * y + j) = nI N
def rowN (S : MST) : Prop := ∀ r : Nat, r < 4 → S 13 r = -1 ∨ ∃ k : Nat, k ≤ 20 ∧ S 13 r = nI k
theorem sp_codeNow {S : MST} {m k : Nat} {Post : Int32 → Prop} (hm : m < 8) (hk : S 17 m = nI k) (h1 : 1 ≤ k) (hk12 : k ≤ 12) (h : Post (nI (12 * m + (k - 1)))) : wp_X12_codeNow S (nI m) Post := by
  unfold wp_X12_codeNow
  rw [nI_clamp (n := m) (by omega), hk, ix12, nI_m1 (by omega), show 12 * m + k - 1 = 12 * m + (k - 1) by omega]
  exact ⟨vp_in_nI hm (by omega), h⟩
theorem sp_partsOf {S : MST} {m : Nat} {Post : Int32 → Prop} (hm : m < 8) (hc : codN S m) (h0 : S 17 m = 0 → Post 0) (h1 : ∀ k N : Nat, 1 ≤ k → k ≤ 12 → S 17 m = nI k → 1 ≤ N → N ≤ 640 → S 23 (12 * m + (k - 1)) = nI N → Post (nI N)) : wp_X12_partsOf S (nI m) Post := by
  unfold wp_X12_partsOf
  obtain ⟨k, hk12, hk, hN⟩ := hc
  rw [nI_clamp (n := m) (by omega)]
  refine ⟨vp_in_nI hm (by omega), fun q => ?_, h0⟩
  have h1k : 1 ≤ k := by
    rcases Nat.eq_zero_or_pos k with w | w
    · subst w; exact absurd hk q
    · exact w
  obtain ⟨N, hN1, hN6, e⟩ := hN (k - 1) (by omega)
  refine sp_codeNow hm hk h1k hk12 ?_
  rw [nI_clamp (by omega), e]
  exact ⟨vp_in_nI (by omega) (by omega), h1 k N h1k hk12 hk hN1 hN6 e⟩
theorem sp_part_ {S : MST} {M : Nat} {a b w : Int32} {Post : Int32 → Prop} (hM : S 0 0 = nI M) (hM8 : M ≤ 8) (hc : ∀ y : Nat, y < M → codN S y) (h : ∀ r : Int32, Post r) : wp_X12_part_ S a b w Post := by
  unfold wp_X12_part_
  refine sp_isMethod hM hM8 (fun _ => ⟨fun _ => h _, fun q => absurd rfl q⟩) (fun m hm e => ⟨fun q => absurd q (by decide), fun _ => ?_⟩)
  subst e
  refine sp_partsOf (by omega) (hc m hm) (fun _ => ?_) (fun k N h1 h12 hk hN1 hN6 eN => ?_)
  · refine sp_inL (lo := 0) (hi := ((0 - 1 : Int32)).toInt64) (fun _ => ⟨fun q => absurd rfl q, fun _ => h _⟩) (fun ha hb => ?_)
    have e1 : (((0 - 1 : Int32)).toInt64).toInt = -1 := by decide
    have e0 : (0 : Int64).toInt = 0 := by decide
    omega
  · refine sp_in0 (n := N) (by omega) rfl (fun _ => ⟨fun q => absurd rfl q, fun _ => h _⟩) (fun i hi e => ⟨fun _ => ?_, fun q => absurd q (by decide)⟩)
    subst e
    refine sp_codeNow (by omega) hk h1 h12 ?_
    rw [ix640]
    have hv : vp_in (nI (640 * (12 * m + (k - 1)) + i)) 61440 := vp_in_nI (by omega) (by omega)
    exact ⟨fun _ => h _, fun _ => ⟨hv, h _⟩, fun _ => ⟨hv, h _⟩, fun _ => ⟨hv, h _⟩, fun _ => ⟨hv, h _⟩, fun _ => ⟨hv, h _⟩⟩
theorem sp_of {S : MST} {M : Nat} {a w : Int32} {Post : Int32 → Prop} (hM : S 0 0 = nI M) (hM8 : M ≤ 8) (hc : ∀ y : Nat, y < M → codN S y) (h : ∀ r : Int32, Post r) : wp_X12_of S a w Post := by
  unfold wp_X12_of
  refine sp_isMethod hM hM8 (fun _ => ⟨fun q => absurd rfl q, fun _ => h _⟩) (fun m hm e => ⟨fun _ => ?_, fun q => absurd q (by decide)⟩)
  subst e
  have hv : vp_in (nI m) 8 := vp_in_nI (by omega) (by omega)
  exact ⟨fun _ => h _, fun _ => ⟨hv, fun _ => h _, fun _ => h _⟩, fun _ => ⟨hv, h _⟩, fun _ => ⟨hv, h _⟩, fun _ => ⟨hv, h _⟩, fun _ => ⟨hv, h _⟩, fun _ => sp_partsOf (by omega) (hc m hm) (fun _ => h _) (fun _ _ _ _ _ _ _ _ => h _), fun _ => ⟨hv, h _⟩, fun _ => ⟨hv, fun _ => h _, fun _ => ⟨hv, h _⟩⟩⟩
theorem sp_varies {S : MST} {M : Nat} {a x : Int32} {Post : Int32 → Prop} (hM : S 0 0 = nI M) (hM8 : M ≤ 8) (h : ∀ r : Int32, Post r) : wp_X12_varies S a x Post := by
  unfold wp_X12_varies
  have t0 : (0 : Int64).toInt = 0 := by decide
  have t2 : (2 : Int64).toInt = 2 := by decide
  have t10 : (10 : Int64).toInt = 10 := by decide
  have t17 : (17 : Int64).toInt = 17 := by decide
  refine sp_isMethod hM hM8 (fun _ => ⟨fun _ => h _, fun q => absurd rfl q⟩) (fun m hm e => ⟨fun q => absurd q (by decide), fun _ => ?_⟩)
  subst e
  refine sp_inL (fun _ => ⟨fun q => absurd rfl q, fun _ => ?_⟩) (fun ha hb => ⟨fun _ => ?_, fun q => absurd q (by decide)⟩)
  · refine sp_inL (fun _ => ⟨fun q => absurd rfl q, fun _ => h _⟩) (fun ha hb => ⟨fun _ => ?_, fun q => absurd q (by decide)⟩)
    rw [t10] at ha
    rw [t17] at hb
    obtain ⟨y, hy, e⟩ := z_nat (M := 18) (a := x) (by omega) (by omega) (by omega)
    subst e
    rw [nI_toInt (by omega)] at ha
    refine ⟨fun _ => ?_, fun q => absurd ((nI_leI (a := 3) (b := y) (by omega) (by omega)).mpr (by omega)) q⟩
    rw [show nI y - 7 = nI (y - 7) from nI_sub (b := 7) (by omega), ix11]
    exact ⟨vp_in_nI (by omega) (by omega), fun _ => h _, fun _ => h _⟩
  · rw [t0] at ha
    rw [t2] at hb
    obtain ⟨y, hy, e⟩ := z_nat (M := 3) (a := x) (by omega) (by omega) (by omega)
    subst e
    refine ⟨fun q => absurd ((nI_leI (a := 3) (b := y) (by omega) (by omega)).mp q) (by omega), fun _ => ?_⟩
    rw [ix11]
    exact ⟨vp_in_nI (by omega) (by omega), fun _ => h _, fun _ => h _⟩
theorem sp_depth {S : MST} {M : Nat} {a x : Int32} {Post : Int32 → Prop} (hM : S 0 0 = nI M) (hM8 : M ≤ 8) (hT : toldM S M) (h : ∀ r : Int32, Post r) : wp_X12_depth S a x Post := by
  unfold wp_X12_depth
  refine sp_isMethod hM hM8 (fun _ => ⟨fun _ => h _, fun q => absurd rfl q⟩) (fun m hm e => ⟨fun q => absurd q (by decide), fun _ => ?_⟩)
  subst e
  obtain ⟨_, _, n, _, _, _, _, _, hn, hn60, _⟩ := hT m hm
  have hv : vp_in (nI m) 8 := vp_in_nI (by omega) (by omega)
  rw [nI_clamp (n := m) (by omega), hn]
  refine ⟨hv, sp_in0 (n := n) (by omega) rfl (fun _ => ⟨fun q => absurd rfl q, fun _ => h _⟩) (fun i hi e => ⟨fun _ => ⟨hv, fun _ => h _, fun _ => ?_⟩, fun q => absurd q (by decide)⟩)⟩
  subst e
  rw [ix60]
  exact ⟨vp_in_nI (by omega) (by omega), h _⟩
/-- a number from 0 below n -/
theorem sp_field {S : MST} {a : Int32} {Post : Int32 → Prop} (h : ∀ r : Int32, Post r) : wp_X12_field S a Post := by
  unfold wp_X12_field
  have t0 : (0 : Int64).toInt = 0 := by decide
  have t7 : (7 : Int64).toInt = 7 := by decide
  refine sp_inL (fun _ => ⟨fun _ => h _, fun q => absurd rfl q⟩) (fun ha hb => ⟨fun q => absurd q (by decide), fun _ => ?_⟩)
  obtain ⟨y, hy, e⟩ := z_nat (M := 8) (a := a) (by omega) (by omega) (by omega)
  subst e
  exact ⟨vp_in_nI (by omega) (by omega), h _⟩
theorem sp_size {S : MST} {a : Int32} {Post : Int32 → Prop} (h : ∀ r : Int32, Post r) : wp_X12_size S a Post := by
  unfold wp_X12_size
  have t0 : (0 : Int64).toInt = 0 := by decide
  have t3 : (3 : Int64).toInt = 3 := by decide
  refine sp_inL (fun _ => ⟨fun _ => h _, fun q => absurd rfl q⟩) (fun ha hb => ⟨fun q => absurd q (by decide), fun _ => ?_⟩)
  obtain ⟨y, hy, e⟩ := z_nat (M := 4) (a := a) (by omega) (by omega) (by omega)
  subst e
  exact ⟨vp_in_nI (by omega) (by omega), h _⟩
theorem sp_trap {S : MST} {a : Int32} {Post : Int32 → Prop} (h : ∀ r : Int32, Post r) : wp_X12_trap S a Post := by
  unfold wp_X12_trap
  have t0 : (0 : Int64).toInt = 0 := by decide
  have t3 : (3 : Int64).toInt = 3 := by decide
  refine sp_inL (fun _ => ⟨fun _ => h _, fun q => absurd rfl q⟩) (fun ha hb => ⟨fun q => absurd q (by decide), fun _ => ?_⟩)
  obtain ⟨y, hy, e⟩ := z_nat (M := 4) (a := a) (by omega) (by omega) (by omega)
  subst e
  exact ⟨vp_in_nI (by omega) (by omega), h _⟩
theorem sp_count {S : MST} {a : Int32} {Post : Int32 → Prop} (h : ∀ r : Int32, Post r) : wp_X12_count S a Post := by
  unfold wp_X12_count
  exact ⟨fun _ => h _, fun _ => h _, fun _ => h _, fun _ => h _, fun _ => h _, fun _ => h _, fun _ => h _⟩
theorem sp_item {S : MST} {a b : Int32} {Post : Int32 → Prop} (hR : rowN S) (h : ∀ r : Int32, Post r) : wp_X12_item S a b Post := by
  unfold wp_X12_item
  have t0 : (0 : Int64).toInt = 0 := by decide
  have t3 : (3 : Int64).toInt = 3 := by decide
  refine sp_inL (fun _ => ⟨fun _ => h _, fun q => absurd rfl q⟩) (fun ha hb => ⟨fun q => absurd q (by decide), fun _ => ?_⟩)
  obtain ⟨y, hy, e⟩ := z_nat (M := 4) (a := a) (by omega) (by omega) (by omega)
  subst e
  rw [nI_clamp (n := y) (by omega)]
  refine ⟨vp_in_nI (by omega) (by omega), ?_⟩
  rcases hR y hy with q | ⟨k, hk, q⟩
  · rw [q]
    refine sp_inL (lo := 0) (hi := ((-1 - 1 : Int32)).toInt64) (fun _ => ⟨fun _ => h _, fun q => absurd rfl q⟩) (fun ha hb => ?_)
    have e1 : (((-1 - 1 : Int32)).toInt64).toInt = -2 := by decide
    omega
  · rw [q]
    refine sp_in0 (n := k) (by omega) rfl (fun _ => ⟨fun _ => h _, fun q => absurd rfl q⟩) (fun i hi e => ⟨fun q => absurd q (by decide), fun _ => ?_⟩)
    subst e
    rw [ix20]
    exact ⟨vp_in_nI (by omega) (by omega), h _⟩
