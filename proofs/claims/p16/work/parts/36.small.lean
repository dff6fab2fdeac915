/-! the run's small methods, in the reference -/
theorem sp_stepOn {S : MST} {n : Nat} {Post : MST → Int32 → Prop} (hs : S 44 0 = nI n) (hn : n ≤ 1500) (h1 : n < 1500 → Post (ms S 44 (fun _ => nI (n + 1))) 1) (h2 : n = 1500 → Post (ms S 43 (fun _ => 3)) 0) : wp_X12_stepOn S Post := by
  unfold wp_X12_stepOn
  rw [hs, nI_1]
  refine ⟨fun q S2 e2 => ?_, fun q S3 e3 => ?_⟩
  · rw [e2]
    refine h1 ?_
    rcases Nat.lt_or_ge n 1500 with w | w
    · exact w
    · exact absurd (congrArg nI (show n = 1500 by omega)) q
  · rw [e3]
    exact h2 (nI_inj (b := 1500) q (by omega) (by omega))
/-- what a TRAP leaves -/
def TrR (S S' : MST) : Prop := S' 43 0 = 1 ∧ ∀ k : Nat, k ≠ 43 → k ≠ 50 → S' k = S k
theorem sp_traps {S : MST} {F : Nat} {a b : Int32} {Post : MST → Prop} (hF : S 37 0 = nI F) (h1 : 1 ≤ F) (h16 : F ≤ 16) (h : ∀ S' : MST, TrR S S' → Post S') : wp_X12_traps S a b Post := by
  unfold wp_X12_traps
  intro S1 e1
  refine ⟨by unfold vp_in; decide, fun S2 e2 => ?_⟩
  have g2 : S2 37 0 = nI F := by rw [e2, ms_n _ _ (show 37 ≠ 50 by decide), e1, ms_n _ _ (show 37 ≠ 43 by decide)]; exact hF
  rw [g2, nI_m1 h1]
  refine ⟨vp_in_nI (by omega) (by omega), by unfold vp_in; decide, fun S4 e4 => ⟨by unfold vp_in; decide, fun S5 e5 => ⟨by unfold vp_in; decide, fun S6 e6 => h S6 ⟨?_, fun k x y => ?_⟩⟩⟩⟩
  · rw [e6, ms_n _ _ (show 43 ≠ 50 by decide), e5, ms_n _ _ (show 43 ≠ 50 by decide), e4, ms_n _ _ (show 43 ≠ 50 by decide), e2, ms_n _ _ (show 43 ≠ 50 by decide), e1, ms_s]
  · rw [e6, ms_n _ _ y, e5, ms_n _ _ y, e4, ms_n _ _ y, e2, ms_n _ _ y, e1, ms_n _ _ x]
theorem sp_mr23 {S0 : MST} {r n : Nat} {K : MST → Prop} {Post : MST → Int32 → Prop} (hr : r < 4) (hn : n ≤ 20) (h : ∀ S : MST, (∀ k : Nat, k ≠ 14 → S k = S0 k) → K S) : ∀ (k j : Nat), j + k = n → ∀ S : MST, (∀ k : Nat, k ≠ 14 → S k = S0 k) → wl_X12_makesRow_23 K Post (k + 1) S (nI r) (nI n) (nI j) := by
  intro k
  induction k with
  | zero =>
    intro j hj S hS
    unfold wl_X12_makesRow_23
    exact ⟨fun _ => h S hS, fun c => absurd (nI_le (by omega) (by omega)) c⟩
  | succ k ih =>
    intro j hj S hS
    unfold wl_X12_makesRow_23
    rw [ix20, nI_1]
    exact ⟨fun _ => h S hS, fun _ => ⟨vp_in_nI (by omega) (by omega), fun S5 e5 => ih (j + 1) (by omega) S5 (fun k hk => by rw [e5, ms_n _ _ hk]; exact hS k hk)⟩⟩
/-- what a ROW made leaves -/
def RwR (S : MST) (r n : Nat) (S' : MST) : Prop := S' 13 = upd (S 13) r (nI n) ∧ ∀ k : Nat, k ≠ 13 → k ≠ 14 → S' k = S k
theorem sp_makesRow {S : MST} {r : Nat} {a : Int32} {Post : MST → Int32 → Prop} (hr : r < 4) (h4 : Post S 4) (h5 : Post S 5) (h : ∀ (n : Nat) (S' : MST), n ≤ 20 → RwR S r n S' → Post S' 0) : wp_X12_makesRow S (nI r) a Post := by
  unfold wp_X12_makesRow
  refine ⟨fun q => ⟨fun q2 => ⟨vp_in_nI hr (by omega), fun S3 e3 => ?_⟩, fun _ => h5⟩, fun _ => h4⟩
  have t0 : (0 : Int32).toInt = 0 := by decide
  have t20 : (20 : Int32).toInt = 20 := by decide
  rw [Int32.le_iff_toInt_le, t0] at q
  rw [Int32.le_iff_toInt_le, t20] at q2
  obtain ⟨n, hn, e⟩ := z_nat (M := 21) (a := a) q (by omega) (by omega)
  subst e
  rw [nI_clamp (n := r) (by omega)] at e3
  refine ⟨n + 1, sp_mr23 (S0 := S3) hr (by omega) (fun S' hS => h n S' (by omega) ⟨?_, fun k x y => ?_⟩) n 0 (by omega) S3 (fun _ _ => rfl)⟩
  · rw [hS 13 (by decide), e3, ms_s]
  · rw [hS k y, e3, ms_n _ _ x]
theorem sp_refuses {S : MST} {r : Nat} {a : Int32} {Post : Int32 → Prop} (hr : r < 4) (hR : rowN S) (h2 : Post 2) (h3 : Post 3) (h : ∀ i n : Nat, i < n → n ≤ 20 → S 13 r = nI n → a = nI i → Post 0) : wp_X12_refuses S (nI r) a Post := by
  unfold wp_X12_refuses
  have hv : vp_in (nI r) 4 := vp_in_nI hr (by omega)
  rw [nI_clamp (n := r) (by omega)]
  refine ⟨hv, fun q => ⟨hv, ?_⟩, fun _ => h2⟩
  rcases hR r hr with w | ⟨n, hn, w⟩
  · rw [w] at q
    exact absurd q (by decide)
  · rw [w]
    exact sp_in0 (n := n) (by omega) rfl (fun _ => ⟨fun _ => h3, fun q => absurd rfl q⟩) (fun i hi e => ⟨fun q => absurd q (by decide), fun _ => h i n hi hn w e⟩)
theorem sp_sumOf {o a b : Int32} {Post : Int32 → Prop} (hb : o = 6 → ¬ b = 0) (h : ∀ r : Int32, Post r) : wp_X12_sumOf o a b Post := by
  unfold wp_X12_sumOf
  exact ⟨fun _ => ⟨fun _ => h _, fun _ => h _⟩, fun _ => h _, fun _ => h _, fun _ => h _, fun q => ⟨hb q, h _⟩, fun _ => ⟨fun _ => h _, fun _ => h _⟩⟩
theorem nI_d640 {a b : Nat} (ha : a < 2 ^ 31) (hb : b < 2 ^ 31) (h : nI a / 640 = nI b / 640) : a / 640 = b / 640 := by
  have e : ∀ {x : Nat}, x < 2 ^ 31 → nI x / 640 = nI (x / 640) := fun hx => (Int32.ofNat_div hx (show 640 < 2 ^ 31 by decide)).symm
  rw [e ha, e hb] at h
  exact nI_inj h (by omega) (by omega)
/-- whether a GUARD stands behind a CALL: if it says so, there is a CALL of the same INSTRUCTION in the same code -/
theorem sp_bc4 {S : MST} {p : Nat} {K : Int32 → Int32 → Prop} {Post : Int32 → Prop} (hp : p < 61440) (h0 : K (nI p) (-1)) (h1 : ∀ q : Nat, q < p → K (nI p) (nI q)) : ∀ (k : Nat), k ≤ p → wl_X12_isBehindCall_4 S K Post (k + 1) (nI p) (nI k - 1) := by
  intro k
  induction k with
  | zero =>
    intro hk
    unfold wl_X12_isBehindCall_4
    rw [show nI 0 - 1 = -1 by decide]
    exact ⟨fun _ => h0, fun q => absurd (show (-1 : Int32) < 0 by decide) q⟩
  | succ k ih =>
    intro hk
    unfold wl_X12_isBehindCall_4
    rw [nI_pred]
    have hv : vp_in (nI k) 61440 := vp_in_nI (by omega) (by omega)
    have hvp : vp_in (nI p) 61440 := vp_in_nI hp (by omega)
    refine ⟨fun q => absurd q (nI_pos (by omega)), fun _ => ⟨hv, fun _ => h1 k (by omega), fun _ => ⟨hv, hvp, fun _ => h1 k (by omega), fun _ => ⟨fun _ => h1 k (by omega), fun _ => ?_⟩⟩⟩⟩
    rw [show nI k + -1 = nI k - 1 by rw [Int32.sub_eq_add_neg]]
    exact ih (by omega)
theorem sp_isBehindCall {S : MST} {p : Nat} {Post : Int32 → Prop} (hp : p < 61440) (h0 : Post 0) (h1 : ∀ q : Nat, q < p → q / 640 = p / 640 → S 25 q = 10 → S 29 q = S 29 p → Post 1) : wp_X12_isBehindCall S (nI p) Post := by
  unfold wp_X12_isBehindCall
  have hcp : (nI p).toNatClampNeg = p := nI_clamp (by omega)
  have hvp : vp_in (nI p) 61440 := vp_in_nI hp (by omega)
  refine ⟨p + 1, sp_bc4 hp ?_ (fun q hq => ?_) p (Nat.le_refl _)⟩
  · exact ⟨fun _ => h0, fun q => absurd (show (-1 : Int32) < 0 by decide) q⟩
  · have hcq : (nI q).toNatClampNeg = q := nI_clamp (by omega)
    have hvq : vp_in (nI q) 61440 := vp_in_nI (by omega) (by omega)
    show (((nI q : Int32) < 0) → Post 0) ∧ _
    refine ⟨fun w => absurd w (nI_pos (by omega)), fun _ => ⟨fun _ => h0, fun w => ⟨hvq, fun _ => h0, fun w10 => ⟨hvq, hvp, fun _ => h0, fun w29 => ?_⟩⟩⟩⟩
    rw [hcq] at w10 w29
    rw [hcp] at w29
    exact h1 q hq (nI_d640 (by omega) (by omega) w) w10 w29
