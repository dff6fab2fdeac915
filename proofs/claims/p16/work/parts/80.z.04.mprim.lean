/-! THE REFERENCE in a run: the small methods, exactly -/
def TrM (S S' : MST) (no m i F : Int32) : Prop := Fm [43, 50] S S' ∧ S' 43 0 = 1 ∧ S' 50 0 = no ∧ S' 50 1 = m ∧ S' 50 2 = i ∧ S' 50 3 = F
theorem mr_traps {S : MST} {f : Nat} {no i m : Int32} {Post : MST → Prop} (h37 : S 37 0 = nI (f + 1)) (hf : f < 16) (h38 : S 38 f = m) (h : ∀ S' : MST, TrM S S' no m i (nI (f + 1)) → Post S') : wp_X12_traps S no i Post := by
  have c0 : (0 : Int32).toNatClampNeg = 0 := by decide
  have c1 : (1 : Int32).toNatClampNeg = 1 := by decide
  have c2 : (2 : Int32).toNatClampNeg = 2 := by decide
  have c3 : (3 : Int32).toNatClampNeg = 3 := by decide
  unfold wp_X12_traps
  rw [c0, c1, c2, c3]
  intro S1 e1
  refine ⟨by unfold vp_in; decide, fun S2 e2 => ?_⟩
  have g2 : ∀ k : Nat, k ≠ 43 → k ≠ 50 → S2 k = S k := fun k a b => by rw [e2, ms_n _ _ b, e1, ms_n _ _ a]
  rw [g2 37 (by decide) (by decide), h37, nI_m1 (by omega), show f + 1 - 1 = f by omega, nI_clamp (n := f) (by omega), g2 38 (by decide) (by decide), h38]
  refine ⟨vp_in_nI hf (by omega), by unfold vp_in; decide, fun S4 e4 => ⟨by unfold vp_in; decide, fun S5 e5 => ?_⟩⟩
  have g5 : S5 37 0 = nI (f + 1) := by rw [e5, ms_n _ _ (by decide), e4, ms_n _ _ (by decide), g2 37 (by decide) (by decide)]; exact h37
  rw [g5]
  refine ⟨by unfold vp_in; decide, fun S6 e6 => h S6 ⟨Fm.put e6 rfl (Fm.put e5 rfl (Fm.put e4 rfl (Fm.put e2 rfl (Fm.put e1 rfl Fm.rf)))), ?_, ?_, ?_, ?_, ?_⟩⟩
  · rw [e6, ms_n _ _ (by decide), e5, ms_n _ _ (by decide), e4, ms_n _ _ (by decide), e2, ms_n _ _ (by decide), e1, ms_s]
  · rw [e6, ms_s, upd_n _ _ (by decide), e5, ms_s, upd_n _ _ (by decide), e4, ms_s, upd_n _ _ (by decide), e2, ms_s, upd_s]
  · rw [e6, ms_s, upd_n _ _ (by decide), e5, ms_s, upd_n _ _ (by decide), e4, ms_s, upd_s]
  · rw [e6, ms_s, upd_n _ _ (by decide), e5, ms_s, upd_s]
  · rw [e6, ms_s, upd_s]
theorem mr_mr23 {S0 : MST} {r n : Nat} {K : MST → Prop} {Post : MST → Int32 → Prop} (hr : r < 4) (hn : n ≤ 20) (h : ∀ S : MST, Fm [14] S0 S → (∀ t : Nat, S 14 t = if 20 * r ≤ t ∧ t < 20 * r + n then 0 else S0 14 t) → K S) : ∀ (k j : Nat) (S : MST), j + k = n → Fm [14] S0 S → (∀ t : Nat, S 14 t = if 20 * r ≤ t ∧ t < 20 * r + j then 0 else S0 14 t) → wl_X12_makesRow_23 K Post (k + 1) S (nI r) (nI n) (nI j) := by
  intro k
  induction k with
  | zero =>
    intro j S hj hE hz
    unfold wl_X12_makesRow_23
    obtain rfl : j = n := by omega
    exact ⟨fun _ => h S hE hz, fun c => absurd (nI_le (Nat.le_refl _) (by omega)) c⟩
  | succ k ih =>
    intro j S hj hE hz
    unfold wl_X12_makesRow_23
    rw [ix20, nI_1, nI_clamp (n := 20 * r + j) (by omega)]
    refine ⟨fun c => absurd c (nI_ge (by omega) (by omega)), fun _ => ⟨vp_in_nI (by omega) (by omega), fun S5 e5 => ih (j + 1) S5 (by omega) (Fm.put e5 rfl hE) (fun t => ?_)⟩⟩
    rw [e5, ms_s]
    by_cases w : t = 20 * r + j
    · rw [w, upd_s, if_pos (by omega)]
    · rw [upd_n _ _ w, hz t]
      by_cases c : 20 * r ≤ t ∧ t < 20 * r + j
      · rw [if_pos c, if_pos (by omega)]
      · rw [if_neg c, if_neg (by omega)]
theorem mr_makesRow {S : MST} {r : Nat} {a : Int32} {Post : MST → Int32 → Prop} (hr : r < 4) (h4 : a < 0 → Post S 4) (h5 : ¬ a < 0 → 20 < a → Post S 5) (h : ∀ (n : Nat) (S' : MST), n ≤ 20 → a = nI n → Fm [13, 14] S S' → S' 13 = upd (S 13) r (nI n) → (∀ t : Nat, S' 14 t = if 20 * r ≤ t ∧ t < 20 * r + n then 0 else S 14 t) → Post S' 0) : wp_X12_makesRow S (nI r) a Post := by
  unfold wp_X12_makesRow
  rw [nI_clamp (n := r) (by omega)]
  refine ⟨fun q => ⟨fun q2 => ⟨vp_in_nI hr (by omega), fun S3 e3 => ?_⟩, fun q2 => h5 (Int32.not_lt.mpr q) (Int32.not_le.mp q2)⟩, fun q => h4 (Int32.not_le.mp q)⟩
  obtain ⟨n, rfl, hn⟩ := nI_ofc (Int32.not_lt.mpr q)
  have hn20 : n ≤ 20 := Nat.not_lt.mp (fun w => nI_ge (b := n) (a := 20) w (by omega) q2)
  refine ⟨n + 1, mr_mr23 (S0 := S3) hr hn20 (fun S' hE hz => h n S' hn20 rfl (Fm.step hE (by decide) (Fm.put e3 rfl Fm.rf)) ?_ (fun t => ?_)) n 0 S3 (by omega) Fm.rf (fun t => by rw [if_neg (by omega)])⟩
  · rw [hE 13 rfl, e3, ms_s]
  · rw [hz t, e3, ms_n _ _ (by decide)]
theorem mr_refuses {S : MST} {r : Nat} {a : Int32} {Post : Int32 → Prop} (hr : r < 4) (hR : rowN S) (h2 : S 13 r = -1 → Post 2) (h3 : ∀ n : Nat, n ≤ 20 → S 13 r = nI n → (∀ i : Nat, i < n → ¬ a = nI i) → Post 3) (h : ∀ i n : Nat, i < n → n ≤ 20 → S 13 r = nI n → a = nI i → Post 0) : wp_X12_refuses S (nI r) a Post := by
  unfold wp_X12_refuses
  have hv : vp_in (nI r) 4 := vp_in_nI hr (by omega)
  rw [nI_clamp (n := r) (by omega)]
  rcases hR r hr with w | ⟨n, hn, w⟩
  · rw [w]
    exact ⟨hv, fun q => absurd q (by decide), fun _ => h2 w⟩
  · rw [w]
    refine ⟨hv, fun q => ⟨hv, sp_in0 (n := n) (by omega) rfl (fun q => ⟨fun _ => h3 n hn w (z_out (by omega) q), fun q => absurd rfl q⟩) (fun i hi e => ⟨fun q => absurd q (by decide), fun _ => h i n hi hn w e⟩)⟩, fun q => absurd (nI_pos' (by omega)) q⟩
/-- what a call is given is remembered; g: its ARGS and all FIELDS -/
def reV (S0 : MST) (m t : Nat) (v : Int32) : Int32 := if S0 16 m = 0 then v else S0 20 (11 * m + t)
def reL (S0 : MST) (m t : Nat) (v : Int32) : Int32 := if S0 16 m = 0 then 1 else if S0 21 (11 * m + t) = 0 then 0 else if S0 20 (11 * m + t) = v then 1 else 0
/-- the state ahead of thing j -/
def ReI (S0 S : MST) (m j : Nat) (g : Nat → Int32) : Prop := Fm [20, 21] S0 S ∧ (∀ t : Nat, t < j → S 20 (11 * m + t) = reV S0 m t (g t) ∧ S 21 (11 * m + t) = reL S0 m t (g t)) ∧ (∀ q : Nat, (q < 11 * m ∨ 11 * m + j ≤ q) → S 20 q = S0 20 q ∧ S 21 q = S0 21 q)
theorem ReI.put {S0 S S' : MST} {m j : Nat} {g : Nat → Int32} (h : ReI S0 S m j g) (e : Fm [20, 21] S S') (e20 : S' 20 = upd (S 20) (11 * m + j) (reV S0 m j (g j))) (e21 : S' 21 = upd (S 21) (11 * m + j) (reL S0 m j (g j))) : ReI S0 S' m (j + 1) g := by
  obtain ⟨a, b, c⟩ := h
  refine ⟨Fm.step e (by decide) a, fun t ht => ?_, fun q hq => ?_⟩
  · rw [e20, e21]
    by_cases w : t = j
    · rw [w, upd_s, upd_s]; exact ⟨rfl, rfl⟩
    · rw [upd_n _ _ (by omega), upd_n _ _ (by omega)]; exact b t (by omega)
  · rw [e20, e21, upd_n _ _ (by omega), upd_n _ _ (by omega)]; exact c q (by omega)
/-- the same state, where nothing is written to the values -/
theorem upd_id (f : Nat → Int32) (k : Nat) : upd f k (f k) = f := funext fun j => by
  by_cases w : j = k
  · rw [w, upd_s]
  · rw [upd_n _ _ w]
