/-! putting a METHOD into CODE, in the reference: parts are laid one behind another -/
/-- a PART's operands are in their ranges; m is its METHOD, w its INSTRUCTION -/
def pv (S : MST) (M m n : Nat) (o d a b w : Int32) : Prop := ∃ (o' i : Nat), o' < 19 ∧ o = nI o' ∧ w = nI i ∧ i < n ∧ (¬ S 7 (60 * m + i) = -1) ∧
  ((o' = 0 ∨ o' = 1 ∨ (2 ≤ o' ∧ o' ≤ 7) ∨ o' = 12 ∨ o' = 15) → ∃ x : Nat, x < 15 ∧ d = nI x) ∧
  ((o' = 1 ∨ (2 ≤ o' ∧ o' ≤ 7) ∨ o' = 9 ∨ o' = 11 ∨ o' = 13 ∨ o' = 14 ∨ o' = 16) → ∃ x : Nat, x < 15 ∧ a = nI x) ∧
  (((2 ≤ o' ∧ o' ≤ 7) ∨ o' = 15 ∨ o' = 16) → ∃ x : Nat, x < 15 ∧ b = nI x) ∧
  ((o' = 8 ∨ o' = 9) → ∃ x : Nat, x < n ∧ d = nI x ∧ ¬ S 7 (60 * m + x) = -1) ∧
  (o' = 10 → ∃ (y x ax : Nat), y < M ∧ a = nI y ∧ S 1 y = nI ax ∧ ax ≤ 3 ∧ d = nI x ∧ x + ax ≤ 15 ∧ x < 15 ∧ i + 1 < n ∧ ¬ S 7 (60 * m + (i + 1)) = -1) ∧
  (o' = 12 → ∃ x : Nat, x < 8 ∧ a = nI x) ∧ (o' = 15 → ∃ x : Nat, x < 4 ∧ a = nI x) ∧ (o' = 13 → ∃ x : Nat, x < 8 ∧ d = nI x) ∧ ((o' = 14 ∨ o' = 16) → ∃ x : Nat, x < 4 ∧ d = nI x) ∧ (o' = 17 → ∃ x : Nat, x < 3 ∧ d = nI x) ∧ (o' = 18 → ∃ x : Nat, x < 8 ∧ d = nI x)
theorem pv_same {S S' : MST} {M m n : Nat} {o d a b w : Int32} (h1 : S' 1 = S 1) (h7 : S' 7 = S 7) (h : pv S M m n o d a b w) : pv S' M m n o d a b w := by
  unfold pv at h ⊢
  rw [h1, h7]
  exact h
/-- a GUARD's thing is assumed -/
def gd (S : MST) (o d : Int32) : Prop := (∀ x : Nat, x < 15 → o = nI 17 → d = nI x → ¬ S 30 x = 0) ∧ (∀ x : Nat, x < 15 → o = nI 18 → d = nI x → ¬ S 30 (3 + x) = 0)
/-- from S with P parts of code c to S' with P' parts: what is laid belongs to INSTRUCTION own of METHOD m and is in range; all else as it was -/
def GR (M m n c own : Nat) (S : MST) (P : Nat) (S' : MST) (P' : Nat) : Prop :=
  P ≤ P' ∧ (∀ k : Nat, k ≠ 23 → k ≠ 25 → k ≠ 26 → k ≠ 27 → k ≠ 28 → k ≠ 29 → k ≠ 33 → k ≠ 34 → k ≠ 35 → k ≠ 36 → S' k = S k) ∧ (∀ k t : Nat, 25 ≤ k → k ≤ 29 → (t < 640 * c + P ∨ 640 * c + 640 ≤ t) → S' k t = S k t) ∧ (∀ j : Nat, j ≠ c → S' 23 j = S 23 j) ∧ S' 23 c = nI P' ∧
  (∀ p : Nat, P ≤ p → p < P' → pv S M m n (S' 25 (640 * c + p)) (S' 26 (640 * c + p)) (S' 27 (640 * c + p)) (S' 28 (640 * c + p)) (nI own) ∧ S' 29 (640 * c + p) = nI own ∧ gd S (S' 25 (640 * c + p)) (S' 26 (640 * c + p)))
theorem GR.rf {M m n c own : Nat} {S : MST} {P : Nat} (h : S 23 c = nI P) : GR M m n c own S P S P := ⟨Nat.le_refl _, fun _ _ _ _ _ _ _ _ _ _ _ => rfl, fun _ _ _ _ _ => rfl, fun _ _ => rfl, h, fun p a b => absurd a (by omega)⟩
theorem GR.keep {M m n c own : Nat} {S S' : MST} {P P' : Nat} (h : GR M m n c own S P S' P') : S' 1 = S 1 ∧ S' 3 = S 3 ∧ S' 4 = S 4 ∧ S' 5 = S 5 ∧ S' 7 = S 7 ∧ S' 20 = S 20 ∧ S' 30 = S 30 ∧ S' 31 = S 31 ∧ S' 32 = S 32 ∧ S' 24 = S 24 ∧ S' 2 = S 2 := by
  have g := h.2.1
  refine ⟨g 1 ?_ ?_ ?_ ?_ ?_ ?_ ?_ ?_ ?_ ?_, g 3 ?_ ?_ ?_ ?_ ?_ ?_ ?_ ?_ ?_ ?_, g 4 ?_ ?_ ?_ ?_ ?_ ?_ ?_ ?_ ?_ ?_, g 5 ?_ ?_ ?_ ?_ ?_ ?_ ?_ ?_ ?_ ?_, g 7 ?_ ?_ ?_ ?_ ?_ ?_ ?_ ?_ ?_ ?_, g 20 ?_ ?_ ?_ ?_ ?_ ?_ ?_ ?_ ?_ ?_, g 30 ?_ ?_ ?_ ?_ ?_ ?_ ?_ ?_ ?_ ?_, g 31 ?_ ?_ ?_ ?_ ?_ ?_ ?_ ?_ ?_ ?_, g 32 ?_ ?_ ?_ ?_ ?_ ?_ ?_ ?_ ?_ ?_, g 24 ?_ ?_ ?_ ?_ ?_ ?_ ?_ ?_ ?_ ?_, g 2 ?_ ?_ ?_ ?_ ?_ ?_ ?_ ?_ ?_ ?_⟩ <;> decide
theorem GR.tr {M m n c own : Nat} {S S1 S2 : MST} {P P1 P2 : Nat} (h : GR M m n c own S P S1 P1) (g : GR M m n c own S1 P1 S2 P2) (hP : P2 ≤ 640) : GR M m n c own S P S2 P2 := by
  obtain ⟨k1, -, -, -, k7, -, k30, -⟩ := h.keep
  refine ⟨Nat.le_trans h.1 g.1, fun k a b c2 d e f i j l o => (g.2.1 k a b c2 d e f i j l o).trans (h.2.1 k a b c2 d e f i j l o), fun k t a b ht => ?_, fun j hj => (g.2.2.2.1 j hj).trans (h.2.2.2.1 j hj), g.2.2.2.2.1, fun p ha hb => ?_⟩
  · have hh := h.1
    rw [g.2.2.1 k t a b (by omega), h.2.2.1 k t a b ht]
  · rcases Nat.lt_or_ge p P1 with q | q
    · obtain ⟨w1, w2, w3⟩ := h.2.2.2.2.2 p ha q
      have e : ∀ k : Nat, 25 ≤ k → k ≤ 29 → S2 k (640 * c + p) = S1 k (640 * c + p) := fun k a b => g.2.2.1 k _ a b (by omega)
      rw [e 25 (by omega) (by omega), e 26 (by omega) (by omega), e 27 (by omega) (by omega), e 28 (by omega) (by omega), e 29 (by omega) (by omega)]
      exact ⟨w1, w2, w3⟩
    · obtain ⟨w1, w2, w3⟩ := g.2.2.2.2.2 p q hb
      refine ⟨pv_same k1.symm k7.symm w1, w2, ?_⟩
      unfold gd at w3 ⊢
      rw [k30] at w3
      exact w3
/-- places of the PILE that are known -/
def kn (S : MST) : Nat := sN (fun j => if S 35 j = 0 then 0 else 1) 9
theorem kn_le (S : MST) : kn S ≤ 9 := Nat.le_trans (sN_const (c := 1) 9 (fun i _ => by
  show (if S 35 i = 0 then 0 else 1) ≤ 1
  split <;> omega)) (by omega)
theorem kn_eq {S S' : MST} (h : S' 35 = S 35) : kn S' = kn S := by unfold kn; rw [h]
theorem kn_off {S : MST} {f : Nat → Int32} {j : Nat} (hj : j < 9) (h : ¬ S 35 j = 0) (S' : MST) (e : S' 35 = upd f j 0) (hf : f = S 35) : kn S' + 1 ≤ kn S := by
  subst hf
  unfold kn
  rw [e]
  refine sN_lt 9 (fun i _ => ?_) j hj ?_
  · by_cases q : i = j
    · subst q; rw [upd_s, if_pos rfl]; exact Nat.zero_le _
    · rw [upd_n _ _ q]; exact Nat.le_refl _
  · rw [upd_s, if_pos rfl, if_neg h]; omega
theorem kn_off' {S S' : MST} {j : Nat} (e : S' 35 = upd (S 35) j 0) : kn S' ≤ kn S := by
  unfold kn
  rw [e]
  refine sN_le 9 (fun i _ => ?_)
  by_cases q : i = j
  · subst q; rw [upd_s, if_pos rfl]; exact Nat.zero_le _
  · rw [upd_n _ _ q]; exact Nat.le_refl _
theorem sN_up1 {f g : Nat → Nat} {j : Nat} : ∀ (n : Nat), (∀ i : Nat, i < n → i ≠ j → f i ≤ g i) → (j < n → f j ≤ g j + 1) → sN f n ≤ sN g n + 1
  | 0, _, _ => by simp [sN]
  | n + 1, h, h2 => by
    simp only [sN]
    by_cases q : n = j
    · subst q
      have h3 := sN_le n (fun i hi => h i (by omega) (by omega))
      have := h2 (by omega)
      omega
    · have h3 := sN_up1 (f := f) (g := g) (j := j) n (fun i hi => h i (by omega)) (fun hj => h2 (by omega))
      have := h n (by omega) q
      omega
theorem kn_on {S S' : MST} {j : Nat} {x : Int32} (e : S' 35 = upd (S 35) j x) : kn S' ≤ kn S + 1 := by
  unfold kn
  rw [e]
  refine sN_up1 (j := j) 9 (fun i _ q => by rw [upd_n _ _ q]; exact Nat.le_refl _) (fun _ => ?_)
  split <;> omega
theorem sp_part {M m n c own P : Nat} {S : MST} {o d a b : Int32} {Post : MST → Prop} (h31 : S 31 0 = nI c) (hc : c < 96) (h23 : S 23 c = nI P) (hP : P < 640) (h32 : S 32 0 = nI own) (hv : pv S M m n o d a b (nI own)) (hg : gd S o d)
    (h : ∀ S' : MST, GR M m n c own S P S' (P + 1) → S' 35 = S 35 → S' 25 (640 * c + P) = o → S' 33 = S 33 → S' 34 = S 34 → S' 36 = S 36 → Post S') : wp_X12_part S o d a b Post := by
  unfold wp_X12_part
  have hcc : (nI c).toNatClampNeg = c := nI_clamp (by omega)
  have hcp : (nI (640 * c + P)).toNatClampNeg = 640 * c + P := nI_clamp (by omega)
  have hvp : vp_in (nI (640 * c + P)) 61440 := vp_in_nI (by omega) (by omega)
  rw [h31, hcc, h23, ix640, hcp]
  refine ⟨vp_in_nI hc (by omega), hvp, fun S2 e2 => ⟨hvp, fun S3 e3 => ⟨hvp, fun S4 e4 => ⟨hvp, fun S5 e5 => ⟨hvp, fun S6 e6 => ?_⟩⟩⟩⟩⟩
  have g6 : ∀ k : Nat, k ≠ 25 → k ≠ 26 → k ≠ 27 → k ≠ 28 → k ≠ 29 → S6 k = S k := fun k q1 q2 q3 q4 q5 => by
    rw [e6, ms_n _ _ q5, e5, ms_n _ _ q4, e4, ms_n _ _ q3, e3, ms_n _ _ q2, e2, ms_n _ _ q1]
  have g31 : S6 31 0 = nI c := by rw [g6 31 (by decide) (by decide) (by decide) (by decide) (by decide)]; exact h31
  have g23 : S6 23 c = nI P := by rw [g6 23 (by decide) (by decide) (by decide) (by decide) (by decide)]; exact h23
  have g32 : S5 32 0 = nI own := by
    rw [e5, ms_n _ _ (show 32 ≠ 28 by decide), e4, ms_n _ _ (show 32 ≠ 27 by decide), e3, ms_n _ _ (show 32 ≠ 26 by decide), e2, ms_n _ _ (show 32 ≠ 25 by decide)]; exact h32
  have q25 : S6 25 = upd (S 25) (640 * c + P) o := by rw [e6, ms_n _ _ (show 25 ≠ 29 by decide), e5, ms_n _ _ (show 25 ≠ 28 by decide), e4, ms_n _ _ (show 25 ≠ 27 by decide), e3, ms_n _ _ (show 25 ≠ 26 by decide), e2, ms_s]
  have q26 : S6 26 = upd (S 26) (640 * c + P) d := by rw [e6, ms_n _ _ (show 26 ≠ 29 by decide), e5, ms_n _ _ (show 26 ≠ 28 by decide), e4, ms_n _ _ (show 26 ≠ 27 by decide), e3, ms_s, e2, ms_n _ _ (show 26 ≠ 25 by decide)]
  have q27 : S6 27 = upd (S 27) (640 * c + P) a := by rw [e6, ms_n _ _ (show 27 ≠ 29 by decide), e5, ms_n _ _ (show 27 ≠ 28 by decide), e4, ms_s, e3, ms_n _ _ (show 27 ≠ 26 by decide), e2, ms_n _ _ (show 27 ≠ 25 by decide)]
  have q28 : S6 28 = upd (S 28) (640 * c + P) b := by rw [e6, ms_n _ _ (show 28 ≠ 29 by decide), e5, ms_s, e4, ms_n _ _ (show 28 ≠ 27 by decide), e3, ms_n _ _ (show 28 ≠ 26 by decide), e2, ms_n _ _ (show 28 ≠ 25 by decide)]
  have q29 : S6 29 = upd (S 29) (640 * c + P) (nI own) := by rw [e6, ms_s, g32, e5, ms_n _ _ (show 29 ≠ 28 by decide), e4, ms_n _ _ (show 29 ≠ 27 by decide), e3, ms_n _ _ (show 29 ≠ 26 by decide), e2, ms_n _ _ (show 29 ≠ 25 by decide)]
  rw [g31, hcc, g23, nI_1]
  refine ⟨vp_in_nI hc (by omega), vp_in_nI hc (by omega), fun S8 e8 => ?_⟩
  have r : ∀ k : Nat, k ≠ 23 → S8 k = S6 k := fun k q => by rw [e8, ms_n _ _ q]
  have s23 : S8 23 = upd (S 23) c (nI (P + 1)) := by rw [e8, ms_s, g6 23 (by decide) (by decide) (by decide) (by decide) (by decide)]
  refine h S8 ⟨by omega, fun k x1 x2 x3 x4 x5 x6 _ _ _ _ => ?_, fun k t ha hb ht => ?_, fun j hj => by rw [s23, upd_n _ _ hj], by rw [s23, upd_s], fun p ha hb => ?_⟩ ?_ ?_ ?_ ?_ ?_
  · rw [r k x1, g6 k x2 x3 x4 x5 x6]
  · have hne : t ≠ 640 * c + P := by omega
    rw [r k (by omega)]
    rcases (show k = 25 ∨ k = 26 ∨ k = 27 ∨ k = 28 ∨ k = 29 by omega) with w | w | w | w | w
    · rw [w, q25, upd_n _ _ hne]
    · rw [w, q26, upd_n _ _ hne]
    · rw [w, q27, upd_n _ _ hne]
    · rw [w, q28, upd_n _ _ hne]
    · rw [w, q29, upd_n _ _ hne]
  · obtain rfl : p = P := by omega
    rw [r 25 (by decide), r 26 (by decide), r 27 (by decide), r 28 (by decide), r 29 (by decide), q25, q26, q27, q28, q29, upd_s, upd_s, upd_s, upd_s, upd_s]
    exact ⟨hv, rfl, hg⟩
  · rw [r 35 (by decide), g6 35 (by decide) (by decide) (by decide) (by decide) (by decide)]
  · rw [r 25 (by decide), q25, upd_s]
  · rw [r 33 (by decide), g6 33 (by decide) (by decide) (by decide) (by decide) (by decide)]
  · rw [r 34 (by decide), g6 34 (by decide) (by decide) (by decide) (by decide) (by decide)]
  · rw [r 36 (by decide), g6 36 (by decide) (by decide) (by decide) (by decide) (by decide)]
