/-! the run, in the reference: what it keeps -/
/-- how many things of METHOD y vary -/
def vN (S : MST) (y : Nat) : Nat := sN (fun t => if S 22 (11 * y + t) = 0 then 0 else 1) 11
theorem vN_le (S : MST) (y : Nat) : vN S y ≤ 11 := Nat.le_trans (sN_const (c := 1) 11 (fun i _ => by
  show (if S 22 (11 * y + i) = 0 then 0 else 1) ≤ 1
  split <;> omega)) (by omega)
/-- the codes of all METHODS; how often they were thrown away -/
def CI0 (S : MST) (M : Nat) : Prop := ∀ y : Nat, y < M → ∃ (n k : Nat), S 3 y = nI n ∧ n ≤ 60 ∧ S 17 y = nI k ∧ k ≤ 12 ∧ (∀ j : Nat, j < k → codeI S M y n (12 * y + j)) ∧ (S 15 y = 0 → k ≤ vN S y) ∧
  (¬ S 15 y = 0 → 1 ≤ k ∧ ∃ g : Nat → Bool, (∀ t : Nat, t < 11 → g t = true → ¬ S 22 (11 * y + t) = 0 ∧ ¬ guards S (12 * y + (k - 1)) t) ∧ k ≤ 1 + sN (fun t => if g t = true then 1 else 0) 11)
theorem codeI_same {S S' : MST} {M m n c : Nat} (h1 : S' 1 = S 1) (h7 : S' 7 = S 7) (h23 : S' 23 c = S 23 c) (h24 : ∀ t : Nat, 60 * c ≤ t → t < 60 * c + 60 → S' 24 t = S 24 t) (hp : ∀ k t : Nat, 25 ≤ k → k ≤ 29 → 640 * c ≤ t → t < 640 * c + 640 → S' k t = S k t) (hn : n ≤ 60) (h : codeI S M m n c) : codeI S' M m n c := by
  obtain ⟨N, N1, N6, e, hv, hs, hl⟩ := h
  have q : ∀ k p : Nat, 25 ≤ k → k ≤ 29 → p < N → S' k (640 * c + p) = S k (640 * c + p) := fun k p a b cc => hp k _ a b (by omega) (by omega)
  refine ⟨N, N1, N6, by rw [h23]; exact e, fun p hpN => ?_, fun x hx hlx => ?_, ?_⟩
  · rw [q 25 p (by omega) (by omega) hpN, q 26 p (by omega) (by omega) hpN, q 27 p (by omega) (by omega) hpN, q 28 p (by omega) (by omega) hpN, q 29 p (by omega) (by omega) hpN]
    exact pv_same h1 h7 (hv p hpN)
  · rw [h7] at hlx
    obtain ⟨s, s1, s2, s3⟩ := hs x hx hlx
    refine ⟨s, s1, by rw [h24 _ (by omega) (by omega)]; exact s2, fun p w hpN hw hw2 hwx => s3 p w hpN hw (by rw [← q 29 p (by omega) (by omega) hpN]; exact hw2) hwx⟩
  · rw [q 25 (N - 1) (by omega) (by omega) (by omega)]; exact hl
theorem guards_same {S S' : MST} {c y : Nat} (h23 : S' 23 c = S 23 c) (hp : ∀ k t : Nat, 25 ≤ k → k ≤ 29 → 640 * c ≤ t → t < 640 * c + 640 → S' k t = S k t) (h : guards S' c y) : guards S c y := by
  obtain ⟨N, p, hN, e, hpN, hcase⟩ := h
  have q : ∀ k : Nat, 25 ≤ k → k ≤ 29 → S' k (640 * c + p) = S k (640 * c + p) := fun k a b => hp k _ a b (by omega) (by omega)
  rw [q 25 (by omega) (by omega), q 26 (by omega) (by omega)] at hcase
  exact ⟨N, p, hN, by rw [← h23]; exact e, hpN, hcase⟩
theorem pv_mono {S : MST} {M M' m n : Nat} {o d a b w : Int32} (hM : M ≤ M') (h : pv S M m n o d a b w) : pv S M' m n o d a b w := by
  obtain ⟨o', i, h1, h2, h3, h4, h5, g0, g1, g2, g3, g4, g5, g6, g7, g8, g9, g10⟩ := h
  refine ⟨o', i, h1, h2, h3, h4, h5, g0, g1, g2, g3, fun q => ?_, g5, g6, g7, g8, g9, g10⟩
  obtain ⟨y, x, ax, y1, y2⟩ := g4 q
  exact ⟨y, x, ax, by omega, y2⟩
theorem CI0.make {S S' : MST} {M m n k : Nat} (h : CI0 S M) (hM8 : M ≤ 8) (hm : m < M) (hn : S 3 m = nI n) (hn60 : n ≤ 60) (hk : S 17 m = nI k) (hk12 : k < 12) (h15 : S 15 m = 0) (g : McR S M m n k S') : CI0 S' M := by
  obtain ⟨g1, g15, g17, gp, g23, g24, gc, gg⟩ := g
  have e3 : S' 3 = S 3 := g1 3 (by decide) (by decide) (by omega)
  have e1 : S' 1 = S 1 := g1 1 (by decide) (by decide) (by omega)
  have e7 : S' 7 = S 7 := g1 7 (by decide) (by decide) (by omega)
  have e22 : S' 22 = S 22 := g1 22 (by decide) (by decide) (by omega)
  intro y hy
  obtain ⟨ny, ky, y3, y60, y17, yk, yc, yz, ynz⟩ := h y hy
  have other : ∀ c : Nat, c ≠ 12 * m + k → codeI S M y ny c → codeI S' M y ny c := fun c hc hcI => codeI_same e1 e7 (g23 c hc) (fun t a b => g24 t (by omega)) (fun q t a b c1 c2 => gp q t a b (by omega)) y60 hcI
  have otherG : ∀ c t : Nat, c ≠ 12 * m + k → guards S' c t → guards S c t := fun c t hc hg => guards_same (g23 c hc) (fun q t a b c1 c2 => gp q t a b (by omega)) hg
  by_cases hym : y = m
  · subst hym
    obtain rfl : ny = n := nI_inj (y3.symm.trans hn) (by omega) (by omega)
    obtain rfl : ky = k := nI_inj (y17.symm.trans hk) (by omega) (by omega)
    refine ⟨ny, ky + 1, by rw [e3]; exact y3, y60, by rw [g17, upd_s], by omega, fun j hj => ?_, fun q => ?_, fun _ => ⟨by omega, fun t => decide (¬ S 22 (11 * y + t) = 0), fun t ht hgt => ?_, ?_⟩⟩
    · by_cases q : j = ky
      · rw [q]; exact gc
      · exact other _ (by omega) (yc j (by omega))
    · rw [g15, upd_s] at q
      exact absurd q (by decide)
    · have hv := of_decide_eq_true hgt
      refine ⟨by rw [e22]; exact hv, fun hg => hv (gg t ht ?_)⟩
      rw [show ky + 1 - 1 = ky by omega] at hg
      exact hg
    · have h1 := yz h15
      have h2 : vN S y ≤ sN (fun t => if decide (¬ S 22 (11 * y + t) = 0) = true then 1 else 0) 11 := sN_le 11 (fun t _ => by
        show (if S 22 (11 * y + t) = 0 then 0 else 1) ≤ (if decide (¬ S 22 (11 * y + t) = 0) = true then 1 else 0)
        by_cases q : S 22 (11 * y + t) = 0
        · rw [if_pos q]; exact Nat.zero_le _
        · rw [if_neg q, if_pos (decide_eq_true q)]; exact Nat.le_refl _)
      show ky + 1 ≤ 1 + sN (fun t => if decide (¬ S 22 (11 * y + t) = 0) = true then 1 else 0) 11
      omega
  · have e15 : S' 15 y = S 15 y := by rw [g15, upd_n _ _ hym]
    have e17 : S' 17 y = S 17 y := by rw [g17, upd_n _ _ hym]
    refine ⟨ny, ky, by rw [e3]; exact y3, y60, by rw [e17]; exact y17, yk, fun j hj => other _ (by omega) (yc j hj), fun q => ?_, fun q => ?_⟩
    · have := yz (by rw [← e15]; exact q)
      unfold vN at this ⊢
      rw [e22]
      exact this
    · obtain ⟨k1, gf, gf1, gf2⟩ := ynz (by rw [← e15]; exact q)
      refine ⟨k1, gf, fun t ht hgt => ?_, gf2⟩
      obtain ⟨a, b⟩ := gf1 t ht hgt
      exact ⟨by rw [e22]; exact a, fun w => b (otherG _ t (by omega) w)⟩
theorem CI0.same {S S' : MST} {M : Nat} (h : CI0 S M) (h1 : S' 1 = S 1) (h3 : S' 3 = S 3) (h7 : S' 7 = S 7) (h15 : S' 15 = S 15) (h17 : S' 17 = S 17) (h22 : S' 22 = S 22) (hp : ∀ k : Nat, 23 ≤ k → k ≤ 29 → S' k = S k) : CI0 S' M := by
  intro y hy
  obtain ⟨ny, ky, y3, y60, y17, yk, yc, yz, ynz⟩ := h y hy
  refine ⟨ny, ky, by rw [h3]; exact y3, y60, by rw [h17]; exact y17, yk, fun j hj => codeI_same h1 h7 (by rw [hp 23 (by omega) (by omega)]) (fun t _ _ => by rw [hp 24 (by omega) (by omega)]) (fun q t a b _ _ => by rw [hp q (by omega) b]) y60 (yc j hj), fun q => ?_, fun q => ?_⟩
  · have := yz (by rw [← h15]; exact q)
    unfold vN at this ⊢
    rw [h22]
    exact this
  · obtain ⟨k1, gf, gf1, gf2⟩ := ynz (by rw [← h15]; exact q)
    refine ⟨k1, gf, fun t ht hgt => ?_, gf2⟩
    obtain ⟨a, b⟩ := gf1 t ht hgt
    exact ⟨by rw [h22]; exact a, fun w => b (guards_same (by rw [hp 23 (by omega) (by omega)]) (fun q t a b _ _ => by rw [hp q (by omega) b]) w)⟩
/-- .. and METHODS that were not told have none -/
def CI (S : MST) (M : Nat) : Prop := CI0 S M ∧ ∀ y : Nat, M ≤ y → y < 8 → S 15 y = 0 ∧ S 17 y = 0
theorem CI.make {S S' : MST} {M m n k : Nat} (h : CI S M) (hM8 : M ≤ 8) (hm : m < M) (hn : S 3 m = nI n) (hn60 : n ≤ 60) (hk : S 17 m = nI k) (hk12 : k < 12) (h15 : S 15 m = 0) (g : McR S M m n k S') : CI S' M :=
  ⟨h.1.make hM8 hm hn hn60 hk hk12 h15 g, fun y hy hy8 => by
    rw [g.2.1, g.2.2.1, upd_n _ _ (show y ≠ m by omega), upd_n _ _ (show y ≠ m by omega)]
    exact h.2 y hy hy8⟩
theorem CI.same {S S' : MST} {M : Nat} (h : CI S M) (h1 : S' 1 = S 1) (h3 : S' 3 = S 3) (h7 : S' 7 = S 7) (h15 : S' 15 = S 15) (h17 : S' 17 = S 17) (h22 : S' 22 = S 22) (hp : ∀ k : Nat, 23 ≤ k → k ≤ 29 → S' k = S k) : CI S' M :=
  ⟨h.1.same h1 h3 h7 h15 h17 h22 hp, fun y hy hy8 => by rw [h15, h17]; exact h.2 y hy hy8⟩
theorem toldM_same {S S' : MST} {M : Nat} (h1 : S' 1 = S 1) (h2 : S' 2 = S 2) (h3 : S' 3 = S 3) (h4 : S' 4 = S 4) (h : toldM S M) : toldM S' M := by
  unfold toldM at h ⊢
  rw [h1, h2, h3, h4]
  exact h
theorem lookedM_same {S S' : MST} {M y : Nat} (h1 : S' 1 = S 1) (h2 : S' 2 = S 2) (h3 : S' 3 = S 3) (h4 : S' 4 = S 4) (h5 : S' 5 = S 5) (h7 : S' 7 = S 7) (h : lookedM S M y) : lookedM S' M y := by
  obtain ⟨l, n, a, b, c, d, e, f, g⟩ := h
  refine ⟨l, n, by rw [h2]; exact a, b, by rw [h3]; exact c, d, e, by rw [h7]; exact f, fun i hi => ?_⟩
  rw [h7]
  rcases g i hi with q | ⟨dd, q1, q2, q3⟩
  · exact Or.inl q
  · exact Or.inr ⟨dd, q1, q2, rightI_same h1 h4 h5 h7 q3⟩
/-- the METHODS, when all are looked over -/
def LkI (S : MST) (M : Nat) : Prop := (S 0 0 = nI M ∧ (∀ y : Nat, y < M → S 6 y = 1) ∧ ∀ y : Nat, M ≤ y → y < 8 → S 3 y = 0 ∧ S 6 y = 0) ∧ M ≤ 8 ∧ toldM S M ∧ ∀ y : Nat, y < M → lookedM S M y
theorem LkI.same {S S' : MST} {M : Nat} (h : LkI S M) (e : ∀ k : Nat, k ≤ 7 → S' k = S k) : LkI S' M :=
  ⟨by rw [e 0 (by omega), e 3 (by omega), e 6 (by omega)]; exact h.1, h.2.1, toldM_same (e 1 (by omega)) (e 2 (by omega)) (e 3 (by omega)) (e 4 (by omega)) h.2.2.1, fun y hy => lookedM_same (e 1 (by omega)) (e 2 (by omega)) (e 3 (by omega)) (e 4 (by omega)) (e 5 (by omega)) (e 7 (by omega)) (h.2.2.2 y hy)⟩
/-- what holds of the METHODS, the ROWS and the codes -/
def MB (S : MST) (M : Nat) : Prop := LkI S M ∧ rowN S ∧ CI S M
theorem MB.same {S S' : MST} {M : Nat} (h : MB S M) (e : ∀ k : Nat, k ≤ 7 → S' k = S k) (h13 : S' 13 = S 13) (h15 : S' 15 = S 15) (h17 : S' 17 = S 17) (hp : ∀ k : Nat, 22 ≤ k → k ≤ 29 → S' k = S k) : MB S' M := by
  refine ⟨h.1.same e, ?_, h.2.2.same (e 1 (by omega)) (e 3 (by omega)) (e 7 (by omega)) h15 h17 (hp 22 (by omega) (by omega)) (fun k a b => hp k (by omega) b)⟩
  unfold rowN
  rw [h13]
  exact h.2.1
