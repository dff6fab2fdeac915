/-! between the calls: what holds of the reference, and that every call keeps it -/
theorem pv_gen {S S' : MST} {M M' m n : Nat} {o d a b w : Int32} (hn : n ≤ 60) (hM : M ≤ M') (h1 : ∀ y : Nat, y < M → S' 1 y = S 1 y) (h7 : ∀ i : Nat, i < 60 → S' 7 (60 * m + i) = S 7 (60 * m + i)) (h : pv S M m n o d a b w) : pv S' M' m n o d a b w := by
  obtain ⟨o', i, p1, p2, p3, p4, p5, g0, g1, g2, g3, g4, g5, g6, g7, g8, g9, g10⟩ := h
  refine ⟨o', i, p1, p2, p3, p4, by rw [h7 i (by omega)]; exact p5, g0, g1, g2, fun q => ?_, fun q => ?_, g5, g6, g7, g8, g9, g10⟩
  · obtain ⟨x, x1, x2, x3⟩ := g3 q
    exact ⟨x, x1, x2, by rw [h7 x (by omega)]; exact x3⟩
  · obtain ⟨y, x, ax, y1, y2, y3, y4, y5, y6, y7, y8, y9⟩ := g4 q
    exact ⟨y, x, ax, by omega, y2, by rw [h1 y y1]; exact y3, y4, y5, y6, y7, y8, by rw [h7 (i + 1) (by omega)]; exact y9⟩
theorem codeI_gen {S S' : MST} {M M' m n c : Nat} (hn : n ≤ 60) (hM : M ≤ M') (h1 : ∀ y : Nat, y < M → S' 1 y = S 1 y) (h7 : ∀ i : Nat, i < 60 → S' 7 (60 * m + i) = S 7 (60 * m + i)) (hp : ∀ k : Nat, 23 ≤ k → k ≤ 29 → S' k = S k) (h : codeI S M m n c) : codeI S' M' m n c := by
  obtain ⟨N, N1, N6, e, hv, hs, hl⟩ := h
  refine ⟨N, N1, N6, by rw [hp 23 (by omega) (by omega)]; exact e, fun p hpN => ?_, fun x hx hlx => ?_, by rw [hp 25 (by omega) (by omega)]; exact hl⟩
  · rw [hp 25 (by omega) (by omega), hp 26 (by omega) (by omega), hp 27 (by omega) (by omega), hp 28 (by omega) (by omega), hp 29 (by omega) (by omega)]
    exact pv_gen hn hM h1 h7 (hv p hpN)
  · rw [h7 x (by omega)] at hlx
    rw [hp 24 (by omega) (by omega), hp 29 (by omega) (by omega)]
    exact hs x hx hlx
def MI (S : MST) (M : Nat) : Prop := PI S M ∧ rowN S ∧ CI S M ∧ ∀ y : Nat, y < 8 → S 6 y = 0 → S 15 y = 0 ∧ S 17 y = 0
/-- CI over a change that no METHOD with codes sees -/
theorem CI.gen {S S' : MST} {M M' : Nat} (h : CI S M) (hM : M ≤ M') (hM8 : M' ≤ 8) (h1 : ∀ y : Nat, y < M → S' 1 y = S 1 y) (h15 : S' 15 = S 15) (h17 : S' 17 = S 17) (hp : ∀ k : Nat, 22 ≤ k → k ≤ 29 → S' k = S k)
    (hy : ∀ y : Nat, y < M' → (y < M ∧ S' 3 y = S 3 y ∧ ∀ i : Nat, i < 60 → S' 7 (60 * y + i) = S 7 (60 * y + i)) ∨ (S 15 y = 0 ∧ S 17 y = 0 ∧ ∃ n : Nat, S' 3 y = nI n ∧ n ≤ 60)) : CI S' M' := by
  refine ⟨fun y hyM => ?_, fun y hy1 hy8 => by rw [h15, h17]; exact h.2 y (by omega) hy8⟩
  rcases hy y hyM with ⟨a, b, c⟩ | ⟨a, b, n, c, d⟩
  · obtain ⟨ny, ky, y3, y60, y17, yk, yc, yz, ynz⟩ := h.1 y a
    refine ⟨ny, ky, by rw [b]; exact y3, y60, by rw [h17]; exact y17, yk, fun j hj => codeI_gen y60 hM h1 c (fun k p q => hp k (by omega) q) (yc j hj), fun q => ?_, fun q => ?_⟩
    · have := yz (by rw [← h15]; exact q)
      unfold vN at this ⊢
      rw [hp 22 (by omega) (by omega)]
      exact this
    · obtain ⟨k1, gf, gf1, gf2⟩ := ynz (by rw [← h15]; exact q)
      refine ⟨k1, gf, fun t ht hgt => ?_, gf2⟩
      obtain ⟨a, b⟩ := gf1 t ht hgt
      exact ⟨by rw [hp 22 (by omega) (by omega)]; exact a, fun w => b (guards_same (by rw [hp 23 (by omega) (by omega)]) (fun q t a b _ _ => by rw [hp q (by omega) b]) w)⟩
  · exact ⟨n, 0, c, d, by rw [h17, b]; rfl, by omega, fun j hj => absurd hj (by omega), fun _ => Nat.zero_le _, fun q => absurd (by rw [h15]; exact a) q⟩
theorem rightI_gen {S S' : MST} {M M' m l n i d : Nat} (hn : n ≤ 60) (hi : i < n) (hM : M ≤ M') (h1 : ∀ y : Nat, y < M → S' 1 y = S 1 y) (h4 : ∀ i : Nat, i < 60 → S' 4 (60 * m + i) = S 4 (60 * m + i)) (h5 : ∀ i : Nat, i < 60 → S' 5 (60 * m + i) = S 5 (60 * m + i)) (h7 : ∀ i : Nat, i < 60 → S' 7 (60 * m + i) = S 7 (60 * m + i)) (h : rightI S M m l n i d) : rightI S' M' m l n i d := by
  obtain ⟨o, ax, ho, ho4, hk, hax, ht, h8, hj, hnx⟩ := h
  refine ⟨o, ax, ho, by rw [h4 i (by omega)]; exact ho4, by rw [h5 i (by omega)]; exact okX_mono hk hM, fun q => ?_, ht, h8, fun q => ?_, fun a b => ?_⟩
  · obtain ⟨y, y1, y2, y3, y4⟩ := hax q
    exact ⟨y, by omega, by rw [h5 i (by omega)]; exact y2, by rw [h1 y y1]; exact y3, y4⟩
  · obtain ⟨y, y1, y2, y3⟩ := hj q
    exact ⟨y, y1, by rw [h5 i (by omega)]; exact y2, by rw [h7 y (by omega)]; exact y3⟩
  · obtain ⟨x1, x2⟩ := hnx a b
    exact ⟨x1, by rw [h7 (i + 1) (by omega)]; exact x2⟩
theorem lookedM_gen {S S' : MST} {M M' m : Nat} (hM : M ≤ M') (h1 : ∀ y : Nat, y < M → S' 1 y = S 1 y) (h2 : S' 2 m = S 2 m) (h3 : S' 3 m = S 3 m) (h4 : ∀ i : Nat, i < 60 → S' 4 (60 * m + i) = S 4 (60 * m + i)) (h5 : ∀ i : Nat, i < 60 → S' 5 (60 * m + i) = S 5 (60 * m + i)) (h7 : ∀ i : Nat, i < 60 → S' 7 (60 * m + i) = S 7 (60 * m + i)) (h : lookedM S M m) : lookedM S' M' m := by
  obtain ⟨l, n, a, b, c, d, e, f, g⟩ := h
  have f0 := h7 0 (by omega)
  rw [Nat.add_zero] at f0
  refine ⟨l, n, by rw [h2]; exact a, b, by rw [h3]; exact c, d, e, by rw [f0]; exact f, fun i hi => ?_⟩
  rw [h7 i (by omega)]
  rcases g i hi with q | ⟨dd, q1, q2, q3⟩
  · exact Or.inl q
  · exact Or.inr ⟨dd, q1, q2, rightI_gen e hi hM h1 h4 h5 h7 q3⟩
theorem mi_method {S : MST} {M : Nat} {a l : Int32} {Post : MST → Int32 → Prop} (h : MI S M) (hbad : zmeth a l = -2 → Post S (-2)) (hfull : zmeth a l = 0 → M = 8 → Post S (-4)) (hnew : zmeth a l = 0 → M < 8 → ∀ S' : MST, MI S' (M + 1) → Post S' (nI M)) : wp_X12_method S a l Post := by
  obtain ⟨⟨hM, hM8, hT, hlk, hz⟩, hR, hC, hN⟩ := h
  refine sp_method hM hM8 hbad hfull (fun q hM7 ax l' ea el h1 h2 h3 => hnew q hM7 _ ?_)
  have g : ∀ q : Nat, q ≠ 0 → q ≠ 1 → q ≠ 2 → mtS S M a l q = S q := fun q x y z => by unfold mtS; rw [ms_n _ _ x, ms_n _ _ z, ms_n _ _ y]
  have g0 : mtS S M a l 0 0 = nI (M + 1) := by unfold mtS; rw [ms_s]
  have g1 : mtS S M a l 1 = upd (S 1) M a := by unfold mtS; rw [ms_n _ _ (show 1 ≠ 0 by decide), ms_n _ _ (show 1 ≠ 2 by decide), ms_s]
  have g2 : mtS S M a l 2 = upd (S 2) M l := by unfold mtS; rw [ms_n _ _ (show 2 ≠ 0 by decide), ms_s]
  have e1 : ∀ y : Nat, y < M → mtS S M a l 1 y = S 1 y := fun y hy => by rw [g1, upd_n _ _ (by omega)]
  refine ⟨⟨g0, by omega, fun y hy => ?_, fun y hy => ?_, fun y hy hy8 => ?_⟩, ?_, ?_, ?_⟩
  · by_cases w : y = M
    · subst w
      refine ⟨ax, l', 0, by rw [g1, upd_s]; exact ea, h1, by rw [g2, upd_s]; exact el, h2, h3, by rw [g 3 (by decide) (by decide) (by decide), (hz y (Nat.le_refl _) hM7).1]; rfl, by omega, fun i hi => absurd hi (by omega)⟩
    · obtain ⟨bx, bl, n, c1, c2, c3, c4, c5, c6, c7, c8⟩ := hT y (by omega)
      exact ⟨bx, bl, n, by rw [g1, upd_n _ _ w]; exact c1, c2, by rw [g2, upd_n _ _ w]; exact c3, c4, c5, by rw [g 3 (by decide) (by decide) (by decide)]; exact c6, c7, by rw [g 4 (by decide) (by decide) (by decide)]; exact c8⟩
  · rw [g 6 (by decide) (by decide) (by decide)]
    by_cases w : y = M
    · subst w; exact Or.inl (hz y (Nat.le_refl _) hM7).2
    · rcases hlk y (by omega) with q | ⟨q1, q2⟩
      · exact Or.inl q
      · refine Or.inr ⟨q1, lookedM_gen (Nat.le_succ M) e1 (by rw [g2, upd_n _ _ w]) (by rw [g 3 (by decide) (by decide) (by decide)]) (fun i _ => by rw [g 4 (by decide) (by decide) (by decide)]) (fun i _ => by rw [g 5 (by decide) (by decide) (by decide)]) (fun i _ => by rw [g 7 (by decide) (by decide) (by decide)]) q2⟩
  · rw [g 3 (by decide) (by decide) (by decide), g 6 (by decide) (by decide) (by decide)]
    exact hz y (by omega) hy8
  · unfold rowN
    rw [g 13 (by decide) (by decide) (by decide)]
    exact hR
  · refine hC.gen (Nat.le_succ M) (by omega) e1 (g 15 (by decide) (by decide) (by decide)) (g 17 (by decide) (by decide) (by decide)) (fun k x y => g k (by omega) (by omega) (by omega)) (fun y hy => ?_)
    by_cases w : y = M
    · subst w
      have hz' := hC.2 y (Nat.le_refl _) hM7
      exact Or.inr ⟨hz'.1, hz'.2, 0, by rw [g 3 (by decide) (by decide) (by decide), (hz y (Nat.le_refl _) hM7).1]; rfl, by omega⟩
    · exact Or.inl ⟨by omega, by rw [g 3 (by decide) (by decide) (by decide)], fun i _ => by rw [g 7 (by decide) (by decide) (by decide)]⟩
  · rw [g 6 (by decide) (by decide) (by decide), g 15 (by decide) (by decide) (by decide), g 17 (by decide) (by decide) (by decide)]
    exact hN
theorem mi_write {S : MST} {M : Nat} {a o x : Int32} {Post : MST → Int32 → Prop} (h : MI S M) (hp : ∀ (S' : MST) (r : Int32), MI S' M → Post S' r) : wp_X12_write S a o x Post := by
  have h' := h
  obtain ⟨⟨hM, hM8, hT, hlk, hz⟩, hR, hC, hN⟩ := h'
  refine sp_write hM hM8 hT (hp S _ h) (fun _ _ _ _ => hp S _ h) (fun _ _ _ _ _ => hp S _ h) (fun m n o' hm ea h6 hn hn60 eo ho' => hp _ _ ?_)
  have g : ∀ q : Nat, q ≠ 3 → q ≠ 4 → q ≠ 5 → wrS S m n o x q = S q := fun q x y z => by unfold wrS; rw [ms_n _ _ x, ms_n _ _ z, ms_n _ _ y]
  have g3 : wrS S m n o x 3 = upd (S 3) m (nI (n + 1)) := by unfold wrS; rw [ms_s]
  have g4 : wrS S m n o x 4 = upd (S 4) (60 * m + n) o := by unfold wrS; rw [ms_n _ _ (show 4 ≠ 3 by decide), ms_n _ _ (show 4 ≠ 5 by decide), ms_s]
  have g5 : wrS S m n o x 5 = upd (S 5) (60 * m + n) x := by unfold wrS; rw [ms_n _ _ (show 5 ≠ 3 by decide), ms_s]
  have hz' := hN m (by omega) h6
  refine ⟨⟨by rw [g 0 (by decide) (by decide) (by decide)]; exact hM, hM8, fun y hy => ?_, fun y hy => ?_, fun y hy hy8 => ?_⟩, ?_, ?_, ?_⟩
  · obtain ⟨bx, bl, ny, c1, c2, c3, c4, c5, c6, c7, c8⟩ := hT y hy
    by_cases w : y = m
    · subst w
      obtain rfl : ny = n := nI_inj (c6.symm.trans hn) (by omega) (by omega)
      refine ⟨bx, bl, ny + 1, by rw [g 1 (by decide) (by decide) (by decide)]; exact c1, c2, by rw [g 2 (by decide) (by decide) (by decide)]; exact c3, c4, c5, by rw [g3, upd_s], by omega, fun i hi => ?_⟩
      by_cases v : i = ny
      · subst v; exact ⟨o', ho', by rw [g4, upd_s]; exact eo⟩
      · rw [g4, upd_n _ _ (by omega)]; exact c8 i (by omega)
    · refine ⟨bx, bl, ny, by rw [g 1 (by decide) (by decide) (by decide)]; exact c1, c2, by rw [g 2 (by decide) (by decide) (by decide)]; exact c3, c4, c5, by rw [g3, upd_n _ _ w]; exact c6, c7, fun i hi => ?_⟩
      rw [g4, upd_n _ _ (by omega)]; exact c8 i hi
  · rw [g 6 (by decide) (by decide) (by decide)]
    rcases hlk y hy with q | ⟨q1, q2⟩
    · exact Or.inl q
    · have w : y ≠ m := fun w => by
        subst w
        rw [q1] at h6
        exact absurd h6 (by decide)
      exact Or.inr ⟨q1, lookedM_gen (Nat.le_refl M) (fun y _ => by rw [g 1 (by decide) (by decide) (by decide)]) (by rw [g 2 (by decide) (by decide) (by decide)]) (by rw [g3, upd_n _ _ w]) (fun i hi => by rw [g4, upd_n _ _ (by omega)]) (fun i hi => by rw [g5, upd_n _ _ (by omega)]) (fun i _ => by rw [g 7 (by decide) (by decide) (by decide)]) q2⟩
  · rw [g3, upd_n _ _ (by omega), g 6 (by decide) (by decide) (by decide)]
    exact hz y hy hy8
  · unfold rowN
    rw [g 13 (by decide) (by decide) (by decide)]
    exact hR
  · refine hC.gen (Nat.le_refl M) hM8 (fun y _ => by rw [g 1 (by decide) (by decide) (by decide)]) (g 15 (by decide) (by decide) (by decide)) (g 17 (by decide) (by decide) (by decide)) (fun k x y => g k (by omega) (by omega) (by omega)) (fun y hy => ?_)
    by_cases w : y = m
    · subst w
      exact Or.inr ⟨hz'.1, hz'.2, n + 1, by rw [g3, upd_s], by omega⟩
    · exact Or.inl ⟨hy, by rw [g3, upd_n _ _ w], fun i _ => by rw [g 7 (by decide) (by decide) (by decide)]⟩
  · rw [g 6 (by decide) (by decide) (by decide), g 15 (by decide) (by decide) (by decide), g 17 (by decide) (by decide) (by decide)]
    exact hN
theorem mi_look {S : MST} {M : Nat} {a : Int32} {Post : MST → Int32 → Prop} (h : MI S M) (hp : ∀ (S' : MST) (r : Int32), MI S' M → Post S' r) : wp_X12_look S a Post := by
  have h' := h
  obtain ⟨hP, hR, hC, hN⟩ := h'
  refine sp_look hP (hp S _ h) (hp S _ h) (fun m S' r hm ea h6 hLk => hp S' r ?_)
  obtain ⟨hM, hM8, hT, hlk, hz⟩ := hP
  obtain ⟨g, g7, g6⟩ := hLk
  have hz' := hN m (by omega) h6
  have s : ∀ q : Nat, (q < 6 ∨ 10 < q) → S' q = S q := fun q hq => g q (by omega) (by omega) (by omega) (by omega) (by omega)
  have e6 : ∀ y : Nat, y ≠ m → S' 6 y = S 6 y := fun y hy => by
    rcases g6 with q | ⟨q, _⟩
    · rw [q]
    · rw [q, upd_n _ _ hy]
  refine ⟨⟨by rw [s 0 (by omega)]; exact hM, hM8, toldM_same (s 1 (by omega)) (s 2 (by omega)) (s 3 (by omega)) (s 4 (by omega)) hT, fun y hy => ?_, fun y hy hy8 => ?_⟩, ?_, ?_, fun y hy hy6 => ?_⟩
  · by_cases w : y = m
    · subst w
      rcases g6 with q | ⟨q, q2⟩
      · rw [q]; exact Or.inl h6
      · exact Or.inr ⟨by rw [q, upd_s], q2⟩
    · rw [e6 y w]
      rcases hlk y hy with q | ⟨q1, q2⟩
      · exact Or.inl q
      · exact Or.inr ⟨q1, lookedM_gen (Nat.le_refl M) (fun y _ => by rw [s 1 (by omega)]) (by rw [s 2 (by omega)]) (by rw [s 3 (by omega)]) (fun i _ => by rw [s 4 (by omega)]) (fun i _ => by rw [s 5 (by omega)]) (fun i hi => g7 _ (by omega)) q2⟩
  · rw [s 3 (by omega), e6 y (by omega)]
    exact hz y hy hy8
  · unfold rowN
    rw [s 13 (by omega)]
    exact hR
  · refine hC.gen (Nat.le_refl M) hM8 (fun y _ => by rw [s 1 (by omega)]) (s 15 (by omega)) (s 17 (by omega)) (fun k x y => s k (by omega)) (fun y hy => ?_)
    by_cases w : y = m
    · subst w
      obtain ⟨_, _, n, _, _, _, _, _, c6, c7, _⟩ := hT y hy
      exact Or.inr ⟨hz'.1, hz'.2, n, by rw [s 3 (by omega)]; exact c6, c7⟩
    · exact Or.inl ⟨hy, by rw [s 3 (by omega)], fun i hi => g7 _ (by omega)⟩
  · rw [s 15 (by omega), s 17 (by omega)]
    by_cases w : y = m
    · subst w; exact hz'
    · exact hN y hy (by rw [← e6 y w]; exact hy6)
/-- a change that MI doesn't read -/
theorem MI.same {S S' : MST} {M : Nat} (h : MI S M) (e : ∀ k : Nat, (k ≤ 7 ∨ (15 ≤ k ∧ k ≤ 29)) → S' k = S k) (hR : rowN S') : MI S' M := by
  obtain ⟨⟨hM, hM8, hT, hlk, hz⟩, _, hC, hN⟩ := h
  refine ⟨⟨by rw [e 0 (by omega)]; exact hM, hM8, toldM_same (e 1 (by omega)) (e 2 (by omega)) (e 3 (by omega)) (e 4 (by omega)) hT, fun y hy => ?_, by rw [e 3 (by omega), e 6 (by omega)]; exact hz⟩, hR, hC.same (e 1 (by omega)) (e 3 (by omega)) (e 7 (by omega)) (e 15 (by omega)) (e 17 (by omega)) (e 22 (by omega)) (fun k a b => e k (by omega)), by rw [e 6 (by omega), e 15 (by omega), e 17 (by omega)]; exact hN⟩
  rw [e 6 (by omega)]
  rcases hlk y hy with q | ⟨q1, q2⟩
  · exact Or.inl q
  · exact Or.inr ⟨q1, lookedM_same (e 1 (by omega)) (e 2 (by omega)) (e 3 (by omega)) (e 4 (by omega)) (e 5 (by omega)) (e 7 (by omega)) q2⟩
theorem mi_keep {S : MST} {M : Nat} {a v : Int32} {Post : MST → Int32 → Prop} (h : MI S M) (hp : ∀ (S' : MST) (r : Int32), MI S' M → Post S' r) : wp_X12_keep S a v Post :=
  sp_keep (hp S _ h) (fun f _ _ => hp _ _ (h.same (fun k _ => ms_n _ _ (by omega)) (by
    unfold rowN
    rw [ms_n _ _ (show 13 ≠ 12 by decide)]
    exact h.2.1)))
theorem mi_lose {S : MST} {M : Nat} {a : Int32} {Post : MST → Int32 → Prop} (h : MI S M) (hp : ∀ (S' : MST) (r : Int32), MI S' M → Post S' r) : wp_X12_lose S a Post :=
  sp_lose (hp S _ h) (fun r _ _ => hp _ _ (h.same (fun k _ => ms_n _ _ (by omega)) (fun t ht => by
    rw [ms_s]
    by_cases q : t = r
    · rw [q, upd_s]; exact Or.inl rfl
    · rw [upd_n _ _ q]; exact h.2.1 t ht)))
theorem mi_run {S : MST} {M : Nat} {a b c d : Int32} {Post : MST → Int32 → Prop} (h : MI S M) (hp : ∀ (S' : MST) (r : Int32), MI S' M → Post S' r) : wp_X12_run S a b c d Post := by
  refine sp_run h.1 h.2.1 h.2.2.1 (fun r => hp S r h) (fun S' r _ hMB => hp S' r ?_)
  obtain ⟨⟨⟨hM, h6, hz⟩, hM8, hT, hLk⟩, hR, hC⟩ := hMB
  refine ⟨⟨hM, hM8, hT, fun y hy => Or.inr ⟨h6 y hy, hLk y hy⟩, hz⟩, hR, hC, fun y hy hy6 => ?_⟩
  rcases Nat.lt_or_ge y M with q | q
  · rw [h6 y q] at hy6
    exact absurd hy6 (by decide)
  · exact hC.2 y q hy
theorem codN_of {S : MST} {M : Nat} (h : MI S M) : ∀ y : Nat, y < M → codN S y := by
  intro y hy
  obtain ⟨n, k, _, _, hk, hk12, hcod, _⟩ := h.2.2.1.1 y hy
  refine ⟨k, hk12, hk, fun j hj => ?_⟩
  obtain ⟨N, N1, N6, e, _⟩ := hcod j hj
  exact ⟨N, N1, N6, e⟩
theorem mi_field {S : MST} {a : Int32} {Post : Int32 → Prop} (h : ∀ r : Int32, Post r) : wp_X12_field S a Post := sp_field h
theorem mi_item {S : MST} {M : Nat} {a b : Int32} {Post : Int32 → Prop} (hI : MI S M) (h : ∀ r : Int32, Post r) : wp_X12_item S a b Post := sp_item hI.2.1 h
theorem mi_of {S : MST} {M : Nat} {a w : Int32} {Post : Int32 → Prop} (hI : MI S M) (h : ∀ r : Int32, Post r) : wp_X12_of S a w Post := sp_of hI.1.1 hI.1.2.1 (codN_of hI) h
theorem mi_part_ {S : MST} {M : Nat} {a b w : Int32} {Post : Int32 → Prop} (hI : MI S M) (h : ∀ r : Int32, Post r) : wp_X12_part_ S a b w Post := sp_part_ hI.1.1 hI.1.2.1 (codN_of hI) h
theorem mi_varies {S : MST} {M : Nat} {a x : Int32} {Post : Int32 → Prop} (hI : MI S M) (h : ∀ r : Int32, Post r) : wp_X12_varies S a x Post := sp_varies hI.1.1 hI.1.2.1 h
theorem mi_depth {S : MST} {M : Nat} {a x : Int32} {Post : Int32 → Prop} (hI : MI S M) (h : ∀ r : Int32, Post r) : wp_X12_depth S a x Post := sp_depth hI.1.1 hI.1.2.1 hI.1.2.2.1 h
theorem mi_digest {S : MST} {M : Nat} {Post : Int64 → Prop} (hI : MI S M) (h : ∀ r : Int64, Post r) : wp_X12_digest S Post := sp_digest hI.1.1 hI.1.2.1 (codN_of hI) hI.2.1 h
theorem mi_answer {S : MST} {Post : Int32 → Prop} (h : ∀ r : Int32, Post r) : wp_X12_answer S Post := by
  unfold wp_X12_answer
  exact h _
theorem mi_fault {S : MST} {Post : Int32 → Prop} (h : ∀ r : Int32, Post r) : wp_X12_fault S Post := by
  unfold wp_X12_fault
  exact h _
