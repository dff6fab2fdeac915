/-! looking a METHOD over, in the reference -/
/-- an op's X is one: with M METHODS told, l LOCALS -/
def okX (M l o : Nat) (x : Int32) : Prop :=
  ((o = 1 ∨ o = 2) → ∃ y : Nat, y < l ∧ x = nI y) ∧ (o = 11 → ∃ y : Nat, y < M ∧ x = nI y) ∧ ((o = 13 ∨ o = 14) → ∃ y : Nat, y < 8 ∧ x = nI y) ∧ ((o = 15 ∨ o = 16 ∨ o = 17) → ∃ y : Nat, y < 4 ∧ x = nI y)
theorem okX_mono {M M' l o : Nat} {x : Int32} (h : okX M l o x) (hM : M ≤ M') : okX M' l o x :=
  ⟨h.1, fun q => (h.2.1 q).elim fun y hy => ⟨y, by omega, hy.2⟩, h.2.2⟩
theorem sp_isOperand {S : MST} {M m l o : Nat} {x : Int32} {Post : Int32 → Prop} (hM : S 0 0 = nI M) (hM8 : M ≤ 8) (hm : m < 8) (hl : S 2 m = nI l) (hl6 : l ≤ 6) (ho : o < 20) (h0 : Post 0) (h1 : okX M l o x → Post 1) : wp_X12_isOperand S (nI m) (nI o) x Post := by
  unfold wp_X12_isOperand
  have hc : (nI m).toNatClampNeg = m := nI_clamp (by omega)
  have hv : vp_in (nI m) 8 := vp_in_nI hm (by omega)
  have t3 : (3 : Int64).toInt = 3 := by decide
  have t7 : (7 : Int64).toInt = 7 := by decide
  have t0 : (0 : Int64).toInt = 0 := by decide
  rw [hc, hl]
  have eo : ∀ k : Nat, k < 20 → nI o = nI k → o = k := fun k hk q => nI_inj q (by omega) (by omega)
  have tr : (¬ (o = 1 ∨ o = 2)) → (¬ o = 11) → (¬ (o = 13 ∨ o = 14)) → (¬ (o = 15 ∨ o = 16 ∨ o = 17)) → Post 1 := fun a b c d => h1 ⟨fun q => absurd q a, fun q => absurd q b, fun q => absurd q c, fun q => absurd q d⟩
  have trk : ∀ k : Nat, k < 20 → (3 ≤ k ∧ k ≤ 10 ∨ k = 12) → nI o = nI k → Post 1 := fun k hk hs c => by
    have := eo k hk c
    exact tr (by omega) (by omega) (by omega) (by omega)
  have kl : ∀ k : Nat, k < 20 → (k = 1 ∨ k = 2) → nI o = nI k → (vp_in (nI m) 8 ∧ (wp_X12_in ((x : Int32).toInt64) 0 ((nI l - 1 : Int32).toInt64) (fun r2 => (r2 = 0 ∨ r2 = 1) ∧ Post r2))) := fun k hk hs c => by
    have := eo k hk c
    exact ⟨hv, sp_in0 (n := l) (by omega) rfl (fun _ => ⟨Or.inl rfl, h0⟩) (fun y hy e => ⟨Or.inr rfl, h1 ⟨fun _ => ⟨y, hy, e⟩, fun q => absurd q (by omega), fun q => absurd q (by omega), fun q => absurd q (by omega)⟩⟩)⟩
  have k8 : ∀ k : Nat, k < 20 → (k = 13 ∨ k = 14) → nI o = nI k → wp_X12_in ((x : Int32).toInt64) 0 7 (fun r6 => (r6 = 0 ∨ r6 = 1) ∧ Post r6) := fun k hk hs c => by
    have := eo k hk c
    refine sp_inL (fun _ => ⟨Or.inl rfl, h0⟩) (fun ha hb => ⟨Or.inr rfl, ?_⟩)
    rw [t0] at ha
    rw [t7] at hb
    obtain ⟨y, hy, e⟩ := z_nat (M := 8) ha (by omega) (by omega)
    exact h1 ⟨fun q => absurd q (by omega), fun q => absurd q (by omega), fun _ => ⟨y, hy, e⟩, fun q => absurd q (by omega)⟩
  have k4 : ∀ k : Nat, k < 20 → (k = 15 ∨ k = 16 ∨ k = 17) → nI o = nI k → wp_X12_in ((x : Int32).toInt64) 0 3 (fun r6 => (r6 = 0 ∨ r6 = 1) ∧ Post r6) := fun k hk hs c => by
    have := eo k hk c
    refine sp_inL (fun _ => ⟨Or.inl rfl, h0⟩) (fun ha hb => ⟨Or.inr rfl, ?_⟩)
    rw [t0] at ha
    rw [t3] at hb
    obtain ⟨y, hy, e⟩ := z_nat (M := 4) ha (by omega) (by omega)
    exact h1 ⟨fun q => absurd q (by omega), fun q => absurd q (by omega), fun q => absurd q (by omega), fun _ => ⟨y, hy, e⟩⟩
  refine ⟨fun c => ?_, kl 1 (by omega) (by omega), kl 2 (by omega) (by omega), trk 3 (by omega) (by omega), trk 4 (by omega) (by omega), trk 5 (by omega) (by omega), trk 6 (by omega) (by omega), trk 7 (by omega) (by omega), trk 8 (by omega) (by omega), trk 9 (by omega) (by omega), trk 10 (by omega) (by omega), fun c => ?_, trk 12 (by omega) (by omega), k8 13 (by omega) (by omega), k8 14 (by omega) (by omega), k4 15 (by omega) (by omega), k4 16 (by omega) (by omega), k4 17 (by omega) (by omega)⟩
  · rw [nI_toInt (by omega)] at c
    exact tr (by omega) (by omega) (by omega) (by omega)
  · have := eo 11 (by omega) c
    exact sp_isMethod hM hM8 (fun _ => ⟨Or.inl rfl, h0⟩) (fun y hy e => ⟨Or.inr rfl, h1 ⟨fun q => absurd q (by omega), fun _ => ⟨y, hy, e⟩, fun q => absurd q (by omega), fun q => absurd q (by omega)⟩⟩)
/-- a place is come to: what comes of it -/
def cmS (S : MST) (m i : Nat) (d : Int32) : MST := ms (ms S 7 (upd (S 7) (60 * m + i) d)) 10 (upd (S 10) i 1)
theorem sp_comesTo {S : MST} {m i : Nat} {d : Int32} {Post : MST → Int32 → Prop} (hm : m < 8) (hi : i < 60) (h1 : S 7 (60 * m + i) = -1 → Post (cmS S m i d) 0) (h2 : ¬ S 7 (60 * m + i) = -1 → S 7 (60 * m + i) = d → Post S 0) (h3 : ¬ S 7 (60 * m + i) = -1 → ¬ S 7 (60 * m + i) = d → Post S 3) : wp_X12_comesTo S (nI m) (nI i) d Post := by
  unfold wp_X12_comesTo
  have hc : (nI (60 * m + i)).toNatClampNeg = 60 * m + i := nI_clamp (by omega)
  have hv : vp_in (nI (60 * m + i)) 480 := vp_in_nI (by omega) (by omega)
  have hci : (nI i).toNatClampNeg = i := nI_clamp (by omega)
  rw [ix60, hc, hci, vn_1]
  refine ⟨hv, fun c => ⟨hv, fun c2 => h3 c c2, fun c2 => h2 c c2⟩, fun c => ⟨hv, fun S5 e5 => ⟨vp_in_nI hi (by omega), fun S6 e6 => ?_⟩⟩⟩
  have e : S6 = cmS S m i d := by rw [e6, e5, ms_n S _ (show 10 ≠ 7 by decide)]; rfl
  rw [e]
  exact h1 c
theorem sp_nextWaiting {S : MST} {m n : Nat} {Post : Int32 → Prop} (hm : m < 8) (hn : S 3 m = nI n) (hn60 : n ≤ 60) (h0 : (∀ i : Nat, i < n → S 10 i = 0) → Post (-1)) (h1 : ∀ i : Nat, i < n → ¬ S 10 i = 0 → Post (nI i)) : wp_X12_nextWaiting S (nI m) Post := by
  unfold wp_X12_nextWaiting
  have hc : (nI m).toNatClampNeg = m := nI_clamp (by omega)
  have key : ∀ (k j : Nat), j + k = n → (∀ i : Nat, i < j → S 10 i = 0) → wl_X12_nextWaiting_2 S (Post (-1)) (fun x => Post x) Post (k + 1) (nI m) (nI j) := by
    intro k
    induction k with
    | zero =>
      intro j hj hz
      unfold wl_X12_nextWaiting_2
      rw [hc, hn]
      refine ⟨vp_in_nI hm (by omega), fun _ => h0 (fun i hi => hz i (by omega)), fun c => absurd (nI_le (by omega) (by omega)) c⟩
    | succ k ih =>
      intro j hj hz
      unfold wl_X12_nextWaiting_2
      rw [hc, hn, nI_clamp (n := j) (by omega)]
      refine ⟨vp_in_nI hm (by omega), fun c => absurd c (nI_ge (by omega) (by omega)), fun _ => ⟨vp_in_nI (by omega) (by omega), fun c => ?_, fun c => h1 j (by omega) c⟩⟩
      rw [nI_1]
      exact ih (j + 1) (by omega) (fun i hi => by
        rcases Nat.lt_or_ge i j with q | q
        · exact hz i q
        · rw [show i = j by omega]; exact c)
  exact ⟨n + 1, key n 0 (by omega) (fun i hi => absurd hi (by omega))⟩
/-- instruction i of METHOD m is right where it is come to with depth d: M METHODS, l LOCALS, n INSTRUCTIONS -/
def rightI (S : MST) (M m l n i d : Nat) : Prop := ∃ (o ax : Nat), o < 20 ∧ S 4 (60 * m + i) = nI o ∧ okX M l o (S 5 (60 * m + i)) ∧ (o = 11 → ∃ y : Nat, y < M ∧ S 5 (60 * m + i) = nI y ∧ S 1 y = nI ax ∧ ax ≤ 3) ∧ tkN o ax ≤ d ∧ d - tkN o ax + lyN o ≤ 8 ∧
  ((o = 9 ∨ o = 10) → ∃ y : Nat, y < n ∧ S 5 (60 * m + i) = nI y ∧ S 7 (60 * m + y) = nI (d - tkN o ax + lyN o)) ∧ (¬ o = 9 → ¬ o = 12 → i + 1 < n ∧ S 7 (60 * m + (i + 1)) = nI (d - tkN o ax + lyN o))
/-- what coming to places leaves as it was -/
def ExtL (m n : Nat) (S S' : MST) : Prop := (∀ k : Nat, k ≠ 7 → k ≠ 10 → S' k = S k) ∧ (∀ j : Nat, ¬ S 7 j = -1 → S' 7 j = S 7 j) ∧ (∀ j : Nat, S' 7 j = S 7 j ∨ ∃ i : Nat, i < n ∧ j = 60 * m + i ∧ S 7 j = -1 ∧ S' 10 i = 1 ∧ ∃ d : Nat, d ≤ 8 ∧ S' 7 j = nI d) ∧ (∀ i : Nat, S' 10 i = S 10 i ∨ (S' 10 i = 1 ∧ S 7 (60 * m + i) = -1 ∧ ¬ S' 7 (60 * m + i) = -1))
theorem ExtL.rf (m n : Nat) (S : MST) : ExtL m n S S := ⟨fun _ _ _ => rfl, fun _ _ => rfl, fun _ => Or.inl rfl, fun _ => Or.inl rfl⟩
theorem ExtL.tr {m n : Nat} {S S1 S2 : MST} (h : ExtL m n S S1) (g : ExtL m n S1 S2) : ExtL m n S S2 := by
  refine ⟨fun k a b => (g.1 k a b).trans (h.1 k a b), fun j hj => ?_, fun j => ?_, fun i => ?_⟩
  · have e := h.2.1 j hj
    rw [g.2.1 j (by rw [e]; exact hj), e]
  · rcases g.2.2.1 j with e | ⟨i, hi, hji, h7, h10, d, hd, e⟩
    · rcases h.2.2.1 j with e2 | ⟨i, hi, hji, h7, h10, d, hd, e2⟩
      · exact Or.inl (e.trans e2)
      · refine Or.inr ⟨i, hi, hji, h7, ?_, d, hd, e.trans e2⟩
        rcases g.2.2.2 i with q | q
        · rw [q]; exact h10
        · exact q.1
    · rcases h.2.2.1 j with e2 | ⟨i2, hi2, hji2, h72, h102, d2, hd2, e2⟩
      · exact Or.inr ⟨i, hi, hji, by rw [← e2]; exact h7, h10, d, hd, e⟩
      · exact absurd h7 (by rw [e2]; exact nI_neg1 (by omega))
  · rcases g.2.2.2 i with q | ⟨q1, q2, q3⟩
    · rcases h.2.2.2 i with r | ⟨r1, r2, r3⟩
      · exact Or.inl (q.trans r)
      · refine Or.inr ⟨by rw [q]; exact r1, r2, ?_⟩
        rw [g.2.1 _ r3]; exact r3
    · by_cases hz : S 7 (60 * m + i) = -1
      · exact Or.inr ⟨q1, hz, q3⟩
      · exact absurd q2 (by rw [h.2.1 _ hz]; exact hz)
theorem ExtL.cm {m n i d : Nat} {S : MST} (hi : i < n) (hd : d ≤ 8) (h : S 7 (60 * m + i) = -1) : ExtL m n S (cmS S m i (nI d)) := by
  have e7 : cmS S m i (nI d) 7 = upd (S 7) (60 * m + i) (nI d) := by
    unfold cmS; rw [ms_n _ _ (show 7 ≠ 10 by decide), ms_s]
  have e10 : cmS S m i (nI d) 10 = upd (S 10) i 1 := by unfold cmS; rw [ms_s]
  refine ⟨fun k a b => by unfold cmS; rw [ms_n _ _ b, ms_n _ _ a], fun j hj => ?_, fun j => ?_, fun i2 => ?_⟩
  · rw [e7, upd_n]
    intro q
    rw [q] at hj
    exact hj h
  · by_cases q : j = 60 * m + i
    · subst q
      exact Or.inr ⟨i, hi, rfl, h, by rw [e10, upd_s], d, hd, by rw [e7, upd_s]⟩
    · exact Or.inl (by rw [e7, upd_n _ _ q])
  · by_cases q : i2 = i
    · subst q
      exact Or.inr ⟨by rw [e10, upd_s], h, by rw [e7, upd_s]; exact nI_neg1 (by omega)⟩
    · exact Or.inl (by rw [e10, upd_n _ _ q])
/-- coming to a place of the METHOD, as one step of ExtL -/
theorem sp_comes {S : MST} {m n i d : Nat} {Post : MST → Int32 → Prop} (hm : m < 8) (hn : n ≤ 60) (hi : i < n) (hd : d ≤ 8) (h1 : ∀ S' : MST, ExtL m n S S' → S' 7 (60 * m + i) = nI d → Post S' 0) (h3 : Post S 3) : wp_X12_comesTo S (nI m) (nI i) (nI d) Post :=
  sp_comesTo hm (by omega) (fun h => h1 _ (ExtL.cm hi hd h) (by
    have e7 : cmS S m i (nI d) 7 = upd (S 7) (60 * m + i) (nI d) := by unfold cmS; rw [ms_n _ _ (show 7 ≠ 10 by decide), ms_s]
    rw [e7, upd_s])) (fun _ h => h1 _ (ExtL.rf m n S) h) (fun _ _ => h3)
/-- what a METHOD has told, whatever it was looked over for: M METHODS -/
def toldM (S : MST) (M : Nat) : Prop := ∀ y : Nat, y < M → ∃ (ax l n : Nat), S 1 y = nI ax ∧ ax ≤ 3 ∧ S 2 y = nI l ∧ ax ≤ l ∧ l ≤ 6 ∧ S 3 y = nI n ∧ n ≤ 60 ∧ ∀ i : Nat, i < n → ∃ o : Nat, o < 20 ∧ S 4 (60 * y + i) = nI o
theorem rightI_mk {S S' : MST} {M m l n i d o ax : Nat} (hE : ExtL m n S S') (ho : o < 20) (h4 : S 4 (60 * m + i) = nI o) (hk : okX M l o (S 5 (60 * m + i))) (hax : o = 11 → ∃ y : Nat, y < M ∧ S 5 (60 * m + i) = nI y ∧ S 1 y = nI ax ∧ ax ≤ 3) (htk : tkN o ax ≤ d) (h8 : d - tkN o ax + lyN o ≤ 8)
    (hj : (o = 9 ∨ o = 10) → ∃ y : Nat, y < n ∧ S 5 (60 * m + i) = nI y ∧ S' 7 (60 * m + y) = nI (d - tkN o ax + lyN o)) (hnx : ¬ o = 9 → ¬ o = 12 → i + 1 < n ∧ S' 7 (60 * m + (i + 1)) = nI (d - tkN o ax + lyN o)) : rightI S' M m l n i d := by
  refine ⟨o, ax, ho, ?_, ?_, ?_, htk, h8, ?_, hnx⟩
  · rw [hE.1 4 (by decide) (by decide)]; exact h4
  · rw [hE.1 5 (by decide) (by decide)]; exact hk
  · rw [hE.1 5 (by decide) (by decide), hE.1 1 (by decide) (by decide)]; exact hax
  · rw [hE.1 5 (by decide) (by decide)]; exact hj
theorem sp_looksAt {S : MST} {M m l n i d : Nat} {Post : MST → Int32 → Prop} (hM : S 0 0 = nI M) (hM8 : M ≤ 8) (hm : m < M) (hT : toldM S M) (hl : S 2 m = nI l) (hl6 : l ≤ 6) (hn : S 3 m = nI n) (hn60 : n ≤ 60) (hi : i < n) (hd : S 7 (60 * m + i) = nI d) (hd8 : d ≤ 8)
    (h0 : ∀ S' : MST, ExtL m n S S' → rightI S' M m l n i d → Post S' 0) (hf : ∀ (S' : MST) (r : Nat), ExtL m n S S' → 1 ≤ r → r ≤ 6 → Post S' (nI r)) : wp_X12_looksAt S (nI m) (nI i) Post := by
  have hc : (nI (60 * m + i)).toNatClampNeg = 60 * m + i := nI_clamp (by omega)
  have hcm : (nI m).toNatClampNeg = m := nI_clamp (by omega)
  have hv : vp_in (nI (60 * m + i)) 480 := vp_in_nI (by omega) (by omega)
  have hvm : vp_in (nI m) 8 := vp_in_nI (by omega) (by omega)
  obtain ⟨_, _, n', _, _, _, _, _, hn', hn60', hops⟩ := hT m hm
  obtain rfl : n' = n := nI_inj (hn'.symm.trans hn) (by omega) (by omega)
  obtain ⟨o, ho, h4⟩ := hops i hi
  unfold wp_X12_looksAt
  simp only [ix60, hc, hcm, hd, h4, nI_1]
  refine ⟨hv, hv, hv, sp_isOperand hM hM8 (by omega) hl hl6 ho ⟨fun c => absurd rfl c, fun _ => hf S 6 (ExtL.rf _ _ _) (by omega) (by omega)⟩ (fun hk => ⟨fun _ => ?_, fun c => absurd c (by decide)⟩)⟩
  obtain ⟨ax, hax⟩ : ∃ ax : Nat, o = 11 → ∃ y : Nat, y < M ∧ S 5 (60 * m + i) = nI y ∧ S 1 y = nI ax ∧ ax ≤ 3 := by
    by_cases h11 : o = 11
    · obtain ⟨y, hy, e⟩ := hk.2.1 h11
      obtain ⟨ax, _, _, h1, h2, _⟩ := hT y hy
      exact ⟨ax, fun _ => ⟨y, hy, e, h1, h2⟩⟩
    · exact ⟨0, fun q => absurd q h11⟩
  have hax8 : o = 11 → ∃ y : Nat, y < 8 ∧ S 5 (60 * m + i) = nI y ∧ S 1 y = nI ax := fun q => (hax q).elim fun y hy => ⟨y, by omega, hy.2.1, hy.2.2.1⟩
  have htk : tkN o ax ≤ 3 := by
    unfold tkN
    by_cases h11 : o = 11
    · obtain ⟨_, _, _, _, h3⟩ := hax h11
      subst h11
      simp only [show ¬ (11 = 0 ∨ 11 = 1 ∨ 11 = 9 ∨ 11 = 13) by decide, if_false, if_true]
      exact h3
    · rw [if_neg h11]
      split
      · omega
      · split <;> omega
  have hly : lyN o ≤ 2 := by
    unfold lyN
    split
    · omega
    · split <;> omega
  refine sp_takes ho hax8 ⟨fun c => ?_, fun c => hf S 1 (ExtL.rf _ _ _) (by omega) (by omega)⟩
  have ht : tkN o ax ≤ d := (nI_leI (by omega) (by omega)).mp c
  refine sp_takes ho hax8 (sp_lays ho ?_)
  rw [nI_sub ht, nI_add]
  generalize hw : d - tkN o ax + lyN o = w
  refine ⟨fun c => ?_, fun c => hf S 2 (ExtL.rf _ _ _) (by omega) (by omega)⟩
  have h8 : w ≤ 8 := (nI_leI (a := w) (b := 8) (by omega) (by omega)).mp c
  have ne : ∀ {a b : Nat}, a < 20 → b < 20 → ¬ a = b → ¬ nI a = nI b := fun ha hb q e => q (nI_inj e (by omega) (by omega))
  -- the next one, from a state that came of coming to places
  have next : ∀ (S1 : MST), ExtL m n' S S1 → (¬ o = 9) → (¬ o = 12) → ((o = 9 ∨ o = 10) → ∃ y : Nat, y < n' ∧ S 5 (60 * m + i) = nI y ∧ S1 7 (60 * m + y) = nI w) →
      (((¬ nI (i + 1) = S1 3 m) → wp_X12_comesTo S1 (nI m) (nI (i + 1)) (nI w) (fun S2 r2 => Post S2 r2)) ∧ (nI (i + 1) = S1 3 m → Post S1 5)) := by
    intro S1 hE h9 h12 hj
    have hn1 : S1 3 m = nI n' := by rw [hE.1 3 (by decide) (by decide)]; exact hn
    rw [hn1]
    refine ⟨fun q => ?_, fun _ => hf S1 5 hE (by omega) (by omega)⟩
    have hlt : i + 1 < n' := by
      rcases Nat.lt_or_ge (i + 1) n' with q1 | q1
      · exact q1
      · exact absurd (congrArg nI (show i + 1 = n' by omega)) q
    refine sp_comes (by omega) hn60 hlt h8 (fun S2 hE2 e2 => ?_) (hf S1 3 hE (by omega) (by omega))
    · refine h0 S2 (hE.tr hE2) (rightI_mk (hE.tr hE2) ho h4 hk hax ht (by omega) (fun q2 => ?_) (fun _ _ => ⟨hlt, by rw [hw]; exact e2⟩))
      obtain ⟨y, hy, e, e7⟩ := hj q2
      exact ⟨y, hy, e, by rw [hE2.2.1 _ (by rw [e7]; exact nI_neg1 (by omega)), hw]; exact e7⟩
  refine ⟨fun c9 => ?_, fun c9 => ⟨fun c10 => ⟨fun q => absurd q c9, fun _ => ⟨fun c12 => ⟨hvm, ?_⟩, fun c12 => ?_⟩⟩, fun c10 => ?_⟩⟩
  · have h9 : o = 9 := nI_inj (b := 9) c9 (by omega) (by omega)
    rw [hn]
    refine ⟨hvm, sp_in0 (n := n') (by omega) rfl (fun _ => ⟨fun q => absurd rfl q, fun _ => hf S 4 (ExtL.rf _ _ _) (by omega) (by omega)⟩) (fun y hy e => ⟨fun _ => ?_, fun q => absurd q (by decide)⟩)⟩
    rw [e]
    refine sp_comes (by omega) hn60 hy h8 (fun S1 hE e1 => ⟨fun _ => ⟨fun _ => ?_, fun q => absurd c9 q⟩, fun q => absurd rfl q⟩) ⟨fun q => absurd q (by decide), fun _ => hf S 3 (ExtL.rf _ _ _) (by omega) (by omega)⟩
    exact h0 S1 hE (rightI_mk hE ho h4 hk hax ht (by omega) (fun _ => ⟨y, hy, e, by rw [hw]; exact e1⟩) (fun q => absurd h9 q))
  · have h9 : ¬ o = 9 := fun q => c9 (congrArg nI q)
    have h12 : ¬ o = 12 := fun q => c12 (congrArg nI q)
    exact next S (ExtL.rf _ _ _) h9 h12 (fun q => absurd (q.resolve_left h9) (fun q => c10 (congrArg nI q)))
  · have h12 : o = 12 := nI_inj (b := 12) c12 (by omega) (by omega)
    exact h0 S (ExtL.rf _ _ _) (rightI_mk (ExtL.rf _ _ _) ho h4 hk hax ht (by omega) (fun q => by omega) (fun _ q => absurd h12 q))
  · have h10 : o = 10 := nI_inj (b := 10) c10 (by omega) (by omega)
    have h9 : ¬ o = 9 := by omega
    have h12 : ¬ o = 12 := by omega
    rw [hn]
    refine ⟨hvm, sp_in0 (n := n') (by omega) rfl (fun _ => ⟨fun q => absurd rfl q, fun _ => hf S 4 (ExtL.rf _ _ _) (by omega) (by omega)⟩) (fun y hy e => ⟨fun _ => ?_, fun q => absurd q (by decide)⟩)⟩
    rw [e]
    refine sp_comes (by omega) hn60 hy h8 (fun S1 hE e1 => ⟨fun _ => ⟨fun q => absurd q c9, fun _ => ⟨fun _ => ⟨hvm, ?_⟩, fun q => absurd (nI_inj (b := 12) q (by omega) (by omega)) h12⟩⟩, fun q => absurd rfl q⟩) ⟨fun q => absurd q (by decide), fun _ => hf S 3 (ExtL.rf _ _ _) (by omega) (by omega)⟩
    exact next S1 hE h9 h12 (fun _ => ⟨y, hy, e, e1⟩)
