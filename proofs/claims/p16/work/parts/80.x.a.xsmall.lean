/-! THE CLASS, exactly: the small reads of a METHOD -/
/-- the book: METHOD j lies at place j -/
def BK (S : CST) : Prop := cnP S ≤ 8 ∧ cv S 11 0 0 = nI (cnP S) ∧ ∀ j : Nat, j < cnP S → cv S 20 0 j = nI j
theorem xp_X0_at {S : CST} {a : Int32} {Post : Int32 → Prop} (hB : BK S) (h1 : ∀ y : Nat, y < cnP S → a = nI y → Post (nI y)) (h0 : (∀ y : Nat, y < cnP S → ¬ a = nI y) → Post (-1)) : wp_X0_at S a Post := by
  obtain ⟨hM8, h11, h20⟩ := hB
  unfold wp_X0_at
  rw [h11]
  refine ⟨fun c => h0 (fun y hy e => ?_), fun c => ?_⟩
  · rw [e] at c; exact nI_nn y (by omega) c
  · obtain ⟨y, rfl, hy⟩ := nI_ofc c
    refine ⟨fun c2 => h0 (fun z hz e => ?_), fun c2 => ?_⟩
    · have : y = z := nI_inj e (by omega) (by omega)
      subst this
      exact nI_ge (b := cnP S) hz (by omega) c2
    · have hy2 : y < cnP S := Nat.not_le.mp (fun q => c2 (nI_le q (by omega)))
      refine ⟨fun c3 => absurd c3 (nI_ge (b := 8) (by omega) (by omega)), fun _ => ⟨vp_in_nI (by omega) (by omega), ?_⟩⟩
      rw [nI_clamp (by omega), h20 y hy2]
      exact ⟨fun c4 => absurd c4 (nI_nn y (by omega)), fun _ => h1 y hy2 rfl⟩
theorem xp_X8_has {S : CST} {y n : Nat} {a : Int32} {Post : Int32 → Prop} (hy : y < cnP S) (hn : cv S 247 y 0 = nI n) (hn60 : n ≤ 60) (h1 : ∀ i : Nat, i < n → a = nI i → Post 1) (h0 : (∀ i : Nat, i < n → ¬ a = nI i) → Post 0) : wp_X8_has S y a Post := by
  unfold wp_X8_has
  rw [hn]
  refine ⟨fun c => h0 (fun i hi e => ?_), fun c => ⟨cin_24 rfl hy, ?_⟩⟩
  · rw [e] at c; exact nI_nn i (by omega) c
  · obtain ⟨i, rfl, hi⟩ := nI_ofc c
    refine ⟨fun c2 => h0 (fun z hz e => ?_), fun c2 => ?_⟩
    · have : i = z := nI_inj e (by omega) (by omega)
      subst this
      exact nI_ge (b := n) hz (by omega) c2
    · have hi2 : i < n := Nat.not_le.mp (fun q => c2 (nI_le q (by omega)))
      exact ⟨fun c3 => absurd c3 (nI_ge (b := 60) (by omega) (by omega)), fun _ => h1 i hi2 rfl⟩
theorem xp_has_in {S : CST} {y n i : Nat} {Post : Int32 → Prop} (hy : y < cnP S) (hn : cv S 247 y 0 = nI n) (hn60 : n ≤ 60) (hi : i < n) (h1 : Post 1) : wp_X8_has S y (nI i) Post :=
  xp_X8_has hy hn hn60 (fun _ _ _ => h1) (fun q => absurd rfl (q i hi))
theorem xp_has_out {S : CST} {y n i : Nat} {Post : Int32 → Prop} (hy : y < cnP S) (hn : cv S 247 y 0 = nI n) (hn60 : n ≤ 60) (hi : n ≤ i) (hi2 : i < 2 ^ 31) (h0 : Post 0) : wp_X8_has S y (nI i) Post :=
  xp_X8_has hy hn hn60 (fun j hj e => absurd (nI_inj e hi2 (by omega)) (by omega)) (fun _ => h0)
theorem xp_X8_opAt {S : CST} {y n i : Nat} {Post : Int32 → Prop} (hy : y < cnP S) (hn : cv S 247 y 0 = nI n) (hn60 : n ≤ 60) (hi : i < n) (h : Post (cv S 250 y i)) : wp_X8_opAt S y (nI i) Post := by
  unfold wp_X8_opAt
  refine ⟨cin_24 rfl hy, xp_has_in hy hn hn60 hi ⟨fun c => absurd c (by decide), fun _ => ⟨cin_24 rfl hy, cin_25 rfl hy, vp_in_nI (by omega) (by omega), ?_⟩⟩⟩
  rw [nI_clamp (by omega)]; exact h
theorem xp_X8_xAt {S : CST} {y n i : Nat} {Post : Int32 → Prop} (hy : y < cnP S) (hn : cv S 247 y 0 = nI n) (hn60 : n ≤ 60) (hi : i < n) (h : Post (cv S 260 y i)) : wp_X8_xAt S y (nI i) Post := by
  unfold wp_X8_xAt
  refine ⟨cin_24 rfl hy, xp_has_in hy hn hn60 hi ⟨fun c => absurd c (by decide), fun _ => ⟨cin_24 rfl hy, cin_26 rfl hy, vp_in_nI (by omega) (by omega), ?_⟩⟩⟩
  rw [nI_clamp (by omega)]; exact h
theorem xp_X8_depthAt {S : CST} {y n i : Nat} {Post : Int32 → Prop} (hy : y < cnP S) (hn : cv S 247 y 0 = nI n) (hn60 : n ≤ 60) (hi : i < n) (h : Post (cv S 270 y i)) : wp_X8_depthAt S y (nI i) Post := by
  unfold wp_X8_depthAt
  refine ⟨cin_24 rfl hy, xp_has_in hy hn hn60 hi ⟨fun c => absurd c (by decide), fun _ => ⟨cin_24 rfl hy, cin_27 rfl hy, vp_in_nI (by omega) (by omega), ?_⟩⟩⟩
  rw [nI_clamp (by omega)]; exact h
theorem xp_X8_isDead {S : CST} {y n i : Nat} {Post : Int32 → Prop} (hy : y < cnP S) (hn : cv S 247 y 0 = nI n) (hn60 : n ≤ 60) (hi : i < n) (h1 : cv S 270 y i = -1 → Post 1) (h0 : ¬ cv S 270 y i = -1 → Post 0) : wp_X8_isDead S y (nI i) Post := by
  unfold wp_X8_isDead
  refine ⟨cin_24 rfl hy, xp_has_in hy hn hn60 hi ⟨fun c => absurd c (by decide), fun _ => ⟨cin_24 rfl hy, cin_27 rfl hy, vp_in_nI (by omega) (by omega), ?_⟩⟩⟩
  rw [nI_clamp (by omega)]
  exact ⟨h0, h1⟩
theorem xp_X8_goesOnAt {S : CST} {y n i : Nat} {Post : Int32 → Prop} (hy : y < cnP S) (hn : cv S 247 y 0 = nI n) (hn60 : n ≤ 60) (hi : i < n) (h1 : ¬ cv S 270 y i = -1 → ¬ cv S 250 y i = 9 → ¬ cv S 250 y i = 12 → Post 1) (h0 : (cv S 270 y i = -1 ∨ cv S 250 y i = 9 ∨ cv S 250 y i = 12) → Post 0) : wp_X8_goesOnAt S y (nI i) Post := by
  unfold wp_X8_goesOnAt
  refine ⟨cin_24 rfl hy, xp_X8_opAt hy hn hn60 hi ⟨cin_24 rfl hy, xp_X8_isDead hy hn hn60 hi (fun d => ⟨fun _ => h0 (Or.inl d), fun c => absurd c (by decide)⟩) (fun d => ⟨fun c => absurd rfl c, fun _ => ⟨fun e => h0 (Or.inr (Or.inl e)), fun e => ⟨fun e2 => h0 (Or.inr (Or.inr e2)), fun e2 => h1 d e e2⟩⟩⟩)⟩⟩
theorem xp_X8_comeTo {S : CST} {y n i : Nat} {d : Int32} {Post : CST → Prop} (hy : y < cnP S) (hn : cv S 247 y 0 = nI n) (hn60 : n ≤ 60) (hi : i < n) (h : Post (cs S 270 y (upd (cv S 270 y) i d))) : wp_X8_comeTo S y (nI i) d Post := by
  unfold wp_X8_comeTo
  refine ⟨cin_24 rfl hy, xp_has_in hy hn hn60 hi ⟨fun c => absurd c (by decide), fun _ => ⟨cin_24 rfl hy, cin_27 rfl hy, vp_in_nI (by omega) (by omega), ?_⟩⟩⟩
  rw [nI_clamp (by omega)]
  rintro _ rfl
  exact h
theorem xp_X8_isRight {S : CST} {y : Nat} {Post : Int32 → Prop} (hy : y < cnP S) (h0 : cv S 248 y 0 = -1 → Post 0) (h1 : ¬ cv S 248 y 0 = -1 → Post 1) : wp_X8_isRight S y Post := ⟨cin_24 rfl hy, h0, h1⟩
/-! looking over, as a pure function of depths and of what waits -/
abbrev LK : Type := (Nat → Int32) × (Nat → Int32)
noncomputable def pite {α : Type} (p : Prop) (a b : α) : α := @ite α p (Classical.propDecidable p) a b
theorem pite_t {α : Type} {p : Prop} {a b : α} (h : p) : pite p a b = a := @if_pos p (Classical.propDecidable p) h α a b
theorem pite_f {α : Type} {p : Prop} {a b : α} (h : ¬ p) : pite p a b = b := @if_neg p (Classical.propDecidable p) h α a b
def cmF (s : LK) (i : Nat) (d : Int32) : LK × Int32 := if s.1 i = -1 then ((upd s.1 i d, upd s.2 i 1), 0) else (s, if s.1 i = d then 0 else 3)
/-- the next one -/
def nxF (n o i w : Nat) (s : LK) : LK × Int32 := if o = 9 ∨ o = 12 then (s, 0) else if i + 1 < n then cmF s (i + 1) (nI w) else (s, 5)
noncomputable def jpF (n o : Nat) (x : Int32) (i w : Nat) (s : LK) : LK × Int32 :=
  if o = 9 ∨ o = 10 then pite (∃ y : Nat, y < n ∧ x = nI y) (if (cmF s x.toNatClampNeg (nI w)).2 = 0 then nxF n o i w (cmF s x.toNatClampNeg (nI w)).1 else cmF s x.toNatClampNeg (nI w)) (s, 4) else nxF n o i w s
noncomputable def faF (M l n : Nat) (ag : Nat → Int32) (o : Nat) (x : Int32) (i : Nat) (s : LK) : LK × Int32 :=
  pite (okX M l o x) (if (s.1 i).toNatClampNeg < tkN o (ag x.toNatClampNeg).toNatClampNeg then (s, 1) else if 8 < (s.1 i).toNatClampNeg - tkN o (ag x.toNatClampNeg).toNatClampNeg + lyN o then (s, 2) else jpF n o x i ((s.1 i).toNatClampNeg - tkN o (ag x.toNatClampNeg).toNatClampNeg + lyN o) s) (s, 6)
/-- the least that waits, 60 for none -/
def lwF (W : Nat → Int32) : Nat → Nat → Nat
  | 0, i => i
  | k + 1, i => if W i = 0 then lwF W k (i + 1) else i
def lw (W : Nat → Int32) : Nat := lwF W 60 0
theorem lwF_at {W : Nat → Int32} {i : Nat} (hi : ¬ W i = 0) : ∀ (k j : Nat), j ≤ i → i < j + k → (∀ t : Nat, j ≤ t → t < i → W t = 0) → lwF W k j = i := by
  intro k
  induction k with
  | zero => intro j a b _; omega
  | succ k ih =>
    intro j a b hz
    unfold lwF
    by_cases h : j = i
    · subst h; rw [if_neg hi]
    · rw [if_pos (hz j (Nat.le_refl _) (by omega))]
      exact ih (j + 1) (by omega) (by omega) (fun t x y => hz t (by omega) y)
theorem lw_at {W : Nat → Int32} {i : Nat} (h60 : i < 60) (hi : ¬ W i = 0) (hz : ∀ t : Nat, t < i → W t = 0) : lw W = i := lwF_at hi 60 0 (Nat.zero_le _) (by omega) (fun t _ b => hz t b)
theorem lwF_no {W : Nat → Int32} : ∀ (k j : Nat), (∀ t : Nat, j ≤ t → t < j + k → W t = 0) → lwF W k j = j + k := by
  intro k
  induction k with
  | zero => intro j _; rfl
  | succ k ih =>
    intro j hz
    unfold lwF
    rw [if_pos (hz j (Nat.le_refl _) (by omega)), ih (j + 1) (fun t x y => hz t (by omega) (by omega))]
    omega
theorem lw_no {W : Nat → Int32} (hz : ∀ t : Nat, t < 60 → W t = 0) : lw W = 60 := lwF_no 60 0 (fun t _ b => hz t (by omega))
theorem lwF_le {W : Nat → Int32} : ∀ (k j : Nat), j ≤ lwF W k j ∧ lwF W k j ≤ j + k ∧ (∀ t : Nat, j ≤ t → t < lwF W k j → W t = 0) ∧ (lwF W k j < j + k → ¬ W (lwF W k j) = 0) := by
  intro k
  induction k with
  | zero => intro j; exact ⟨Nat.le_refl _, Nat.le_refl _, fun t a b => absurd (show t < j from b) (by omega), fun q => absurd (show j < j + 0 from q) (by omega)⟩
  | succ k ih =>
    intro j
    unfold lwF
    by_cases h : W j = 0
    · rw [if_pos h]
      obtain ⟨a, b, c, d⟩ := ih (j + 1)
      refine ⟨by omega, by omega, fun t x y => ?_, fun q => d (by omega)⟩
      by_cases w : t = j
      · rw [w]; exact h
      · exact c t (by omega) y
    · rw [if_neg h]
      exact ⟨Nat.le_refl _, by omega, fun t a b => by omega, fun _ => h⟩
theorem lw_lt {W : Nat → Int32} (h : lw W < 60) : ¬ W (lw W) = 0 ∧ ∀ t : Nat, t < lw W → W t = 0 := by
  obtain ⟨_, _, c, d⟩ := lwF_le (W := W) 60 0
  exact ⟨d (by unfold lw at h; omega), fun t ht => c t (Nat.zero_le _) ht⟩
theorem lw_60 {W : Nat → Int32} (h : ¬ lw W < 60) : ∀ t : Nat, t < 60 → W t = 0 := by
  obtain ⟨_, _, c, _⟩ := lwF_le (W := W) 60 0
  exact fun t ht => c t (Nat.zero_le _) (by unfold lw at h; omega)
/-- the list of places that wait, gone through: what is left, the fault, the place of the fault -/
noncomputable def lpF (M l n : Nat) (ag : Nat → Int32) (op : Nat → Nat) (xs : Nat → Int32) : Nat → LK → LK × Int32 × Nat
  | 0, s => (s, 0, 60)
  | k + 1, s => if lw s.2 < 60 then
      (if (faF M l n ag (op (lw s.2)) (xs (lw s.2)) (lw s.2) (s.1, upd s.2 (lw s.2) 0)).2 = 0 then lpF M l n ag op xs k (faF M l n ag (op (lw s.2)) (xs (lw s.2)) (lw s.2) (s.1, upd s.2 (lw s.2) 0)).1
       else ((faF M l n ag (op (lw s.2)) (xs (lw s.2)) (lw s.2) (s.1, upd s.2 (lw s.2) 0)).1, (faF M l n ag (op (lw s.2)) (xs (lw s.2)) (lw s.2) (s.1, upd s.2 (lw s.2) 0)).2, lw s.2))
      else (s, 0, 60)
/-- depths are small; what waits was come to; behind the last INSTRUCTION nothing -/
def GdS (n : Nat) (s : LK) : Prop := (∀ i : Nat, i < n → (s.1 i = -1 ∨ ∃ d : Nat, d ≤ 8 ∧ s.1 i = nI d) ∧ (¬ s.2 i = 0 → ¬ s.1 i = -1)) ∧ ∀ i : Nat, n ≤ i → s.1 i = -1 ∧ s.2 i = 0
/-- from s to s' places were come to -/
def LeS (n : Nat) (s s' : LK) : Prop := GdS n s' ∧ (∀ i : Nat, ¬ s.1 i = -1 → s'.1 i = s.1 i ∧ s'.2 i = s.2 i) ∧ (∀ i : Nat, s'.1 i = -1 → s'.2 i = s.2 i) ∧ ∀ i : Nat, s.1 i = -1 → ¬ s'.1 i = -1 → ¬ s'.2 i = 0
theorem cmF_le {n i d : Nat} {s : LK} (h : GdS n s) (hi : i < n) (hd : d ≤ 8) : LeS n s (cmF s i (nI d)).1 := by
  unfold cmF
  by_cases c : s.1 i = -1
  · rw [if_pos c]
    refine ⟨⟨fun j hj => ?_, fun j hj => ?_⟩, fun j hj => ?_, fun j hj => ?_, fun j hj hj2 => ?_⟩
    · show (upd s.1 i (nI d) j = -1 ∨ ∃ e : Nat, e ≤ 8 ∧ upd s.1 i (nI d) j = nI e) ∧ (¬ upd s.2 i 1 j = 0 → ¬ upd s.1 i (nI d) j = -1)
      by_cases w : j = i
      · subst w; rw [upd_s]; exact ⟨Or.inr ⟨d, hd, rfl⟩, fun _ => nI_neg1 (by omega)⟩
      · rw [upd_n _ _ w, upd_n _ _ w]; exact h.1 j hj
    · show upd s.1 i (nI d) j = -1 ∧ upd s.2 i 1 j = 0
      rw [upd_n _ _ (by omega), upd_n _ _ (by omega)]; exact h.2 j hj
    · show upd s.1 i (nI d) j = s.1 j ∧ upd s.2 i 1 j = s.2 j
      have w : j ≠ i := fun w => hj (by rw [w]; exact c)
      rw [upd_n _ _ w, upd_n _ _ w]; exact ⟨rfl, rfl⟩
    · show upd s.2 i 1 j = s.2 j
      have w : j ≠ i := fun w => nI_neg1 (n := d) (by omega) (by
        have hj' : upd s.1 i (nI d) j = -1 := hj
        rw [w, upd_s] at hj'; exact hj')
      rw [upd_n _ _ w]
    · have hj2 : ¬ upd s.1 i (nI d) j = -1 := hj2
      show ¬ upd s.2 i 1 j = 0
      by_cases w : j = i
      · rw [w, upd_s]; decide
      · rw [upd_n _ _ w] at hj2; exact absurd hj hj2
  · rw [if_neg c]
    exact ⟨h, fun _ _ => ⟨rfl, rfl⟩, fun _ _ => rfl, fun _ a b => absurd a b⟩
theorem LeS.rf {n : Nat} {s : LK} (h : GdS n s) : LeS n s s := ⟨h, fun _ _ => ⟨rfl, rfl⟩, fun _ _ => rfl, fun _ a b => absurd a b⟩
theorem LeS.tr {n : Nat} {s s1 s2 : LK} (h : LeS n s s1) (g : LeS n s1 s2) : LeS n s s2 := by
  refine ⟨g.1, fun i hi => ?_, fun i hi => ?_, fun i hi hi2 => ?_⟩
  · obtain ⟨a, b⟩ := h.2.1 i hi
    obtain ⟨c, d⟩ := g.2.1 i (by rw [a]; exact hi)
    exact ⟨c.trans a, d.trans b⟩
  · have a : s1.1 i = -1 := by
      by_cases w : s1.1 i = -1
      · exact w
      · exact absurd hi (by rw [(g.2.1 i w).1]; exact w)
    exact (g.2.2.1 i hi).trans (h.2.2.1 i a)
  · by_cases w : s1.1 i = -1
    · exact g.2.2.2 i w hi2
    · rw [(g.2.1 i w).2]; exact h.2.2.2 i hi w
theorem nxF_le {n o i w : Nat} {s : LK} (h : GdS n s) (hw : w ≤ 8) : LeS n s (nxF n o i w s).1 := by
  unfold nxF
  by_cases c : o = 9 ∨ o = 12
  · rw [if_pos c]; exact LeS.rf h
  · rw [if_neg c]
    by_cases c2 : i + 1 < n
    · rw [if_pos c2]; exact cmF_le h c2 hw
    · rw [if_neg c2]; exact LeS.rf h
theorem jpF_le {n o i w : Nat} {x : Int32} {s : LK} (hn : n ≤ 60) (h : GdS n s) (hw : w ≤ 8) : LeS n s (jpF n o x i w s).1 := by
  unfold jpF
  by_cases c : o = 9 ∨ o = 10
  · rw [if_pos c]
    by_cases c2 : ∃ y : Nat, y < n ∧ x = nI y
    · rw [pite_t c2]
      obtain ⟨y, hy, rfl⟩ := c2
      rw [nI_clamp (by omega)]
      have h1 := cmF_le (i := y) h hy hw
      split
      · exact h1.tr (nxF_le h1.1 hw)
      · exact h1
    · rw [pite_f c2]; exact LeS.rf h
  · rw [if_neg c]; exact nxF_le h hw
theorem faF_le {M l n o i : Nat} {ag : Nat → Int32} {x : Int32} {s : LK} (hn : n ≤ 60) (h : GdS n s) : LeS n s (faF M l n ag o x i s).1 := by
  unfold faF
  by_cases c : okX M l o x
  · rw [pite_t c]
    split
    · exact LeS.rf h
    · split
      · exact LeS.rf h
      · exact jpF_le hn h (by omega)
  · rw [pite_f c]; exact LeS.rf h
/-- what is left to do -/
def nuS (n : Nat) (s : LK) : Nat := sN (fun i => if s.1 i = -1 then 1 else if s.2 i = 0 then 0 else 1) n
theorem nuS_le {n : Nat} {s s' : LK} (h : LeS n s s') : nuS n s' ≤ nuS n s := by
  refine sN_le n fun i hi => ?_
  show (if s'.1 i = -1 then 1 else if s'.2 i = 0 then 0 else 1) ≤ (if s.1 i = -1 then 1 else if s.2 i = 0 then 0 else 1)
  by_cases c : s.1 i = -1
  · rw [if_pos c]
    split
    · exact Nat.le_refl _
    · split <;> omega
  · obtain ⟨a, b⟩ := h.2.1 i c
    rw [a, b]; exact Nat.le_refl _
theorem pop_gd {n i : Nat} {s : LK} (h : GdS n s) : GdS n (s.1, upd s.2 i 0) := by
  refine ⟨fun j hj => ⟨(h.1 j hj).1, fun q => ?_⟩, fun j hj => ⟨(h.2 j hj).1, ?_⟩⟩
  · have q : ¬ upd s.2 i 0 j = 0 := q
    have w : j ≠ i := fun w => q (by rw [w, upd_s])
    rw [upd_n _ _ w] at q
    exact (h.1 j hj).2 q
  · show upd s.2 i 0 j = 0
    by_cases w : j = i
    · rw [w, upd_s]
    · rw [upd_n _ _ w]; exact (h.2 j hj).2
theorem pop_nu {n i : Nat} {s : LK} (h : GdS n s) (hi : i < n) (hw : ¬ s.2 i = 0) : nuS n (s.1, upd s.2 i 0) < nuS n s := by
  have hl := (h.1 i hi).2 hw
  refine sN_lt n (fun j _ => ?_) i hi ?_
  · show (if s.1 j = -1 then 1 else if upd s.2 i 0 j = 0 then 0 else 1) ≤ (if s.1 j = -1 then 1 else if s.2 j = 0 then 0 else 1)
    by_cases w : j = i
    · rw [w, if_neg hl, if_neg hl, upd_s, if_pos rfl]; omega
    · rw [upd_n _ _ w]; exact Nat.le_refl _
  · show (if s.1 i = -1 then 1 else if upd s.2 i 0 i = 0 then 0 else 1) < (if s.1 i = -1 then 1 else if s.2 i = 0 then 0 else 1)
    rw [if_neg hl, if_neg hl, upd_s, if_pos rfl, if_neg hw]; omega
/-- what waits lies below n -/
theorem lw_n {n : Nat} {s : LK} (h : GdS n s) (hl : lw s.2 < 60) : lw s.2 < n := Nat.not_le.mp (fun q => (lw_lt hl).1 (h.2 _ q).2)
theorem nu_0 {n : Nat} {s : LK} (hn : n ≤ 60) (h : GdS n s) (h0 : nuS n s = 0) : ¬ lw s.2 < 60 := fun hl => by
  have hi := lw_n h hl
  have := sN_lt (f := fun j => if j = lw s.2 then 0 else (if s.1 j = -1 then 1 else if s.2 j = 0 then 0 else 1)) (g := fun j => if s.1 j = -1 then 1 else if s.2 j = 0 then 0 else 1) n (fun j _ => by
    show (if j = lw s.2 then 0 else _) ≤ _
    split <;> omega) (lw s.2) hi (by
    show (if lw s.2 = lw s.2 then 0 else _) < (if s.1 (lw s.2) = -1 then 1 else if s.2 (lw s.2) = 0 then 0 else 1)
    rw [if_pos rfl, if_neg ((h.1 _ hi).2 (lw_lt hl).1), if_neg (lw_lt hl).1]; omega)
  unfold nuS at h0
  omega
/-- what the whole list leaves -/
theorem lpF_gd {M l n : Nat} {ag : Nat → Int32} {op : Nat → Nat} {xs : Nat → Int32} (hn : n ≤ 60) : ∀ (k : Nat) (s : LK), GdS n s → nuS n s ≤ k → GdS n (lpF M l n ag op xs k s).1 ∧ ((lpF M l n ag op xs k s).2.1 = 0 → ¬ lw (lpF M l n ag op xs k s).1.2 < 60) := by
  intro k
  induction k with
  | zero => intro s h h0; exact ⟨h, fun _ => nu_0 (s := s) hn h (by omega)⟩
  | succ k ih =>
    intro s h hk
    unfold lpF
    by_cases c : lw s.2 < 60
    · rw [if_pos c]
      have hle := faF_le (M := M) (l := l) (ag := ag) (o := op (lw s.2)) (i := lw s.2) (x := xs (lw s.2)) hn (pop_gd (i := lw s.2) h)
      have h1 := nuS_le hle
      have h2 := pop_nu h (lw_n h c) (lw_lt c).1
      split
      · exact ih _ hle.1 (by omega)
      · rename_i q
        exact ⟨hle.1, fun w => absurd w q⟩
    · rw [if_neg c]; exact ⟨h, fun _ => c⟩
