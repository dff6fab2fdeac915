/-! THE REFERENCE, exactly: a METHOD is looked over -/
theorem z_out {x : Int32} {B : Nat} (hB : B < 2 ^ 31) (h : x.toInt < 0 ∨ (B : Int) ≤ x.toInt) : ∀ z : Nat, z < B → ¬ x = nI z := fun z hz e => by
  have := nI_toInt (n := z) (by omega)
  rw [← e] at this
  omega
theorem sq_isOperand {S : MST} {M m l o : Nat} {x : Int32} {Post : Int32 → Prop} (hM : S 0 0 = nI M) (hM8 : M ≤ 8) (hm : m < 8) (hl : S 2 m = nI l) (hl6 : l ≤ 6) (ho : o < 20) (h0 : ¬ okX M l o x → Post 0) (h1 : okX M l o x → Post 1) : wp_X12_isOperand S (nI m) (nI o) x Post := by
  unfold wp_X12_isOperand
  have hc : (nI m).toNatClampNeg = m := nI_clamp (by omega)
  have hv : vp_in (nI m) 8 := vp_in_nI hm (by omega)
  have t3 : (3 : Int64).toInt = 3 := by decide
  have t7 : (7 : Int64).toInt = 7 := by decide
  have t0 : (0 : Int64).toInt = 0 := by decide
  rw [hc, hl]
  have eo : ∀ k : Nat, k < 20 → nI o = nI k → o = k := fun k hk q => nI_inj q (by omega) (by omega)
  have tr : (¬ (o = 1 ∨ o = 2)) → (¬ o = 11) → (¬ (o = 13 ∨ o = 14)) → (¬ (o = 15 ∨ o = 16 ∨ o = 17)) → Post 1 := fun a b c d => h1 ⟨fun q => absurd q a, fun q => absurd q b, fun q => absurd q c, fun q => absurd q d⟩
  have trk : ∀ k : Nat, k < 20 → (3 ≤ k ∧ k ≤ 10 ∨ k = 12) → nI o = nI k → Post 1 := fun k hk hs c => by
    have := eo k hk c
    exact tr (by omega) (by omega) (by omega) (by omega)
  have kl : ∀ k : Nat, k < 20 → (k = 1 ∨ k = 2) → nI o = nI k → (vp_in (nI m) 8 ∧ (wp_X12_in ((x : Int32).toInt64) 0 ((nI l - 1 : Int32).toInt64) (fun r2 => (r2 = 0 ∨ r2 = 1) ∧ Post r2))) := fun k hk hs c => by
    have := eo k hk c
    refine ⟨hv, sp_in0 (n := l) (by omega) rfl (fun q => ⟨Or.inl rfl, h0 (fun w => ?_)⟩) (fun y hy e => ⟨Or.inr rfl, h1 ⟨fun _ => ⟨y, hy, e⟩, fun q => absurd q (by omega), fun q => absurd q (by omega), fun q => absurd q (by omega)⟩⟩)⟩
    obtain ⟨z, hz, e⟩ := w.1 (by omega)
    exact z_out (by omega) q z hz e
  have k8 : ∀ k : Nat, k < 20 → (k = 13 ∨ k = 14) → nI o = nI k → wp_X12_in ((x : Int32).toInt64) 0 7 (fun r6 => (r6 = 0 ∨ r6 = 1) ∧ Post r6) := fun k hk hs c => by
    have := eo k hk c
    refine sp_inL (fun q => ⟨Or.inl rfl, h0 (fun w => ?_)⟩) (fun ha hb => ⟨Or.inr rfl, ?_⟩)
    · rw [t0, t7] at q
      obtain ⟨z, hz, e⟩ := w.2.2.1 (by omega)
      exact z_out (B := 8) (by omega) (by omega) z hz e
    rw [t0] at ha
    rw [t7] at hb
    obtain ⟨y, hy, e⟩ := z_nat (M := 8) ha (by omega) (by omega)
    exact h1 ⟨fun q => absurd q (by omega), fun q => absurd q (by omega), fun _ => ⟨y, hy, e⟩, fun q => absurd q (by omega)⟩
  have k4 : ∀ k : Nat, k < 20 → (k = 15 ∨ k = 16 ∨ k = 17) → nI o = nI k → wp_X12_in ((x : Int32).toInt64) 0 3 (fun r6 => (r6 = 0 ∨ r6 = 1) ∧ Post r6) := fun k hk hs c => by
    have := eo k hk c
    refine sp_inL (fun q => ⟨Or.inl rfl, h0 (fun w => ?_)⟩) (fun ha hb => ⟨Or.inr rfl, ?_⟩)
    · rw [t0, t3] at q
      obtain ⟨z, hz, e⟩ := w.2.2.2 (by omega)
      exact z_out (B := 4) (by omega) (by omega) z hz e
    rw [t0] at ha
    rw [t3] at hb
    obtain ⟨y, hy, e⟩ := z_nat (M := 4) ha (by omega) (by omega)
    exact h1 ⟨fun q => absurd q (by omega), fun q => absurd q (by omega), fun q => absurd q (by omega), fun _ => ⟨y, hy, e⟩⟩
  refine ⟨fun c => ?_, kl 1 (by omega) (by omega), kl 2 (by omega) (by omega), trk 3 (by omega) (by omega), trk 4 (by omega) (by omega), trk 5 (by omega) (by omega), trk 6 (by omega) (by omega), trk 7 (by omega) (by omega), trk 8 (by omega) (by omega), trk 9 (by omega) (by omega), trk 10 (by omega) (by omega), fun c => ?_, trk 12 (by omega) (by omega), k8 13 (by omega) (by omega), k8 14 (by omega) (by omega), k4 15 (by omega) (by omega), k4 16 (by omega) (by omega), k4 17 (by omega) (by omega)⟩
  · rw [nI_toInt (by omega)] at c
    exact tr (by omega) (by omega) (by omega) (by omega)
  · have := eo 11 (by omega) c
    exact sp_isMethod hM hM8 (fun q => ⟨Or.inl rfl, h0 (fun w => by
      obtain ⟨z, hz, e⟩ := w.2.1 (by omega)
      exact z_out (by omega) q z hz e)⟩) (fun y hy e => ⟨Or.inr rfl, h1 ⟨fun q => absurd q (by omega), fun _ => ⟨y, hy, e⟩, fun q => absurd q (by omega), fun q => absurd q (by omega)⟩⟩)
/-- the reference in the midst of looking METHOD m over: from S0 on -/
def LkM (S0 : MST) (m : Nat) (S : MST) (s : LK) : Prop := Fm [7, 9, 10] S0 S ∧ (∀ t : Nat, t < 60 * m ∨ 60 * m + 60 ≤ t → S 7 t = S0 7 t) ∧ (∀ j : Nat, j < 60 → S 7 (60 * m + j) = s.1 j) ∧ ∀ j : Nat, j < 60 → S 10 j = s.2 j
theorem sq_comesTo {S0 S : MST} {m i d : Nat} {s : LK} {Post : MST → Int32 → Prop} (hm : m < 8) (hi : i < 60) (hs : LkM S0 m S s) (h : ∀ S' : MST, LkM S0 m S' (cmF s i (nI d)).1 → Post S' (cmF s i (nI d)).2) : wp_X12_comesTo S (nI m) (nI i) (nI d) Post := by
  obtain ⟨hF, ho, h7, h10⟩ := hs
  have e7 := h7 i hi
  refine sp_comesTo hm hi (fun c => ?_) (fun c c2 => ?_) (fun c c2 => ?_)
  · have hc : cmF s i (nI d) = ((upd s.1 i (nI d), upd s.2 i 1), 0) := if_pos (by rw [← e7]; exact c)
    have c7 : cmS S m i (nI d) 7 = upd (S 7) (60 * m + i) (nI d) := by unfold cmS; rw [ms_n _ _ (show 7 ≠ 10 by decide), ms_s]
    have c10 : cmS S m i (nI d) 10 = upd (S 10) i 1 := by unfold cmS; rw [ms_s]
    rw [hc] at h
    refine h _ ⟨fun k hk => ?_, fun t ht => ?_, fun j hj => ?_, fun j hj => ?_⟩
    · unfold cmS
      rw [ms_n _ _ (fun w => by rw [w] at hk; cases hk), ms_n _ _ (fun w => by rw [w] at hk; cases hk)]
      exact hF k hk
    · rw [c7, upd_n _ _ (by omega)]; exact ho t ht
    · show cmS S m i (nI d) 7 (60 * m + j) = upd s.1 i (nI d) j
      rw [c7]
      by_cases w : j = i
      · rw [w, upd_s, upd_s]
      · rw [upd_n _ _ w, upd_n _ _ (by omega)]; exact h7 j hj
    · show cmS S m i (nI d) 10 j = upd s.2 i 1 j
      rw [c10]
      by_cases w : j = i
      · rw [w, upd_s, upd_s]
      · rw [upd_n _ _ w, upd_n _ _ w]; exact h10 j hj
  · have hc : cmF s i (nI d) = (s, 0) := by
      unfold cmF
      rw [if_neg (by rw [← e7]; exact c), if_pos (by rw [← e7]; exact c2)]
    rw [hc] at h
    exact h S ⟨hF, ho, h7, h10⟩
  · have hc : cmF s i (nI d) = (s, 3) := by
      unfold cmF
      rw [if_neg (by rw [← e7]; exact c), if_neg (by rw [← e7]; exact c2)]
    rw [hc] at h
    exact h S ⟨hF, ho, h7, h10⟩
theorem sq_looksAt {S0 S : MST} {M m l n o i : Nat} {x : Int32} {s : LK} {Post : MST → Int32 → Prop} (hM : S 0 0 = nI M) (hM8 : M ≤ 8) (hm : m < M) (hag : ∀ z : Nat, z < M → ∃ a : Nat, a ≤ 3 ∧ S 1 z = nI a) (hl : S 2 m = nI l) (hl6 : l ≤ 6) (hn : S 3 m = nI n) (hn60 : n ≤ 60) (hi : i < n) (ho : o < 20) (h4 : S 4 (60 * m + i) = nI o) (h5 : S 5 (60 * m + i) = x)
    (hs : LkM S0 m S s) (hg : GdS n s) (hlive : ¬ s.1 i = -1) (h : ∀ S' : MST, LkM S0 m S' (faF M l n (S 1) o x i s).1 → Post S' (faF M l n (S 1) o x i s).2) : wp_X12_looksAt S (nI m) (nI i) Post := by
  have hc : (nI (60 * m + i)).toNatClampNeg = 60 * m + i := nI_clamp (by omega)
  have hcm : (nI m).toNatClampNeg = m := nI_clamp (by omega)
  have hv : vp_in (nI (60 * m + i)) 480 := vp_in_nI (by omega) (by omega)
  have hvm : vp_in (nI m) 8 := vp_in_nI (by omega) (by omega)
  have h7i := hs.2.2.1 i (by omega)
  obtain ⟨d, hd8, hd⟩ := (hg.1 i hi).1.resolve_left hlive
  have hdi : S 7 (60 * m + i) = nI d := h7i.trans hd
  have hdc : (s.1 i).toNatClampNeg = d := by rw [hd]; exact nI_clamp (by omega)
  have eo : ∀ k : Nat, k < 20 → nI o = nI k → o = k := fun k hk q => nI_inj q (by omega) (by omega)
  obtain ⟨ax, hax⟩ : ∃ ax : Nat, ax = (S 1 x.toNatClampNeg).toNatClampNeg := ⟨_, rfl⟩
  have haxx : ∀ z : Nat, z < M → x = nI z → S 1 z = nI ax ∧ ax ≤ 3 := fun z hz e => by
    obtain ⟨a, ha, h2⟩ := hag z hz
    rw [e, nI_clamp (by omega), h2, nI_clamp (by omega)] at hax
    rw [h2, hax]; exact ⟨rfl, by omega⟩
  unfold wp_X12_looksAt
  simp only [ix60, hc, hcm, hdi, h4, h5, nI_1]
  refine ⟨hv, hv, hv, sq_isOperand hM hM8 (by omega) hl hl6 ho (fun nok => ⟨fun c => absurd rfl c, fun _ => ?_⟩) (fun hok => ⟨fun _ => ?_, fun c => absurd c (by decide)⟩)⟩
  · have hf : faF M l n (S 1) o x i s = (s, 6) := pite_f nok
    rw [hf] at h
    exact h S hs
  have hax8 : o = 11 → ∃ y : Nat, y < 8 ∧ x = nI y ∧ S 1 y = nI ax := fun q => by
    obtain ⟨z, hz, e⟩ := hok.2.1 q
    exact ⟨z, by omega, e, (haxx z hz e).1⟩
  have htk : tkN o ax ≤ 3 := by
    unfold tkN
    by_cases h11 : o = 11
    · obtain ⟨z, hz, e⟩ := hok.2.1 h11
      have := (haxx z hz e).2
      subst h11
      simp only [show ¬ (11 = 0 ∨ 11 = 1 ∨ 11 = 9 ∨ 11 = 13) by decide, if_false, if_true]
      exact this
    · rw [if_neg h11]
      split
      · omega
      · split <;> omega
  have hly : lyN o ≤ 2 := by
    unfold lyN
    split
    · omega
    · split <;> omega
  have hf0 : faF M l n (S 1) o x i s = (if d < tkN o ax then (s, 1) else if 8 < d - tkN o ax + lyN o then (s, 2) else jpF n o x i (d - tkN o ax + lyN o) s) := by
    have q : faF M l n (S 1) o x i s = _ := pite_t hok
    rw [q, hdc, ← hax]
  refine sp_takes ho hax8 ⟨fun c => ?_, fun c => ?_⟩
  rotate_left
  · have hlt : d < tkN o ax := Nat.not_le.mp (fun q => c (nI_le q (by omega)))
    rw [if_pos hlt] at hf0
    rw [hf0] at h
    exact h S hs
  have ht : tkN o ax ≤ d := Nat.not_lt.mp (fun q => nI_ge q (by omega) c)
  rw [if_neg (by omega)] at hf0
  refine sp_takes ho hax8 (sp_lays ho ?_)
  rw [nI_sub ht, nI_add]
  generalize hw : d - tkN o ax + lyN o = w at hf0 ⊢
  refine ⟨fun c8 => ?_, fun c8 => ?_⟩
  rotate_left
  · have hlt : 8 < w := Nat.not_le.mp (fun q => c8 (nI_le (a := w) (b := 8) q (by omega)))
    rw [if_pos hlt] at hf0
    rw [hf0] at h
    exact h S hs
  have h8 : w ≤ 8 := Nat.not_lt.mp (fun q => nI_ge (a := 8) (b := w) q (by omega) c8)
  rw [if_neg (by omega)] at hf0
  rw [hf0] at h
  have tail : ∀ (S1 : MST) (s1 : LK), LkM S0 m S1 s1 → (∀ S' : MST, LkM S0 m S' (nxF n o i w s1).1 → Post S' (nxF n o i w s1).2) →
      ((((nI o : Int32) = 9) → (Post S1 0)) ∧ ((¬ ((nI o : Int32) = 9)) → (((¬ ((nI o : Int32) = 12)) → (vp_in (nI m) 8 ∧ (((¬ ((nI (i + 1) : Int32) = (S1 3 m))) → (wp_X12_comesTo S1 (nI m) (nI (i + 1)) (nI w) (fun S21 r21 => Post S21 r21))) ∧ (((nI (i + 1) : Int32) = (S1 3 m)) → (Post S1 5))))) ∧ (((nI o : Int32) = 12) → (Post S1 0))))) := by
    intro S1 s1 hs1 hp
    have stop : (o = 9 ∨ o = 12) → Post S1 0 := fun q => by
      have e : nxF n o i w s1 = (s1, 0) := if_pos q
      rw [e] at hp
      exact hp S1 hs1
    refine ⟨fun q => stop (Or.inl (eo 9 (by omega) q)), fun q9 => ⟨fun q12 => ?_, fun q => stop (Or.inr (eo 12 (by omega) q))⟩⟩
    have e : nxF n o i w s1 = if i + 1 < n then cmF s1 (i + 1) (nI w) else (s1, 5) := if_neg (fun q => q.elim (fun q => q9 (by rw [q]; rfl)) (fun q => q12 (by rw [q]; rfl)))
    have hn1 : S1 3 m = nI n := by rw [hs1.1 3 rfl, ← hs.1 3 rfl]; exact hn
    rw [hn1]
    by_cases hi1 : i + 1 < n
    · rw [if_pos hi1] at e
      rw [e] at hp
      exact ⟨hvm, fun _ => sq_comesTo (by omega) (by omega) hs1 hp, fun q => absurd (nI_inj q (by omega) (by omega)) (by omega)⟩
    · rw [if_neg hi1] at e
      rw [e] at hp
      exact ⟨hvm, fun q => absurd (by rw [show i + 1 = n by omega]) q, fun _ => hp S1 hs1⟩
  have jump : (o = 9 ∨ o = 10) → (vp_in (nI m) 8 ∧ (wp_X12_in ((x : Int32).toInt64) 0 (((S 3 m) - 1 : Int32).toInt64) (fun r13 => ((¬ ((r13 : Int32) = 0)) → (wp_X12_comesTo S (nI m) x (nI w) (fun S15 r15 => (((r15 : Int32) = 0) → ((((nI o : Int32) = 9) → (Post S15 0)) ∧ ((¬ ((nI o : Int32) = 9)) → (((¬ ((nI o : Int32) = 12)) → (vp_in (nI m) 8 ∧ (((¬ ((nI (i + 1) : Int32) = (S15 3 m))) → (wp_X12_comesTo S15 (nI m) (nI (i + 1)) (nI w) (fun S21 r21 => Post S21 r21))) ∧ (((nI (i + 1) : Int32) = (S15 3 m)) → (Post S15 5))))) ∧ (((nI o : Int32) = 12) → (Post S15 0)))))) ∧ ((¬ ((r15 : Int32) = 0)) → (Post S15 r15))))) ∧ (((r13 : Int32) = 0) → (Post S 4))))) := by
    intro hj
    have e0 : jpF n o x i w s = pite (∃ z : Nat, z < n ∧ x = nI z) (if (cmF s x.toNatClampNeg (nI w)).2 = 0 then nxF n o i w (cmF s x.toNatClampNeg (nI w)).1 else cmF s x.toNatClampNeg (nI w)) (s, 4) := if_pos hj
    rw [hn]
    refine ⟨hvm, sp_in0 (n := n) (by omega) rfl (fun q => ⟨fun q => absurd rfl q, fun _ => ?_⟩) (fun z hz ez => ⟨fun _ => ?_, fun q => absurd q (by decide)⟩)⟩
    · rw [pite_f (fun q2 => by obtain ⟨z, hz, e⟩ := q2; exact z_out (by omega) q z hz e)] at e0
      rw [e0] at h
      exact h S hs
    · rw [pite_t ⟨z, hz, ez⟩, ez, nI_clamp (by omega)] at e0
      rw [ez] at h ⊢
      rw [e0] at h
      refine sq_comesTo (by omega) (by omega) hs (fun S' hs' => ?_)
      rcases cm01 s z (nI w) with q | q
      · rw [if_pos q] at h
        rw [q]
        exact ⟨fun _ => tail S' _ hs' h, fun q => absurd rfl q⟩
      · rw [if_neg (by rw [q]; decide), q] at h
        rw [q]
        exact ⟨fun q => absurd q (by decide), fun _ => h S' hs'⟩
  refine ⟨fun q => jump (Or.inl (eo 9 (by omega) q)), fun q9 => ⟨fun q10 => tail S s hs ?_, fun q => jump (Or.inr (eo 10 (by omega) q))⟩⟩
  have e0 : jpF n o x i w s = nxF n o i w s := if_neg (fun q => q.elim (fun q => q9 (by rw [q]; rfl)) (fun q => q10 (by rw [q]; rfl)))
  rw [e0] at h
  exact h
theorem sq_nextWaiting {S : MST} {m n : Nat} {W : Nat → Int32} {Post : Int32 → Prop} (hm : m < 8) (hn : S 3 m = nI n) (hn60 : n ≤ 60) (hW : ∀ j : Nat, j < 60 → S 10 j = W j) (hz : ∀ j : Nat, n ≤ j → j < 60 → W j = 0) (h0 : ¬ lw W < 60 → Post (-1)) (h1 : lw W < 60 → Post (nI (lw W))) : wp_X12_nextWaiting S (nI m) Post := by
  unfold wp_X12_nextWaiting
  have hc : (nI m).toNatClampNeg = m := nI_clamp (by omega)
  have key : ∀ (k j : Nat), j + k = n → (∀ i : Nat, i < j → W i = 0) → wl_X12_nextWaiting_2 S (Post (-1)) (fun x => Post x) Post (k + 1) (nI m) (nI j) := by
    intro k
    induction k with
    | zero =>
      intro j hj hzz
      obtain rfl : j = n := by omega
      unfold wl_X12_nextWaiting_2
      rw [hc, hn]
      refine ⟨vp_in_nI hm (by omega), fun _ => h0 ?_, fun c => absurd (nI_le (Nat.le_refl _) (by omega)) c⟩
      rw [lw_no (fun t ht => (Nat.lt_or_ge t j).elim (hzz t) (fun q => hz t q ht))]
      omega
    | succ k ih =>
      intro j hj hzz
      unfold wl_X12_nextWaiting_2
      rw [hc, hn, nI_clamp (n := j) (by omega), hW j (by omega), nI_1]
      refine ⟨vp_in_nI hm (by omega), fun c => absurd c (nI_ge (by omega) (by omega)), fun _ => ⟨vp_in_nI (by omega) (by omega), fun c => ih (j + 1) (by omega) (fun i hi => ?_), fun c => ?_⟩⟩
      · rcases Nat.lt_or_ge i j with q | q
        · exact hzz i q
        · rw [show i = j by omega]; exact c
      · have e := lw_at (by omega) c hzz
        rw [← e]
        exact h1 (by omega)
  exact ⟨n + 1, key n 0 (by omega) (fun i hi => absurd hi (by omega))⟩
/-- the greatest depth of the places gone through -/
def MoR (n : Nat) (s : LK) (b : Nat) : Prop := b ≤ 8 ∧ (∀ i d : Nat, i < n → d ≤ 8 → s.1 i = nI d → s.2 i = 0 → d ≤ b) ∧ (b = 0 ∨ ∃ i : Nat, i < n ∧ s.1 i = nI b)
theorem MoR.step {n i d b : Nat} {s s' : LK} (h : MoR n s b) (hi : i < n) (hd8 : d ≤ 8) (hd : s.1 i = nI d) (hle : LeS n (s.1, upd s.2 i 0) s') (hg : GdS n s) : MoR n s' (if d ≤ b then b else d) := by
  have hl : ∀ j : Nat, ¬ s.1 j = -1 → s'.1 j = s.1 j ∧ s'.2 j = upd s.2 i 0 j := fun j hj => hle.2.1 j hj
  have hb := h.1
  refine ⟨by split <;> omega, fun j e hj he8 hje hw => ?_, ?_⟩
  · by_cases w : j = i
    · have hd' : s'.1 j = nI d := by rw [w, (hl i (by rw [hd]; exact nI_neg1 (by omega))).1]; exact hd
      have : e = d := nI_inj (hje.symm.trans hd') (by omega) (by omega)
      split <;> omega
    · have hlj : ¬ s.1 j = -1 := by
        intro q
        -- come to just now: it waits
        by_cases q2 : s'.1 j = -1
        · rw [q2] at hje; exact nI_neg1 (n := e) (by omega) hje.symm
        · exact hle.2.2.2 j q q2 hw
      obtain ⟨a1, a2⟩ := hl j hlj
      have := h.2.1 j e hj he8 (by rw [← a1]; exact hje) (by rw [← upd_n s.2 (0 : Int32) w, ← a2]; exact hw)
      split <;> omega
  · split
    · rcases h.2.2 with q | ⟨j, hj, q⟩
      · exact Or.inl q
      · exact Or.inr ⟨j, hj, by rw [(hl j (by rw [q]; exact nI_neg1 (by omega))).1]; exact q⟩
    · exact Or.inr ⟨i, hi, by rw [(hl i (by rw [hd]; exact nI_neg1 (by omega))).1]; exact hd⟩
theorem MoR.mx {n b : Nat} {s : LK} (h : MoR n s b) (hz : ∀ t : Nat, t < 60 → s.2 t = 0) (hn60 : n ≤ 60) : MxR n s.1 b := ⟨h.1, fun i d hi hd q => h.2.1 i d hi hd q (hz i (by omega)), h.2.2⟩
/-- what looking METHOD m over leaves: R what it comes to -/
def GoM (S : MST) (m n : Nat) (R : LK × Int32 × Nat) (S' : MST) (r : Int32) : Prop :=
  (∀ j : Nat, j < 60 → S' 7 (60 * m + j) = R.1.1 j) ∧ (∀ t : Nat, t < 60 * m ∨ 60 * m + 60 ≤ t → S' 7 t = S 7 t) ∧ S' 9 0 = R.2.1 ∧
  ((R.2.1 = 0 ∧ GdS n R.1 ∧ ∃ b : Nat, MxR n R.1.1 b ∧ S' 8 = upd (S 8) m (nI b) ∧ S' 6 = upd (S 6) m 1 ∧ r = nI b) ∨ (¬ R.2.1 = 0 ∧ S' 8 = S 8 ∧ S' 6 = S 6 ∧ r = -100 - nI R.2.2))
theorem LkM.put9 {S0 S S' : MST} {m : Nat} {s : LK} {r : Int32} (h : LkM S0 m S s) (e : S' = ms S 9 (fun _ => r)) : LkM S0 m S' s := by
  obtain ⟨h1, h2, h3, h4⟩ := h
  have l : ∀ k : Nat, k ≠ 9 → S' k = S k := fun k hk => by rw [e]; exact ms_n S _ hk
  exact ⟨Fm.put e rfl h1, fun t ht => by rw [l 7 (by decide)]; exact h2 t ht, fun j hj => by rw [l 7 (by decide)]; exact h3 j hj, fun j hj => by rw [l 10 (by decide)]; exact h4 j hj⟩
theorem sq_look91 {S0 : MST} {M m l n : Nat} {op : Nat → Nat} {xs : Nat → Int32} {R : LK × Int32 × Nat} {K1 : MST → Int32 → Int32 → Prop} {K2 : MST → Int32 → Prop} {Post : MST → Int32 → Prop} (hM : S0 0 0 = nI M) (hM8 : M ≤ 8) (hm : m < M) (hag : ∀ z : Nat, z < M → ∃ a : Nat, a ≤ 3 ∧ S0 1 z = nI a) (hl : S0 2 m = nI l) (hl6 : l ≤ 6) (hn : S0 3 m = nI n) (hn60 : n ≤ 60)
    (hops : ∀ i : Nat, i < n → op i < 20 ∧ S0 4 (60 * m + i) = nI (op i) ∧ S0 5 (60 * m + i) = xs i)
    (hdone : R.2.1 = 0 → ∀ (S : MST) (b : Nat), LkM S0 m S R.1 → GdS n R.1 → MxR n R.1.1 b → S 9 0 = 0 → K1 S (nI m) (nI b)) (hfault : ¬ R.2.1 = 0 → ∀ S : MST, LkM S0 m S R.1 → S 9 0 = R.2.1 → K2 S (nI R.2.2)) :
    ∀ (k : Nat) (S : MST) (s : LK) (b i : Nat), LkM S0 m S s → GdS n s → MoR n s b → lw s.2 < 60 → i = lw s.2 → nuS n s ≤ k → lpF M l n (S0 1) op xs k s = R → wl_X12_look_91 K1 K2 Post (k + 1) S (nI m) (nI b) (nI i) := by
  intro k
  induction k with
  | zero => intro S s b i hs hgd hb hlw hi hnu hR; exact absurd hlw (nu_0 hn60 hgd (by omega))
  | succ k ih =>
    intro S s b i hs hgd hb hlw hi hnu hR
    have e : lpF M l n (S0 1) op xs (k + 1) s = _ := if_pos hlw
    rw [e] at hR
    have hin := lw_n hgd hlw
    have hw := (lw_lt hlw).1
    have hlive := (hgd.1 _ hin).2 hw
    have hnu2 := pop_nu hgd hin hw
    have hgd2 := pop_gd (i := lw s.2) hgd
    rw [← hi] at hR hin hw hlive hnu2 hgd2 hlw
    clear hi e
    obtain ⟨d, hd8, hd⟩ := (hgd.1 i hin).1.resolve_left hlive
    obtain ⟨o20, oe, xe⟩ := hops i hin
    unfold wl_X12_look_91
    rw [ix60, nI_clamp (n := i) (by omega), nI_clamp (n := 60 * m + i) (by omega), vn_0]
    refine ⟨fun q => absurd q (nI_nn i (by omega)), fun _ => ⟨vp_in_nI (by omega) (by omega), fun S12 e12 => ?_⟩⟩
    have hs12 : LkM S0 m S12 (s.1, upd s.2 i 0) := by
      obtain ⟨a1, a2, a3, a4⟩ := hs
      have l12 : ∀ k : Nat, k ≠ 10 → S12 k = S k := fun k hk => by rw [e12]; exact ms_n S _ hk
      refine ⟨Fm.put e12 rfl a1, fun t ht => by rw [l12 7 (by decide)]; exact a2 t ht, fun j hj => by rw [l12 7 (by decide)]; exact a3 j hj, fun j hj => ?_⟩
      show S12 10 j = upd s.2 i 0 j
      rw [e12, ms_s]
      by_cases w : j = i
      · rw [w, upd_s, upd_s]
      · rw [upd_n _ _ w, upd_n _ _ w]; exact a4 j hj
    have hd12 : S12 7 (60 * m + i) = nI d := (hs12.2.2.1 i (by omega)).trans hd
    have hF := hs12.1
    have hb8 := hb.1
    have after : ∀ b' : Nat, b' = (if d ≤ b then b else d) → wp_X12_looksAt S12 (nI m) (nI i) (fun S15 r15 => ∀ S16 : MST, S16 = ms S15 9 (fun _ => r15) → (((S16 9 0 : Int32) = 0) → (wp_X12_nextWaiting S16 (nI m) (fun r18 => wl_X12_look_91 K1 K2 Post (k + 1) S16 (nI m) (nI b') r18))) ∧ ((¬ ((S16 9 0 : Int32) = 0)) → K2 S16 (nI i))) := by
      intro b' hb'
      refine sq_looksAt (S0 := S0) (M := M) (l := l) (n := n) (o := op i) (x := xs i) (s := (s.1, upd s.2 i 0)) (by rw [hF 0 rfl]; exact hM) hM8 hm (by rw [hF 1 rfl]; exact hag) (by rw [hF 2 rfl]; exact hl) hl6 (by rw [hF 3 rfl]; exact hn) hn60 hin o20 (by rw [hF 4 rfl]; exact oe) (by rw [hF 5 rfl]; exact xe) hs12 hgd2 hlive (fun S15 hs15 S16 e16 => ?_)
      rw [hF 1 rfl] at hs15 e16
      have hs16 := LkM.put9 hs15 e16
      have v16 : S16 9 0 = (faF M l n (S0 1) (op i) (xs i) i (s.1, upd s.2 i 0)).2 := by rw [e16, ms_s]
      have hle := faF_le (M := M) (l := l) (ag := S0 1) (o := op i) (i := i) (x := xs i) hn60 hgd2
      have hb2 : MoR n (faF M l n (S0 1) (op i) (xs i) i (s.1, upd s.2 i 0)).1 b' := by rw [hb']; exact MoR.step hb hin hd8 hd hle hgd
      rw [v16]
      refine ⟨fun q => ?_, fun q => ?_⟩
      · rw [if_pos q] at hR
        refine sq_nextWaiting (n := n) (by omega) (by rw [hs16.1 3 rfl]; exact hn) hn60 hs16.2.2.2 (fun j hj _ => (hle.1.2 j hj).2) (fun c => ?_) (fun c => ?_)
        · unfold wl_X12_look_91
          refine ⟨fun _ => ?_, fun q => absurd (show (-1 : Int32) < 0 by decide) q⟩
          have e0 : R = ((faF M l n (S0 1) (op i) (xs i) i (s.1, upd s.2 i 0)).1, 0, 60) := by
            rw [← hR]
            cases k with
            | zero => rfl
            | succ k => exact if_neg c
          refine hdone (by rw [e0]) S16 b' (by rw [e0]; exact hs16) (by rw [e0]; exact hle.1) (by rw [e0]; exact hb2.mx (lw_60 c) hn60) (v16.trans q)
        · exact ih S16 _ b' _ hs16 hle.1 hb2 c rfl (by have := nuS_le hle; omega) hR
      · rw [if_neg q] at hR
        subst hR
        exact hfault q S16 hs16 v16
    refine ⟨vp_in_nI (by omega) (by omega), ?_⟩
    rw [hd12]
    refine ⟨fun c => after b ?_, fun c => ⟨vp_in_nI (by omega) (by omega), after d ?_⟩⟩
    · rw [if_pos ((nI_leI (by omega) (by omega)).mp c)]
    · rw [if_neg (fun q => c (nI_le q (by omega)))]
theorem sq_clear {S0 : MST} {m n : Nat} {K : MST → Int32 → Prop} {Post : MST → Int32 → Prop} (hm : m < 8) (h : ∀ S1 : MST, LkM S0 m S1 s00 → K S1 (nI m)) : ∀ (k j : Nat) (S : MST), j + k = 60 → Fm [7, 9, 10] S0 S → (∀ t : Nat, t < 60 * m ∨ 60 * m + 60 ≤ t → S 7 t = S0 7 t) → (∀ t : Nat, t < j → S 7 (60 * m + t) = -1 ∧ S 10 t = 0) → wl_X12_look_30 K Post (k + 1) S (nI m) (nI j) := by
  intro k
  induction k with
  | zero =>
    intro j S hj hF ho hz
    obtain rfl : j = 60 := by omega
    unfold wl_X12_look_30
    exact ⟨fun _ => h S ⟨hF, ho, fun t ht => (hz t ht).1, fun t ht => (hz t ht).2⟩, fun q => absurd (show (60 : Int32) ≤ nI 60 by decide) q⟩
  | succ k ih =>
    intro j S hj hF ho hz
    unfold wl_X12_look_30
    rw [ix60, nI_clamp (n := j) (by omega), nI_clamp (n := 60 * m + j) (by omega), vn_0, nI_1]
    refine ⟨fun c => absurd c (nI_ge (b := 60) (by omega) (by omega)), fun _ => ⟨vp_in_nI (by omega) (by omega), fun S6 e6 => ⟨vp_in_nI (by omega) (by omega), fun S7 e7 => ih (j + 1) S7 (by omega) (Fm.put e7 rfl (Fm.put e6 rfl hF)) (fun t ht => ?_) (fun t ht => ?_)⟩⟩⟩
    · rw [e7, ms_s, e6, ms_n _ _ (by decide), upd_n _ _ (by omega)]; exact ho t ht
    · rw [e7, ms_s, ms_n _ _ (by decide), e6, ms_s, ms_n _ _ (by decide)]
      by_cases w : t = j
      · rw [w, upd_s, upd_s]; exact ⟨rfl, rfl⟩
      · rw [upd_n _ _ w, upd_n _ _ (by omega)]; exact hz t (by omega)
theorem sq_look {S : MST} {M : Nat} {a : Int32} {Post : MST → Int32 → Prop} (hP : PI S M) (hb : (∀ z : Nat, z < M → ¬ a = nI z) → Post S (-2)) (hs : ∀ m : Nat, m < M → a = nI m → ¬ S 6 m = 0 → Post S (-3))
    (h : ∀ (m l n : Nat) (op : Nat → Nat) (xs : Nat → Int32) (S' : MST) (r : Int32), m < M → a = nI m → S 6 m = 0 → S 2 m = nI l → l ≤ 6 → S 3 m = nI n → n ≤ 60 → op = (fun i => (S 4 (60 * m + i)).toNatClampNeg) → xs = (fun i => S 5 (60 * m + i)) → (∀ i : Nat, i < n → op i < 20 ∧ S 4 (60 * m + i) = nI (op i)) → GoM S m n (lkR M l n (S 1) op xs) S' r → Post S' r) : wp_X12_look S a Post := by
  obtain ⟨hM, hM8, hT, hlk, -⟩ := hP
  unfold wp_X12_look
  refine sp_isMethod hM hM8 (fun q => ⟨fun q => absurd rfl q, fun _ => hb (z_out (by omega) q)⟩) (fun m hm ea => ⟨fun _ => ?_, fun q => absurd q (by decide)⟩)
  subst ea
  have hc : (nI m).toNatClampNeg = m := nI_clamp (by omega)
  rw [hc]
  refine ⟨vp_in_nI (by omega) (by omega), fun h6 S5 e5 => ⟨61, ?_⟩, fun q => hs m hm rfl q⟩
  obtain ⟨ax, l, n, hax, hax3, hl, hal, hl6, hn, hn60, hops⟩ := hT m hm
  obtain ⟨op, hop⟩ : ∃ op : Nat → Nat, op = fun i => (S 4 (60 * m + i)).toNatClampNeg := ⟨_, rfl⟩
  obtain ⟨xs, hxs⟩ : ∃ xs : Nat → Int32, xs = fun i => S 5 (60 * m + i) := ⟨_, rfl⟩
  have hops2 : ∀ i : Nat, i < n → op i < 20 ∧ S 4 (60 * m + i) = nI (op i) := fun i hi => by
    obtain ⟨o, ho, e⟩ := hops i hi
    have : op i = o := by rw [hop]; show (S 4 (60 * m + i)).toNatClampNeg = o; rw [e]; exact nI_clamp (by omega)
    rw [this]; exact ⟨ho, e⟩
  have H : ∀ (S' : MST) (r : Int32), GoM S m n (lkR M l n (S 1) op xs) S' r → Post S' r := fun S' r hg => h m l n op xs S' r hm rfl h6 hl hl6 hn hn60 hop hxs hops2 hg
  have hF5 : Fm [7, 9, 10] S S5 := Fm.put e5 rfl Fm.rf
  refine sq_clear (S0 := S) (m := m) (n := n) (by omega) (fun S1 hs1 => ?_) 60 0 S5 (by omega) hF5 (fun t _ => by rw [e5, ms_n _ _ (by decide)]) (fun t ht => absurd ht (by omega))
  rw [hc]
  have hn1 : S1 3 m = nI n := by rw [hs1.1 3 rfl]; exact hn
  rw [hn1]
  refine ⟨vp_in_nI (by omega) (by omega), fun hne => ?_, fun hz S2 e2 => ?_⟩
  · have hn0 : 0 < n := by
      rcases Nat.eq_zero_or_pos n with q | q
      · subst q; exact absurd rfl hne
      · exact q
    have hR : lpF M l n (S 1) op xs 60 sI0 = lkR M l n (S 1) op xs := (if_neg (by omega)).symm
    have hc0 : cmF s00 0 (nI 0) = (sI0, 0) := if_pos rfl
    refine sq_comesTo (S0 := S) (s := s00) (i := 0) (d := 0) (by omega) (by omega) hs1 (fun S2 hs2 => ?_)
    rw [hc0] at hs2
    refine ⟨60 + 1, ?_⟩
    show wl_X12_look_91 _ _ _ (60 + 1) S2 (nI m) (nI 0) (nI 0)
    have hlw : lw sI0.2 = 0 := lw_at (by omega) (show ¬ upd (fun _ => (0 : Int32)) 0 1 0 = 0 by rw [upd_s]; decide) (fun t ht => absurd ht (by omega))
    refine sq_look91 (S0 := S) (R := lkR M l n (S 1) op xs) (op := op) (xs := xs) hM hM8 hm (fun z hz => ?_) hl hl6 hn hn60 (fun i hi => ⟨(hops2 i hi).1, (hops2 i hi).2, by rw [hxs]⟩) (fun hz S3 b hs3 hg3 hb3 h9 => ?_) (fun hf S3 hs3 h9 => ?_) 60 S2 sI0 0 0 hs2 (sI0_gd hn0) ⟨by omega, fun i d hi hd e _ => ?_, Or.inl rfl⟩ (by rw [hlw]; omega) hlw.symm (Nat.le_trans nuS_n hn60) hR
    · obtain ⟨az, _, _, a1, a2, _⟩ := hT z hz
      exact ⟨az, a2, a1⟩
    · rw [hc, vn_1]
      refine ⟨vp_in_nI (by omega) (by omega), fun S4 e4 => ⟨vp_in_nI (by omega) (by omega), fun S5 e5 => H S5 _ ?_⟩⟩
      have q3 : ∀ k : Nat, k ≠ 6 → k ≠ 8 → S5 k = S3 k := fun k x y => by rw [e5, ms_n _ _ y, e4, ms_n _ _ x]
      refine ⟨fun j hj => by rw [q3 7 (by decide) (by decide)]; exact hs3.2.2.1 j hj, fun t ht => by rw [q3 7 (by decide) (by decide)]; exact hs3.2.1 t ht, by rw [q3 9 (by decide) (by decide), h9, hz], Or.inl ⟨hz, hg3, b, hb3, ?_, ?_, rfl⟩⟩
      · rw [e5, ms_s, e4, ms_n _ _ (by decide), hs3.1 8 rfl]
      · rw [e5, ms_n _ _ (by decide), e4, ms_s, hs3.1 6 rfl]
    · exact H S3 _ ⟨hs3.2.2.1, hs3.2.1, h9, Or.inr ⟨hf, hs3.1 8 rfl, hs3.1 6 rfl, rfl⟩⟩
    · have e : upd (fun _ => (-1 : Int32)) 0 0 i = nI d := e
      by_cases w : i = 0
      · rw [w, upd_s] at e
        exact (nI_inj (a := 0) e (by omega) (by omega)) ▸ Nat.le_refl _
      · rw [upd_n _ _ w] at e
        exact absurd e.symm (nI_neg1 (by omega))
  · obtain rfl : n = 0 := nI_inj (b := 0) hz (by omega) (by omega)
    have hs2 := LkM.put9 hs1 e2
    have hR : lkR M l 0 (S 1) op xs = (s00, 5, 0) := if_pos rfl
    refine H S2 _ ?_
    rw [hR]
    exact ⟨hs2.2.2.1, hs2.2.1, by rw [e2, ms_s], Or.inr ⟨show ¬ (5 : Int32) = 0 by decide, hs2.1 8 rfl, hs2.1 6 rfl, rfl⟩⟩
