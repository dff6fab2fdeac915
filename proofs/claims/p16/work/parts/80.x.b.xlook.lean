/-! THE CLASS, exactly: a METHOD is looked over -/
theorem xp_X0_taken {S : CST} {o ax : Nat} {x : Int32} {Post : Int32 → Prop} (hB : BK S) (ho : o < 20) (h1 : (o = 11 → ∃ y : Nat, y < cnP S ∧ x = nI y ∧ cv S 241 y 0 = nI ax) → Post (nI (tkN o ax))) (h0 : o = 11 → (∀ y : Nat, y < cnP S → ¬ x = nI y) → Post 0) (hax : ∀ y : Nat, y < cnP S → x = nI y → cv S 241 y 0 = nI ax) : wp_X0_taken S (nI o) x Post := by
  unfold wp_X0_taken
  have eo : nI o = 11 → o = 11 := fun q => nI_inj (b := 11) q (by omega) (by omega)
  refine ⟨fun c => ⟨fun q => absurd q (nI_nn o (by omega)), fun _ => ⟨fun q => absurd q (nI_ge (b := 20) (by omega) (by omega)), fun _ => ⟨vp_in_nI ho (by omega), ?_⟩⟩⟩, fun c => ?_⟩
  · have h := h1 (fun q => absurd (by rw [q]; rfl) c)
    rw [nI_clamp (by omega)]
    rcases z20 ho with rfl | rfl | rfl | rfl | rfl | rfl | rfl | rfl | rfl | rfl | rfl | rfl | rfl | rfl | rfl | rfl | rfl | rfl | rfl | rfl <;> first | exact h | exact absurd rfl c
  · have h11 := eo c
    refine xp_X0_at hB (fun y hy e => ⟨fun q => absurd q (nI_nn y (by have := hB.1; omega)), fun _ => ?_⟩) (fun hno => ⟨fun _ => h0 h11 hno, fun q => absurd (by decide) q⟩)
    have hy8 := hB.1
    rw [nI_clamp (by omega)]
    refine ⟨cin_24 rfl hy, ?_⟩
    rw [hax y hy e]
    have h := h1 (fun _ => ⟨y, hy, e, hax y hy e⟩)
    subst h11
    exact h
theorem xp_X6_isRightX {S : CST} {y l o : Nat} {x : Int32} {Post : Int32 → Prop} (hB : BK S) (hy : y < cnP S) (hl : cv S 242 y 0 = nI l) (hl6 : l ≤ 6) (ho : o < 20) (h1 : okX (cnP S) l o x → Post 1) (h0 : ¬ okX (cnP S) l o x → Post 0) : wp_X6_isRightX S y (nI o) x Post := by
  have hM8 := hB.1
  unfold wp_X6_isRightX
  rw [hl]
  have eo : ∀ k : Nat, k < 20 → nI o = nI k → o = k := fun k hk q => nI_inj q (by omega) (by omega)
  have tr : (¬ (o = 1 ∨ o = 2)) → (¬ o = 11) → (¬ (o = 13 ∨ o = 14)) → (¬ (o = 15 ∨ o = 16 ∨ o = 17)) → Post 1 := fun a b c d => h1 ⟨fun q => absurd q a, fun q => absurd q b, fun q => absurd q c, fun q => absurd q d⟩
  have trk : ∀ k : Nat, k < 20 → (3 ≤ k ∧ k ≤ 10 ∨ k = 12) → nI o = nI k → Post 1 := fun k hk hs c => by
    have := eo k hk c
    exact tr (by omega) (by omega) (by omega) (by omega)
  have low : ∀ {P : Prop}, (∀ z : Nat, ¬ x = nI z) ∨ P → x < 0 → (∀ z : Nat, z < 2 ^ 31 → ¬ x = nI z) := fun _ c z hz e => nI_nn z hz (by rw [← e]; exact c)
  have neg : x < 0 → ∀ z : Nat, z < 2 ^ 31 → ¬ x = nI z := fun c z hz e => nI_nn z hz (by rw [← e]; exact c)
  have big : ∀ {B : Nat}, B < 100 → (nI B : Int32) ≤ x → ∀ z : Nat, z < B → ¬ x = nI z := fun hB c z hz e => nI_ge hz (by omega) (by rw [← e]; exact c)
  have mid : ∀ {B : Nat}, B < 100 → ¬ x < 0 → ¬ (nI B : Int32) ≤ x → ∃ z : Nat, z < B ∧ x = nI z := fun hB a b => by
    obtain ⟨z, e, hz⟩ := nI_ofc a
    exact ⟨z, Nat.not_le.mp (fun q => b (by rw [e]; exact nI_le q (by omega))), e⟩
  have kl : ∀ k : Nat, k < 20 → (k = 1 ∨ k = 2) → nI o = nI k → (((x < 0) → (Post 0)) ∧ ((¬ (x < 0)) → (cin S 24 y ∧ (((nI l ≤ x) → (Post 0)) ∧ ((¬ (nI l ≤ x)) → (Post 1)))))) := fun k hk hs c => by
    have hk2 := eo k hk c
    refine ⟨fun a => h0 (fun w => ?_), fun a => ⟨cin_24 rfl hy, fun b => h0 (fun w => ?_), fun b => h1 ⟨fun _ => mid (by omega) a b, fun q => absurd q (by omega), fun q => absurd q (by omega), fun q => absurd q (by omega)⟩⟩⟩
    · obtain ⟨z, hz, e⟩ := w.1 (by omega)
      exact neg a z (by omega) e
    · obtain ⟨z, hz, e⟩ := w.1 (by omega)
      exact big (by omega) b z hz e
  have k8 : ∀ k : Nat, k < 20 → (k = 13 ∨ k = 14) → nI o = nI k → (((x < 0) → (Post 0)) ∧ ((¬ (x < 0)) → (((8 ≤ x) → (Post 0)) ∧ ((¬ (8 ≤ x)) → (Post 1))))) := fun k hk hs c => by
    have hk2 := eo k hk c
    refine ⟨fun a => h0 (fun w => ?_), fun a => ⟨fun b => h0 (fun w => ?_), fun b => h1 ⟨fun q => absurd q (by omega), fun q => absurd q (by omega), fun _ => mid (B := 8) (by omega) a b, fun q => absurd q (by omega)⟩⟩⟩
    · obtain ⟨z, hz, e⟩ := w.2.2.1 (by omega)
      exact neg a z (by omega) e
    · obtain ⟨z, hz, e⟩ := w.2.2.1 (by omega)
      exact big (B := 8) (by omega) b z hz e
  have k4 : ∀ k : Nat, k < 20 → (k = 15 ∨ k = 16 ∨ k = 17) → nI o = nI k → (((x < 0) → (Post 0)) ∧ ((¬ (x < 0)) → (((4 ≤ x) → (Post 0)) ∧ ((¬ (4 ≤ x)) → (Post 1))))) := fun k hk hs c => by
    have hk2 := eo k hk c
    refine ⟨fun a => h0 (fun w => ?_), fun a => ⟨fun b => h0 (fun w => ?_), fun b => h1 ⟨fun q => absurd q (by omega), fun q => absurd q (by omega), fun q => absurd q (by omega), fun _ => mid (B := 4) (by omega) a b⟩⟩⟩
    · obtain ⟨z, hz, e⟩ := w.2.2.2 (by omega)
      exact neg a z (by omega) e
    · obtain ⟨z, hz, e⟩ := w.2.2.2 (by omega)
      exact big (B := 4) (by omega) b z hz e
  refine ⟨fun c => ?_, kl 1 (by omega) (by omega), kl 2 (by omega) (by omega), trk 3 (by omega) (by omega), trk 4 (by omega) (by omega), trk 5 (by omega) (by omega), trk 6 (by omega) (by omega), trk 7 (by omega) (by omega), trk 8 (by omega) (by omega), trk 9 (by omega) (by omega), trk 10 (by omega) (by omega), fun c => ?_, trk 12 (by omega) (by omega), k8 13 (by omega) (by omega), k8 14 (by omega) (by omega), k4 15 (by omega) (by omega), k4 16 (by omega) (by omega), k4 17 (by omega) (by omega)⟩
  · rw [nI_toInt (by omega)] at c
    exact tr (by omega) (by omega) (by omega) (by omega)
  · have h11 := eo 11 (by omega) c
    exact xp_X0_at hB (fun z hz e => ⟨fun q => absurd q (nI_nn z (by omega)), fun _ => h1 ⟨fun q => absurd q (by omega), fun _ => ⟨z, hz, e⟩, fun q => absurd q (by omega), fun q => absurd q (by omega)⟩⟩) (fun hno => ⟨fun _ => h0 (fun w => by
      obtain ⟨z, hz, e⟩ := w.2.1 h11
      exact hno z hz e), fun q => absurd (by decide) q⟩)
/-- the class in the midst of looking METHOD y over: from S0 on -/
def LkC (S0 : CST) (y : Nat) (S : CST) (s : LK) : Prop := Ex [270, 110, 103] S0 S ∧ (∀ i : Nat, i ≠ y → cv S 270 i = cv S0 270 i) ∧ (∀ j : Nat, j < 60 → cv S 270 y j = s.1 j) ∧ ∀ j : Nat, j < 60 → cv S 110 0 j = s.2 j
theorem BK.ex {L : List Nat} {S S' : CST} (h : BK S) (e : Ex L S S') (h1 : L.contains 11 = false) (h2 : L.contains 20 = false) : BK S' := by
  have p1 : cnP S' = cnP S := congrArg Prod.fst e.1
  unfold BK
  rw [p1, e.2 11 h1, e.2 20 h2]
  exact h
theorem xp_X6_comes {S0 S : CST} {y n i d : Nat} {s : LK} {Post : CST → Int32 → Prop} (hy : y < cnP S) (hn : cv S 247 y 0 = nI n) (hn60 : n ≤ 60) (hi : i < n) (hs : LkC S0 y S s) (h : ∀ S' : CST, LkC S0 y S' (cmF s i (nI d)).1 → Post S' (if (cmF s i (nI d)).2 = 0 then 1 else 0)) : wp_X6_comes S y (nI i) (nI d) Post := by
  obtain ⟨hE, ho, h7, h10⟩ := hs
  have e7 := h7 i (by omega)
  unfold wp_X6_comes
  refine ⟨cin_24 rfl hy, xp_X8_isDead hy hn hn60 hi (fun c => ⟨fun q => absurd q (by decide), fun _ => ⟨fun q => absurd q (nI_nn i (by omega)), fun _ => ⟨fun q => absurd q (nI_ge (b := 60) (by omega) (by omega)), fun _ => ⟨cin_24 rfl hy, xp_X8_comeTo hy hn hn60 hi ⟨vp_in_nI (by omega) (by omega), fun S19 e19 => ?_⟩⟩⟩⟩⟩) (fun c => ⟨fun _ => ⟨cin_24 rfl hy, xp_X8_depthAt hy hn hn60 hi ?_⟩, fun q => absurd rfl q⟩)⟩
  · rw [nI_clamp (by omega), vn_1] at e19
    have hT19 : S19.2 = S.2 := by rw [e19]; rfl
    have hy19 : y < cnP S19 := by rw [show cnP S19 = cnP S from congrArg Prod.fst hT19]; exact hy
    have c7 : cv S19 270 y = upd (cv S 270 y) i (nI d) := by rw [e19, cs_n _ _ (fun w => absurd w.1 (by decide)), cs_s]
    have c10 : cv S19 110 0 = upd (cv S 110 0) i 1 := by rw [e19, cs_s, cs_n _ _ (fun w => absurd w.1 (by decide))]
    have hc : cmF s i (nI d) = ((upd s.1 i (nI d), upd s.2 i 1), 0) := if_pos (by rw [← e7]; exact c)
    have hk : LkC S0 y S19 (cmF s i (nI d)).1 := by
      rw [hc]
      refine ⟨by rw [e19]; exact Ex.cs (by decide) (Ex.cs (by decide) hE), fun i' hi' => ?_, fun j hj => ?_, fun j hj => ?_⟩
      · rw [e19, cs_n _ _ (fun w => absurd w.1 (by decide)), cs_i hi', ho i' hi']
      · show cv S19 270 y j = upd s.1 i (nI d) j
        rw [c7]
        by_cases w : j = i
        · rw [w, upd_s, upd_s]
        · rw [upd_n _ _ w, upd_n _ _ w, h7 j hj]
      · show cv S19 110 0 j = upd s.2 i 1 j
        rw [c10]
        by_cases w : j = i
        · rw [w, upd_s, upd_s]
        · rw [upd_n _ _ w, upd_n _ _ w, h10 j hj]
    have hp := h S19 hk
    rw [hc] at hp
    refine ⟨cin_24 rfl hy19, xp_X8_depthAt hy19 (n := n) (by rw [e19, cs_n _ _ (fun w => absurd w.1 (by decide)), cs_n _ _ (fun w => absurd w.1 (by decide))]; exact hn) hn60 hi ?_⟩
    rw [c7, upd_s]
    exact ⟨fun q => absurd rfl q, fun _ => hp⟩
  · rw [e7]
    have hc : cmF s i (nI d) = (s, if s.1 i = nI d then 0 else 3) := if_neg (by rw [← e7]; exact c)
    have hp := h S (by rw [hc]; exact ⟨hE, ho, h7, h10⟩)
    rw [hc] at hp
    refine ⟨fun q => ?_, fun q => ?_⟩
    · have hp2 : Post S (if (if s.1 i = nI d then (0 : Int32) else 3) = 0 then 1 else 0) := hp
      rw [if_neg q, if_neg (by decide)] at hp2
      exact hp2
    · have hp2 : Post S (if (if s.1 i = nI d then (0 : Int32) else 3) = 0 then 1 else 0) := hp
      rw [if_pos q, if_pos rfl] at hp2
      exact hp2
theorem cm01 (s : LK) (i : Nat) (d : Int32) : (cmF s i d).2 = 0 ∨ (cmF s i d).2 = 3 := by
  unfold cmF
  split
  · exact Or.inl rfl
  · show (if s.1 i = d then (0 : Int32) else 3) = 0 ∨ (if s.1 i = d then (0 : Int32) else 3) = 3
    split
    · exact Or.inl rfl
    · exact Or.inr rfl
theorem xp_X6_faultAt {S0 S : CST} {y n l o i : Nat} {ag : Nat → Int32} {s : LK} {Post : CST → Int32 → Prop} (hB : BK S) (hy : y < cnP S) (hn : cv S 247 y 0 = nI n) (hn60 : n ≤ 60) (hl : cv S 242 y 0 = nI l) (hl6 : l ≤ 6) (hi : i < n) (hop : cv S 250 y i = nI o) (ho : o < 20)
    (hag : ∀ z : Nat, z < cnP S → cv S 241 z 0 = ag z ∧ ∃ a : Nat, a ≤ 3 ∧ ag z = nI a) (hs : LkC S0 y S s) (hg : GdS n s) (hlive : ¬ s.1 i = -1) (h : ∀ S' : CST, LkC S0 y S' (faF (cnP S) l n ag o (cv S 260 y i) i s).1 → Post S' (faF (cnP S) l n ag o (cv S 260 y i) i s).2) : wp_X6_faultAt S y (nI i) Post := by
  have hM8 := hB.1
  have c24 : cin S 24 y := cin_24 rfl hy
  have h7i := hs.2.2.1 i (by omega)
  obtain ⟨d, hd8, hd⟩ := (hg.1 i hi).1.resolve_left hlive
  have hdi : cv S 270 y i = nI d := h7i.trans hd
  have hdc : (s.1 i).toNatClampNeg = d := by rw [hd]; exact nI_clamp (by omega)
  unfold wp_X6_faultAt
  refine ⟨c24, xp_X8_opAt hy hn hn60 hi ⟨c24, xp_X8_xAt hy hn hn60 hi ?_⟩⟩
  rw [hop]
  generalize hx : cv S 260 y i = x at h ⊢
  -- the ARGS of METHOD X
  obtain ⟨ax, hax⟩ : ∃ ax : Nat, ax = (ag x.toNatClampNeg).toNatClampNeg := ⟨_, rfl⟩
  have haxx : ∀ z : Nat, z < cnP S → x = nI z → cv S 241 z 0 = nI ax ∧ ax ≤ 3 := fun z hz e => by
    obtain ⟨h1, a, ha, h2⟩ := hag z hz
    rw [e, nI_clamp (by omega), h2, nI_clamp (by omega)] at hax
    rw [h1, h2, hax]; exact ⟨rfl, by omega⟩
  have eo : ∀ k : Nat, k < 20 → nI o = nI k → o = k := fun k hk q => nI_inj q (by omega) (by omega)
  have bad : ¬ okX (cnP S) l o x → Post S 6 := fun q => by
    have hf : faF (cnP S) l n ag o x i s = (s, 6) := pite_f q
    have hp := h S (by rw [hf]; exact hs)
    rw [hf] at hp
    exact hp
  refine xp_X0_taken (ax := ax) hB ho (fun hk => ?_) (fun h11 hno => ?_) (fun z hz e => (haxx z hz e).1)
  rotate_left
  · refine ⟨fun q => absurd q (nI_nn o (by omega)), fun _ => ⟨fun q => absurd q (nI_ge (b := 20) (by omega) (by omega)), fun _ => ?_⟩⟩
    have nok : ¬ okX (cnP S) l o x := fun w => by
      obtain ⟨z, hz, e⟩ := w.2.1 h11
      exact hno z hz e
    exact xp_X6_isRightX hB hy hl hl6 ho (fun w => absurd w nok) (fun _ => ⟨fun q => absurd rfl q, fun _ => bad nok⟩)
  refine ⟨fun q => absurd q (nI_nn o (by omega)), fun _ => ⟨fun q => absurd q (nI_ge (b := 20) (by omega) (by omega)), fun _ => ?_⟩⟩
  refine xp_X6_isRightX hB hy hl hl6 ho (fun hok => ⟨fun _ => ⟨c24, xp_X8_depthAt hy hn hn60 hi ?_⟩, fun q => absurd q (by decide)⟩) (fun nok => ⟨fun q => absurd rfl q, fun _ => bad nok⟩)
  have htk : tkN o ax ≤ 3 := by
    unfold tkN
    by_cases h11 : o = 11
    · obtain ⟨z, hz, e⟩ := hok.2.1 h11
      have := (haxx z hz e).2
      subst h11
      simp only [show ¬ (11 = 0 ∨ 11 = 1 ∨ 11 = 9 ∨ 11 = 13) by decide, if_false, if_true]
      exact this
    · rw [if_neg h11]
      split
      · omega
      · split <;> omega
  have hly : lyN o ≤ 2 := by
    unfold lyN
    split
    · omega
    · split <;> omega
  rw [hdi]
  have hf0 : faF (cnP S) l n ag o x i s = (if d < tkN o ax then (s, 1) else if 8 < d - tkN o ax + lyN o then (s, 2) else jpF n o x i (d - tkN o ax + lyN o) s) := by
    have q : faF (cnP S) l n ag o x i s = _ := pite_t hok
    rw [q, hdc, ← hax]
  refine ⟨fun c => ⟨c24, xp_X8_depthAt hy hn hn60 hi ?_⟩, fun c => ?_⟩
  rotate_left
  · have hlt : d < tkN o ax := Nat.not_le.mp (fun q => c (nI_le q (by omega)))
    rw [if_pos hlt] at hf0
    have hp := h S (by rw [hf0]; exact hs)
    rw [hf0] at hp
    exact hp
  have ht : tkN o ax ≤ d := Nat.not_lt.mp (fun q => nI_ge q (by omega) c)
  rw [if_neg (by omega)] at hf0
  have hzl : zLY (nI o).toNatClampNeg = nI (lyN o) := by
    rw [nI_clamp (by omega)]
    rcases z20 ho with rfl | rfl | rfl | rfl | rfl | rfl | rfl | rfl | rfl | rfl | rfl | rfl | rfl | rfl | rfl | rfl | rfl | rfl | rfl | rfl <;> rfl
  rw [hdi, hzl, nI_sub ht, nI_add]
  generalize hw : d - tkN o ax + lyN o = w at hf0 ⊢
  refine ⟨vp_in_nI ho (by omega), fun c8 => ?_, fun c8 => ?_⟩
  rotate_left
  · have hlt : 8 < w := Nat.not_le.mp (fun q => c8 (nI_le (a := w) (b := 8) q (by omega)))
    rw [if_pos hlt] at hf0
    have hp := h S (by rw [hf0]; exact hs)
    rw [hf0] at hp
    exact hp
  have h8 : w ≤ 8 := Nat.not_lt.mp (fun q => nI_ge (a := 8) (b := w) q (by omega) c8)
  rw [if_neg (by omega)] at hf0
  rw [hf0] at h
  -- behind the jump
  have tail : ∀ (S1 : CST) (s1 : LK), LkC S0 y S1 s1 → (∀ S' : CST, LkC S0 y S' (nxF n o i w s1).1 → Post S' (nxF n o i w s1).2) →
      (((nI o = 9) → (Post S1 0)) ∧ ((¬ (nI o = 9)) → (((¬ (nI o = 12)) → (cin S1 24 y ∧ (wp_X8_has S1 y (nI i + 1) (fun r31 => ((¬ ((r31 : Int32) = 0)) → (wp_X6_comes S1 y (nI i + 1) (nI w) (fun S34 r34 => (((r34 : Int32) = 0) → (Post S34 3)) ∧ ((¬ ((r34 : Int32) = 0)) → (Post S34 0))))) ∧ (((r31 : Int32) = 0) → (Post S1 5)))))) ∧ ((nI o = 12) → (Post S1 0))))) := by
    intro S1 s1 hs1 hp
    have stop : (o = 9 ∨ o = 12) → Post S1 0 := fun q => by
      have e : nxF n o i w s1 = (s1, 0) := if_pos q
      rw [e] at hp
      exact hp S1 hs1
    refine ⟨fun q => stop (Or.inl (eo 9 (by omega) q)), fun q9 => ⟨fun q12 => ?_, fun q => stop (Or.inr (eo 12 (by omega) q))⟩⟩
    have e : nxF n o i w s1 = if i + 1 < n then cmF s1 (i + 1) (nI w) else (s1, 5) := if_neg (fun q => q.elim (fun q => q9 (by rw [q]; rfl)) (fun q => q12 (by rw [q]; rfl)))
    have hT1 : S1.2 = S.2 := hs1.1.1.trans hs.1.1.symm
    have hy1 : y < cnP S1 := by rw [show cnP S1 = cnP S from congrArg Prod.fst hT1]; exact hy
    have hn1 : cv S1 247 y 0 = nI n := by rw [hs1.1.2 247 rfl, ← hs.1.2 247 rfl]; exact hn
    rw [nI_1]
    refine ⟨cin_24 rfl hy1, ?_⟩
    by_cases hi1 : i + 1 < n
    · rw [if_pos hi1] at e
      rw [e] at hp
      refine xp_has_in hy1 hn1 hn60 hi1 ⟨fun _ => xp_X6_comes hy1 hn1 hn60 hi1 hs1 (fun S' hs' => ?_), fun q => absurd q (by decide)⟩
      have hp := hp S' hs'
      rcases cm01 s1 (i + 1) (nI w) with q | q
      · rw [q] at hp ⊢
        exact ⟨fun q => absurd q (by decide), fun _ => hp⟩
      · rw [q] at hp ⊢
        exact ⟨fun _ => hp, fun q => absurd (by decide) q⟩
    · rw [if_neg hi1] at e
      rw [e] at hp
      exact xp_has_out hy1 hn1 hn60 (by omega) (by omega) ⟨fun q => absurd rfl q, fun _ => hp S1 hs1⟩
  have jump : (o = 9 ∨ o = 10) → (cin S 24 y ∧ (wp_X8_has S y x (fun r23 => ((¬ ((r23 : Int32) = 0)) → (wp_X6_comes S y x (nI w) (fun S26 r26 => ((¬ ((r26 : Int32) = 0)) → (((nI o = 9) → (Post S26 0)) ∧ ((¬ (nI o = 9)) → (((¬ (nI o = 12)) → (cin S26 24 y ∧ (wp_X8_has S26 y (nI i + 1) (fun r31 => ((¬ ((r31 : Int32) = 0)) → (wp_X6_comes S26 y (nI i + 1) (nI w) (fun S34 r34 => (((r34 : Int32) = 0) → (Post S34 3)) ∧ ((¬ ((r34 : Int32) = 0)) → (Post S34 0))))) ∧ (((r31 : Int32) = 0) → (Post S26 5)))))) ∧ ((nI o = 12) → (Post S26 0)))))) ∧ (((r26 : Int32) = 0) → (Post S26 3))))) ∧ (((r23 : Int32) = 0) → (Post S 4))))) := by
    intro hj
    have e0 : jpF n o x i w s = pite (∃ z : Nat, z < n ∧ x = nI z) (if (cmF s x.toNatClampNeg (nI w)).2 = 0 then nxF n o i w (cmF s x.toNatClampNeg (nI w)).1 else cmF s x.toNatClampNeg (nI w)) (s, 4) := if_pos hj
    refine ⟨c24, xp_X8_has hy hn hn60 (fun z hz ez => ⟨fun _ => ?_, fun q => absurd q (by decide)⟩) (fun hno => ⟨fun q => absurd rfl q, fun _ => ?_⟩)⟩
    · rw [pite_t ⟨z, hz, ez⟩, ez, nI_clamp (by omega)] at e0
      rw [ez]
      refine xp_X6_comes hy hn hn60 hz hs (fun S' hs' => ?_)
      rcases cm01 s z (nI w) with q | q
      · rw [if_pos q] at e0
        rw [q]
        rw [ez] at h
        rw [e0] at h
        exact ⟨fun _ => tail S' _ hs' h, fun q => absurd q (by decide)⟩
      · rw [if_neg (by rw [q]; decide)] at e0
        rw [q]
        rw [ez] at h
        rw [e0, q] at h
        exact ⟨fun q => absurd (by decide) q, fun _ => h S' hs'⟩
    · rw [pite_f (fun q => by obtain ⟨z, hz, e⟩ := q; exact hno z hz e)] at e0
      rw [e0] at h
      exact h S hs
  refine ⟨fun q => jump (Or.inl (eo 9 (by omega) q)), fun q9 => ⟨fun q10 => tail S s hs ?_, fun q => jump (Or.inr (eo 10 (by omega) q))⟩⟩
  have e0 : jpF n o x i w s = nxF n o i w s := if_neg (fun q => q.elim (fun q => q9 (by rw [q]; rfl)) (fun q => q10 (by rw [q]; rfl)))
  rw [e0] at h
  exact h
theorem xp_X6_leastWaiting {S : CST} {W : Nat → Int32} {Post : Int32 → Prop} (hW : ∀ j : Nat, j < 60 → cv S 110 0 j = W j) (h0 : ¬ lw W < 60 → Post (-1)) (h1 : lw W < 60 → Post (nI (lw W))) : wp_X6_leastWaiting S Post := by
  have key : ∀ (k j : Nat), j + k = 60 → (∀ i : Nat, i < j → W i = 0) → wl_X6_leastWaiting_2 S (Post (-1)) (fun x => Post x) Post (k + 1) (nI j) := by
    intro k
    induction k with
    | zero =>
      intro j hj hz
      obtain rfl : j = 60 := by omega
      unfold wl_X6_leastWaiting_2
      exact ⟨fun _ => h0 (by rw [lw_no hz]; omega), fun c => absurd (show (60 : Int32) ≤ nI 60 by decide) c⟩
    | succ k ih =>
      intro j hj hz
      unfold wl_X6_leastWaiting_2
      rw [nI_clamp (n := j) (by omega), hW j (by omega), nI_1]
      refine ⟨fun c => absurd c (nI_ge (b := 60) (by omega) (by omega)), fun _ => ⟨vp_in_nI (by omega) (by omega), fun c => ih (j + 1) (by omega) (fun i hi => ?_), fun c => ?_⟩⟩
      · rcases Nat.lt_or_ge i j with q | q
        · exact hz i q
        · rw [show i = j by omega]; exact c
      · have e := lw_at (by omega) c hz
        rw [← e]
        exact h1 (by omega)
  exact ⟨61, key 60 0 (by omega) (fun i hi => absurd hi (by omega))⟩
/-- the greatest depth: a bound that is met -/
def MxR (n : Nat) (D : Nat → Int32) (b : Nat) : Prop := b ≤ 8 ∧ (∀ i d : Nat, i < n → d ≤ 8 → D i = nI d → d ≤ b) ∧ (b = 0 ∨ ∃ i : Nat, i < n ∧ D i = nI b)
theorem MxR.eq {n b b' : Nat} {D : Nat → Int32} (h : MxR n D b) (g : MxR n D b') : b = b' := by
  refine Nat.le_antisymm ?_ ?_
  · rcases h.2.2 with q | ⟨i, hi, q⟩
    · omega
    · exact g.2.1 i b hi h.1 q
  · rcases g.2.2 with q | ⟨i, hi, q⟩
    · omega
    · exact h.2.1 i b' hi g.1 q
theorem xp_X6_greatestDepth {S : CST} {y n : Nat} {Post : Int32 → Prop} (hy : y < cnP S) (hn : cv S 247 y 0 = nI n) (hn60 : n ≤ 60) (hg : ∀ i : Nat, i < n → cv S 270 y i = -1 ∨ ∃ d : Nat, d ≤ 8 ∧ cv S 270 y i = nI d) (h : ∀ b : Nat, MxR n (cv S 270 y) b → Post (nI b)) : wp_X6_greatestDepth S y Post := by
  have key : ∀ (k j b : Nat), j + k = n → MxR j (cv S 270 y) b → wl_X6_greatestDepth_4 S (fun x => Post x) Post (k + 1) y (nI b) (nI j) := by
    intro k
    induction k with
    | zero =>
      intro j b hj hb
      obtain rfl : j = n := by omega
      unfold wl_X6_greatestDepth_4
      rw [hn]
      exact ⟨cin_24 rfl hy, fun _ => h b hb, fun c => absurd (nI_le (Nat.le_refl _) (by omega)) c⟩
    | succ k ih =>
      intro j b hj hb
      unfold wl_X6_greatestDepth_4
      rw [hn, nI_1]
      refine ⟨cin_24 rfl hy, fun c => absurd c (nI_ge (by omega) (by omega)), fun _ => ⟨cin_24 rfl hy, xp_X8_depthAt hy hn hn60 (by omega) ?_⟩⟩
      have fwd : ∀ b' : Nat, b' ≤ 8 → b ≤ b' → (∀ d : Nat, d ≤ 8 → cv S 270 y j = nI d → d ≤ b') → (b' = b ∨ cv S 270 y j = nI b') → MxR (j + 1) (cv S 270 y) b' := fun b' h8 hbb hd hat => by
        refine ⟨h8, fun i d hi hd8 e => ?_, ?_⟩
        · rcases Nat.lt_or_ge i j with q | q
          · exact Nat.le_trans (hb.2.1 i d q hd8 e) hbb
          · rw [show i = j by omega] at e
            exact hd d hd8 e
        · rcases hat with q | q
          · rw [q]
            exact hb.2.2.elim Or.inl (fun ⟨i, hi, e⟩ => Or.inr ⟨i, by omega, e⟩)
          · exact Or.inr ⟨j, by omega, q⟩
      have hb8 := hb.1
      rcases hg j (by omega) with q | ⟨d, hd8, q⟩
      · rw [q, if_neg (Int32.not_lt.mpr (Int32.le_trans (show (-1 : Int32) ≤ 0 by decide) (nI_pos' (by omega))))]
        exact ih (j + 1) b (by omega) (fwd b hb.1 (Nat.le_refl _) (fun d hd e => absurd (e.symm.trans q) (nI_neg1 (by omega))) (Or.inl rfl))
      · rw [q]
        by_cases w : b < d
        · rw [if_pos (Int32.not_le.mp (nI_ge w (by omega)))]
          exact ih (j + 1) d (by omega) (fwd d hd8 (by omega) (fun d' h' e => by rw [nI_inj (q.symm.trans e) (by omega) (by omega)]; exact Nat.le_refl _) (Or.inr q))
        · rw [if_neg (Int32.not_lt.mpr (nI_le (by omega) (by omega)))]
          exact ih (j + 1) b (by omega) (fwd b hb.1 (Nat.le_refl _) (fun d' h' e => by rw [← nI_inj (q.symm.trans e) (by omega) (by omega)]; omega) (Or.inl rfl))
  exact ⟨n + 1, key n 0 0 (by omega) ⟨by omega, fun i d hi => absurd hi (by omega), Or.inl rfl⟩⟩
