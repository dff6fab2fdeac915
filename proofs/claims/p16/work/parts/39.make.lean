/-! one INSTRUCTION of the METHOD is put into the code -/
theorem pv_two {S : MST} {M m n i o : Nat} {d a b : Int32} (ho2 : 2 ≤ o) (ho7 : o ≤ 7) (hi : i < n) (hl : ¬ S 7 (60 * m + i) = -1) (h0 : ∃ x : Nat, x < 15 ∧ d = nI x) (h1 : ∃ x : Nat, x < 15 ∧ a = nI x) (h2 : ∃ x : Nat, x < 15 ∧ b = nI x) : pv S M m n (nI o) d a b (nI i) := ⟨o, i, by omega, rfl, rfl, hi, hl, fun _ => h0, fun _ => h1, fun _ => h2, fun q => absurd q (by omega), fun q => absurd q (by omega), fun q => absurd q (by omega), fun q => absurd q (by omega), fun q => absurd q (by omega), fun q => absurd q (by omega), fun q => absurd q (by omega), fun q => absurd q (by omega)⟩
theorem sp_fieldGuards {M m n c own P : Nat} {S : MST} {Post : MST → Prop} (hG : GC S m n c own P) (hm : m < 8) (hB : P + 8 ≤ 640)
    (h : ∀ (S' : MST) (P' : Nat), GR M m n c own S P S' P' → P' ≤ P + 8 → S' 35 = S 35 → Post S') : wp_X12_fieldGuards S (nI m) Post := by
  unfold wp_X12_fieldGuards
  exact ⟨9, sp_fg2 hG hm hB h 8 0 (by omega) S P (GR.rf hG.2.2.1) (by omega) rfl⟩
/-- a PART behind what was laid from S -/
theorem lay_part {M m n c i P P2 B o' : Nat} {S S2 : MST} {dd aa bb : Int32} {K : MST → Prop} (hG : GC S m n c i P) (g : GR M m n c i S P S2 P2) (hp : P2 + kn S2 ≤ B) (hB : B + 1 ≤ 640) (ho : o' < 17) (hv : pv S M m n (nI o') dd aa bb (nI i))
    (k : ∀ S3 : MST, GR M m n c i S P S3 (P2 + 1) → (P2 + 1) + kn S3 ≤ B + 1 → S3 25 (640 * c + P2) = nI o' → S3 35 = S2 35 → K S3) : wp_X12_part S2 (nI o') dd aa bb K := by
  have hG2 := hG.go g
  have kp := g.keep
  exact sp_part hG2.1 hG2.2.1 hG2.2.2.1 (by omega) hG2.2.2.2.1 (pv_same kp.1 kp.2.2.2.2.1 hv) (gd_no ho) (fun S3 g3 e35 e25 _ _ _ => k S3 (g.tr g3 (by omega)) (by rw [kn_eq e35]; omega) e25 e35)
theorem lay_one {M m n c i P P2 B q : Nat} {S S2 : MST} {K : MST → Prop} (hG : GC S m n c i P) (g : GR M m n c i S P S2 P2) (hp : P2 + kn S2 ≤ B) (hB : B ≤ 640) (hq : q < 8)
    (k : ∀ (S3 : MST) (P3 : Nat), GR M m n c i S P S3 P3 → P3 + kn S3 ≤ B → K S3) : wp_X12_layOne S2 (nI q) K :=
  sp_layOne (M := M) (hG.go g) hq (by omega) (fun S3 P3 g3 hp3 _ _ => k S3 P3 (g.tr g3 (by omega)) (by omega))
theorem lay_all {M m n c i P P2 B d : Nat} {S S2 : MST} {K : MST → Prop} (hG : GC S m n c i P) (g : GR M m n c i S P S2 P2) (hp : P2 + kn S2 ≤ B) (hB : B ≤ 640) (hd : d ≤ 8)
    (k : ∀ (S3 : MST) (P3 : Nat), GR M m n c i S P S3 P3 → P3 + kn S3 ≤ B → K S3) : wp_X12_layAll S2 (nI d) K :=
  sp_layAll (M := M) (hG.go g) hd (by omega) (fun S3 P3 g3 hp3 _ _ => k S3 P3 (g.tr g3 (by omega)) (by omega))
theorem lay_off {M m n c i P P2 B q : Nat} {S S2 S3 : MST} (g : GR M m n c i S P S2 P2) (hp : P2 + kn S2 ≤ B) (hB : B ≤ 640) (e : S3 = ms S2 35 (upd (S2 35) q 0)) : GR M m n c i S P S3 P2 ∧ P2 + kn S3 ≤ B := by
  have h1 : GR M m n c i S2 P2 S3 P2 := GR.side g.2.2.2.2.1 (fun k _ _ a _ => by rw [e, ms_n _ _ a])
  have h2 : kn S3 ≤ kn S2 := kn_off' (j := q) (by rw [e, ms_s])
  exact ⟨g.tr h1 (by omega), by omega⟩
theorem sp_makeWhen {M m n c i P d : Nat} {S : MST} {a : Int32} {Post : MST → Prop} (hG : GC S m n c i P) (hd1 : 1 ≤ d) (hd : d ≤ 8) (hB : P + kn S + 1 ≤ 640) (ht : ∃ x : Nat, x < n ∧ a = nI x ∧ ¬ S 7 (60 * m + x) = -1)
    (h : ∀ (S' : MST) (P' : Nat), GR M m n c i S P S' P' → P' + kn S' ≤ P + kn S + 1 → Post S') : wp_X12_makeWhen S a (nI d) Post := by
  unfold wp_X12_makeWhen
  have hv : vp_in (nI (d - 1)) 9 := vp_in_nI (by omega) (by omega)
  have hG2 := hG
  obtain ⟨h31, hc, h23, h32, hown, hlive⟩ := hG2
  have g0 : GR M m n c i S P S P := GR.rf h23
  rw [nI_m1 hd1, nI_clamp (n := d - 1) (by omega), vn_0, show (6 : Int32) + nI d = nI (6 + d) from nI_add 6 d]
  refine ⟨hv, fun w => ⟨hv, fun _ => ⟨hv, fun S5 e5 => ?_⟩, fun _ => ?_⟩, fun w => ?_⟩
  · obtain ⟨g5, k5⟩ := lay_off g0 (Nat.le_refl _) (by omega) e5
    exact h S5 P g5 (by omega)
  · refine lay_all hG g0 (Nat.le_refl _) (by omega) (by omega) (fun S6 P6 g6 hp6 => ?_)
    refine lay_part (o' := 8) hG g6 hp6 (by omega) (by omega) (pv_8 hown hlive ht) (fun S7 g7 hp7 _ _ => ⟨hv, fun S8 e8 => ?_⟩)
    obtain ⟨g8, k8⟩ := lay_off g7 hp7 (by omega) e8
    exact h S8 (P6 + 1) g8 k8
  · refine lay_all hG g0 (Nat.le_refl _) (by omega) (by omega) (fun S6 P6 g6 hp6 => ?_)
    refine lay_part (o' := 9) hG g6 hp6 (by omega) (by omega) (pv_9 hown hlive ⟨6 + d, by omega, rfl⟩ ht) (fun S7 g7 hp7 _ _ => ⟨hv, fun S8 e8 => ?_⟩)
    obtain ⟨g8, k8⟩ := lay_off g7 hp7 (by omega) e8
    exact h S8 (P6 + 1) g8 k8
theorem sp_makeTwo {M m n c i P d o : Nat} {S : MST} {Post : MST → Prop} (hG : GC S m n c i P) (ho3 : 3 ≤ o) (ho8 : o ≤ 8) (hd2 : 2 ≤ d) (hd : d ≤ 8) (hB : P + kn S + 1 ≤ 640)
    (h : ∀ (S' : MST) (P' : Nat), GR M m n c i S P S' P' → P' + kn S' ≤ P + kn S + 1 → Post S') : wp_X12_makeTwo S (nI o) (nI d) Post := by
  unfold wp_X12_makeTwo
  have hv1 : vp_in (nI (d - 1)) 9 := vp_in_nI (by omega) (by omega)
  have hv2 : vp_in (nI (d - 2)) 9 := vp_in_nI (by omega) (by omega)
  have hG2 := hG
  obtain ⟨h31, hc, h23, h32, hown, hlive⟩ := hG2
  have g0 : GR M m n c i S P S P := GR.rf h23
  rw [show nI d - 2 = nI (d - 2) from nI_sub (b := 2) hd2, nI_m1 (n := d) (by omega), nI_m1 (n := o) (by omega), nI_clamp (n := d - 1) (by omega), nI_clamp (n := d - 2) (by omega), vn_0, show (7 : Int32) + nI (d - 2) = nI (7 + (d - 2)) from nI_add 7 _, show (7 : Int32) + nI (d - 1) = nI (7 + (d - 1)) from nI_add 7 _]
  have lay : wp_X12_layOne S (nI (d - 2)) (fun S3 => wp_X12_layOne S3 (nI (d - 1)) (fun S4 => wp_X12_part S4 (nI (o - 1)) (nI (7 + (d - 2))) (nI (7 + (d - 2))) (nI (7 + (d - 1))) (fun S5 => vp_in (nI (d - 1)) 9 ∧ (∀ S6 : MST, S6 = ms S5 35 (upd (S5 35) (d - 1) 0) → (Post S6))))) := by
    refine lay_one hG g0 (Nat.le_refl _) (by omega) (by omega) (fun S3 P3 g3 hp3 => ?_)
    refine lay_one hG g3 hp3 (by omega) (by omega) (fun S4 P4 g4 hp4 => ?_)
    refine lay_part hG g4 hp4 (by omega) (by omega) (pv_two (by omega) (by omega) hown hlive ⟨7 + (d - 2), by omega, rfl⟩ ⟨7 + (d - 2), by omega, rfl⟩ ⟨7 + (d - 1), by omega, rfl⟩) (fun S5 g5 hp5 _ _ => ⟨hv1, fun S6 e6 => ?_⟩)
    obtain ⟨g6, k6⟩ := lay_off g5 hp5 (by omega) e6
    exact h S6 (P4 + 1) g6 k6
  have fold : ∀ (r : Int32), vp_in (nI (d - 2)) 9 ∧ (∀ S17 : MST, S17 = ms S 36 (upd (S 36) (d - 2) r) → (vp_in (nI (d - 1)) 9 ∧ (∀ S18 : MST, S18 = ms S17 35 (upd (S17 35) (d - 1) 0) → (Post S18)))) := by
    refine fun r => ⟨hv2, fun S17 e17 => ⟨hv1, fun S18 e18 => ?_⟩⟩
    have e35 : S17 35 = S 35 := by rw [e17, ms_n _ _ (show 35 ≠ 36 by decide)]
    have g1 : GR M m n c i S P S18 P := GR.side h23 (fun k _ _ a b => by rw [e18, ms_n _ _ a, e17, ms_n _ _ b])
    have k1 : kn S18 ≤ kn S := kn_off' (j := d - 1) (by rw [e18, ms_s, e35])
    exact h S18 P g1 (by omega)
  refine ⟨hv2, fun _ => lay, fun _ => ⟨hv1, fun _ => lay, fun _ => ⟨fun n6 => ⟨hv2, hv1, sp_sumOf (fun q => absurd q n6) fold⟩, fun _ => ⟨hv1, fun _ => lay, fun nz => ⟨hv2, hv1, sp_sumOf (fun _ => nz) fold⟩⟩⟩⟩⟩
theorem sp_make {M m n l c i d P : Nat} {S : MST} {Post : MST → Prop} (hG : GC S m n c i P) (hm : m < 8) (hn : n ≤ 60) (hM8 : M ≤ 8) (hl6 : l ≤ 6) (hd : S 7 (60 * m + i) = nI d) (hd8 : d ≤ 8) (hr : rightI S M m l n i d) (hB : P + kn S + 9 ≤ 640)
    (h : ∀ (S' : MST) (P' : Nat), GR M m n c i S P S' P' → P' + kn S' ≤ P + kn S + 9 → ((S 4 (60 * m + i) = nI 9 ∨ S 4 (60 * m + i) = nI 12) → P < P' ∧ (S' 25 (640 * c + (P' - 1)) = nI 8 ∨ S' 25 (640 * c + (P' - 1)) = nI 11)) → Post S') : wp_X12_make S (nI m) (nI i) Post := by
  obtain ⟨o, ax, ho, h4, hk, hax, htk, h8, hj, hnx⟩ := hr
  have hG2 := hG
  obtain ⟨h31, hc, h23, h32, hown, hlive⟩ := hG2
  have g0 : GR M m n c i S P S P := GR.rf h23
  have h' : ∀ (S' : MST) (P' : Nat), GR M m n c i S P S' P' → P' + kn S' ≤ P + kn S + 9 → ((o = 9 ∨ o = 12) → P < P' ∧ (S' 25 (640 * c + (P' - 1)) = nI 8 ∨ S' 25 (640 * c + (P' - 1)) = nI 11)) → Post S' := fun S' P' g hp hl => h S' P' g hp (fun q => hl (by
    rw [h4] at q
    rcases q with q | q
    · exact Or.inl (nI_inj q (by omega) (by omega))
    · exact Or.inr (nI_inj q (by omega) (by omega))))
  unfold wp_X12_make
  have hv : vp_in (nI (60 * m + i)) 480 := vp_in_nI (by omega) (by omega)
  have t6 : (6 : Int32) + nI d = nI (6 + d) := nI_add 6 d
  have t7 : (7 : Int32) + nI d = nI (7 + d) := nI_add 7 d
  rw [ix60, nI_clamp (n := 60 * m + i) (by omega), h4, hd, vn_0, t6, t7]
  generalize hxe : S 5 (60 * m + i) = x at hk hax hj ⊢
  have hm0 : (nI m).toNatClampNeg = m := nI_clamp (by omega)
  refine ⟨hv, hv, hv, fun co => ?_, fun co => ?_, fun co => ?_, fun co => ?_, fun co => ?_, fun co => ?_, fun co => ?_, fun co => ?_, fun co => ?_, fun co => ?_, fun co => ?_, fun co => ?_, fun co => ?_, fun co => ?_, fun co => ?_, fun co => ?_, fun co => ?_, fun co => ?_, fun co => ?_, fun co => ?_, fun co => ?_⟩
  · rw [nI_toInt (by omega)] at co
    exact absurd co (by omega)
  · obtain rfl : o = 0 := nI_inj (b := 0) co (by omega) (by omega)
    exact sp_knows (M := M) (m := m) (n := n) (own := i) h23 (by omega) (fun S' g e => h' S' P g (by omega) (fun q => absurd q (by decide)))
  · obtain rfl : o = 1 := nI_inj (b := 1) co (by omega) (by omega)
    obtain ⟨y, hy, rfl⟩ := hk.1 (Or.inl rfl)
    have hvy : vp_in (nI y) 7 := vp_in_nI (by omega) (by omega)
    have h88 : d + 1 ≤ 8 := by have := h8; simp only [tkN, lyN] at this; simpa using this
    refine ⟨hvy, fun _ => ?_, fun _ => ⟨hvy, sp_knows (M := M) (m := m) (n := n) (own := i) h23 (by omega) (fun S' g e => h' S' P g (by omega) (fun q => absurd q (by decide)))⟩⟩
    exact lay_part (o' := 1) hG g0 (Nat.le_refl _) (by omega) (by omega) (pv_1 hown hlive ⟨7 + d, by omega, rfl⟩ ⟨y, by omega, rfl⟩) (fun S7 g7 hp7 _ _ => h' S7 (P + 1) g7 (by omega) (fun q => absurd q (by decide)))
  · obtain rfl : o = 2 := nI_inj (b := 2) co (by omega) (by omega)
    obtain ⟨y, hy, rfl⟩ := hk.1 (Or.inr rfl)
    have hvy : vp_in (nI y) 7 := vp_in_nI (by omega) (by omega)
    have h1 : 1 ≤ d := by have := htk; simp only [tkN] at this; simpa using this
    have hv1 : vp_in (nI (d - 1)) 9 := vp_in_nI (by omega) (by omega)
    rw [nI_m1 h1, nI_clamp (n := d - 1) (by omega), nI_clamp (n := y) (by omega)]
    refine ⟨hv1, hvy, fun S12 e12 => ⟨hv1, fun _ => ?_, fun _ => ⟨hv1, hvy, fun S18 e18 => ⟨hv1, ?_⟩⟩⟩⟩
    · have g12 : GR M m n c i S P S12 P := GR.side h23 (fun k a _ _ _ => by rw [e12, ms_n _ _ a])
      have k12 : kn S12 = kn S := kn_eq (by rw [e12, ms_n _ _ (show 35 ≠ 33 by decide)])
      refine lay_part (o' := 1) hG g12 (Nat.le_refl _) (by omega) (by omega) (pv_1 hown hlive ⟨y, by omega, rfl⟩ ⟨6 + d, by omega, rfl⟩) (fun S7 g7 hp7 _ _ => ⟨hv1, fun S8 e8 => ?_⟩)
      obtain ⟨g8, k8⟩ := lay_off g7 hp7 (by omega) e8
      exact h' S8 (P + 1) g8 (by omega) (fun q => absurd q (by decide))
    · have g18 : GR M m n c i S P S18 P := GR.side h23 (fun k a b _ _ => by rw [e18, ms_n _ _ b, e12, ms_n _ _ a])
      have k18 : kn S18 = kn S := kn_eq (by rw [e18, ms_n _ _ (show 35 ≠ 34 by decide), e12, ms_n _ _ (show 35 ≠ 33 by decide)])
      refine lay_part (o' := 0) hG g18 (Nat.le_refl _) (by omega) (by omega) (pv_0 hown hlive ⟨y, by omega, rfl⟩) (fun S7 g7 hp7 _ _ => ⟨hv1, fun S8 e8 => ?_⟩)
      obtain ⟨g8, k8⟩ := lay_off g7 hp7 (by omega) e8
      exact h' S8 (P + 1) g8 (by omega) (fun q => absurd q (by decide))
  · obtain rfl : o = 3 := nI_inj (b := 3) co (by omega) (by omega)
    exact sp_makeTwo hG (by omega) (by omega) (by have := htk; simp only [tkN] at this; simpa using this) hd8 (by omega) (fun S' P' g hp => h' S' P' g (by omega) (fun q => absurd q (by decide)))
  · obtain rfl : o = 4 := nI_inj (b := 4) co (by omega) (by omega)
    exact sp_makeTwo hG (by omega) (by omega) (by have := htk; simp only [tkN] at this; simpa using this) hd8 (by omega) (fun S' P' g hp => h' S' P' g (by omega) (fun q => absurd q (by decide)))
  · obtain rfl : o = 5 := nI_inj (b := 5) co (by omega) (by omega)
    exact sp_makeTwo hG (by omega) (by omega) (by have := htk; simp only [tkN] at this; simpa using this) hd8 (by omega) (fun S' P' g hp => h' S' P' g (by omega) (fun q => absurd q (by decide)))
  · obtain rfl : o = 6 := nI_inj (b := 6) co (by omega) (by omega)
    exact sp_makeTwo hG (by omega) (by omega) (by have := htk; simp only [tkN] at this; simpa using this) hd8 (by omega) (fun S' P' g hp => h' S' P' g (by omega) (fun q => absurd q (by decide)))
  · obtain rfl : o = 7 := nI_inj (b := 7) co (by omega) (by omega)
    exact sp_makeTwo hG (by omega) (by omega) (by have := htk; simp only [tkN] at this; simpa using this) hd8 (by omega) (fun S' P' g hp => h' S' P' g (by omega) (fun q => absurd q (by decide)))
  · obtain rfl : o = 8 := nI_inj (b := 8) co (by omega) (by omega)
    exact sp_makeTwo hG (by omega) (by omega) (by have := htk; simp only [tkN] at this; simpa using this) hd8 (by omega) (fun S' P' g hp => h' S' P' g (by omega) (fun q => absurd q (by decide)))
  · obtain rfl : o = 9 := nI_inj (b := 9) co (by omega) (by omega)
    obtain ⟨y, hy, rfl, hy7⟩ := hj (Or.inl rfl)
    have hyl : ¬ S 7 (60 * m + y) = -1 := by rw [hy7]; exact nI_neg1 (by omega)
    refine lay_all hG g0 (Nat.le_refl _) (by omega) (by omega) (fun S6 P6 g6 hp6 => ?_)
    refine lay_part (o' := 8) hG g6 hp6 (by omega) (by omega) (pv_8 hown hlive ⟨y, hy, rfl, hyl⟩) (fun S7 g7 hp7 e25 _ => h' S7 (P6 + 1) g7 (by omega) (fun _ => ⟨by have := g6.1; omega, Or.inl ?_⟩))
    rw [show P6 + 1 - 1 = P6 by omega]; exact e25
  · obtain rfl : o = 10 := nI_inj (b := 10) co (by omega) (by omega)
    obtain ⟨y, hy, rfl, hy7⟩ := hj (Or.inr rfl)
    have hyl : ¬ S 7 (60 * m + y) = -1 := by rw [hy7]; exact nI_neg1 (by omega)
    exact sp_makeWhen hG (by have := htk; simp only [tkN] at this; simpa using this) hd8 (by omega) ⟨y, hy, rfl, hyl⟩ (fun S' P' g hp => h' S' P' g (by omega) (fun q => absurd q (by decide)))
  · obtain rfl : o = 11 := nI_inj (b := 11) co (by omega) (by omega)
    obtain ⟨y, hy, rfl, hy1, hax3⟩ := hax rfl
    have htk2 : ax ≤ d := by have := htk; simp only [tkN] at this; simpa using this
    have h82 : d - ax + 1 ≤ 8 := by have := h8; simp only [tkN, lyN] at this; simpa using this
    obtain ⟨hi1, hl1⟩ := hnx (by decide) (by decide)
    refine lay_all hG g0 (Nat.le_refl _) (by omega) (by omega) (fun S6 P6 g6 hp6 => ⟨vp_in_nI (by omega) (by omega), ?_⟩)
    rw [nI_clamp (n := y) (by omega), g6.keep.1, hy1, nI_sub (show ax ≤ 7 + d by omega)]
    refine lay_part (o' := 10) hG g6 hp6 (by omega) (by omega) (pv_10 hown hlive ⟨y, 7 + d - ax, ax, hy, rfl, hy1, hax3, rfl, by omega, by omega, hi1, by rw [hl1]; exact nI_neg1 (by omega)⟩) (fun S7 g7 hp7 _ _ => ?_)
    exact sp_fieldGuards (M := M) (hG.go g7) hm (by omega) (fun S8 P8 g8 hp8 e35 => h' S8 P8 (g7.tr g8 (by omega)) (by rw [kn_eq e35]; omega) (fun q => absurd q (by decide)))
  · obtain rfl : o = 12 := nI_inj (b := 12) co (by omega) (by omega)
    have h1 : 1 ≤ d := by have := htk; simp only [tkN] at this; simpa using this
    rw [nI_m1 h1]
    refine lay_one hG g0 (Nat.le_refl _) (by omega) (by omega) (fun S6 P6 g6 hp6 => ?_)
    refine lay_part (o' := 11) hG g6 hp6 (by omega) (by omega) (pv_11 hown hlive ⟨6 + d, by omega, rfl⟩) (fun S7 g7 hp7 e25 _ => h' S7 (P6 + 1) g7 (by omega) (fun _ => ⟨by have := g6.1; omega, Or.inr ?_⟩))
    rw [show P6 + 1 - 1 = P6 by omega]; exact e25
  · obtain rfl : o = 13 := nI_inj (b := 13) co (by omega) (by omega)
    obtain ⟨y, hy, rfl⟩ := hk.2.2.1 (Or.inl rfl)
    have h88 : d + 1 ≤ 8 := by have := h8; simp only [tkN, lyN] at this; simpa using this
    rw [show (3 : Int32) + nI y = nI (3 + y) from nI_add 3 y, show (11 : Int32) * nI m + 3 = nI (11 * m + 3) from ix11 m 3, nI_add]
    refine ⟨vp_in_nI (by omega) (by omega), fun _ => ?_, fun _ => ⟨vp_in_nI (by omega) (by omega), sp_knows (M := M) (m := m) (n := n) (own := i) h23 (by omega) (fun S' g e => h' S' P g (by omega) (fun q => absurd q (by decide)))⟩⟩
    exact lay_part (o' := 12) hG g0 (Nat.le_refl _) (by omega) (by omega) (pv_12 hown hlive ⟨7 + d, by omega, rfl⟩ ⟨y, by omega, rfl⟩) (fun S7 g7 hp7 _ _ => h' S7 (P + 1) g7 (by omega) (fun q => absurd q (by decide)))
  · obtain rfl : o = 14 := nI_inj (b := 14) co (by omega) (by omega)
    obtain ⟨y, hy, rfl⟩ := hk.2.2.1 (Or.inr rfl)
    have h1 : 1 ≤ d := by have := htk; simp only [tkN] at this; simpa using this
    rw [nI_m1 h1]
    refine lay_one hG g0 (Nat.le_refl _) (by omega) (by omega) (fun S6 P6 g6 hp6 => ?_)
    exact lay_part (o' := 13) hG g6 hp6 (by omega) (by omega) (pv_13 hown hlive ⟨6 + d, by omega, rfl⟩ ⟨y, by omega, rfl⟩) (fun S7 g7 hp7 _ _ => h' S7 (P6 + 1) g7 (by omega) (fun q => absurd q (by decide)))
  · obtain rfl : o = 15 := nI_inj (b := 15) co (by omega) (by omega)
    obtain ⟨y, hy, rfl⟩ := hk.2.2.2 (Or.inl rfl)
    have h1 : 1 ≤ d := by have := htk; simp only [tkN] at this; simpa using this
    rw [nI_m1 h1]
    refine lay_one hG g0 (Nat.le_refl _) (by omega) (by omega) (fun S6 P6 g6 hp6 => ?_)
    exact lay_part (o' := 14) hG g6 hp6 (by omega) (by omega) (pv_14 hown hlive ⟨6 + d, by omega, rfl⟩ ⟨y, by omega, rfl⟩) (fun S7 g7 hp7 _ _ => h' S7 (P6 + 1) g7 (by omega) (fun q => absurd q (by decide)))
  · obtain rfl : o = 16 := nI_inj (b := 16) co (by omega) (by omega)
    obtain ⟨y, hy, rfl⟩ := hk.2.2.2 (Or.inr (Or.inl rfl))
    have h1 : 1 ≤ d := by have := htk; simp only [tkN] at this; simpa using this
    rw [nI_m1 h1]
    refine lay_one hG g0 (Nat.le_refl _) (by omega) (by omega) (fun S6 P6 g6 hp6 => ?_)
    exact lay_part (o' := 15) hG g6 hp6 (by omega) (by omega) (pv_15 hown hlive ⟨6 + d, by omega, rfl⟩ ⟨6 + d, by omega, rfl⟩ ⟨y, by omega, rfl⟩) (fun S7 g7 hp7 _ _ => h' S7 (P6 + 1) g7 (by omega) (fun q => absurd q (by decide)))
  · obtain rfl : o = 17 := nI_inj (b := 17) co (by omega) (by omega)
    obtain ⟨y, hy, rfl⟩ := hk.2.2.2 (Or.inr (Or.inr rfl))
    have h2 : 2 ≤ d := by have := htk; simp only [tkN] at this; simpa using this
    rw [show nI d - 2 = nI (d - 2) from nI_sub (b := 2) h2, nI_m1 (n := d) (by omega), nI_m1 (n := 6 + d) (by omega)]
    refine lay_one hG g0 (Nat.le_refl _) (by omega) (by omega) (fun S5 P5 g5 hp5 => ?_)
    refine lay_one hG g5 hp5 (by omega) (by omega) (fun S6 P6 g6 hp6 => ?_)
    exact lay_part (o' := 16) hG g6 hp6 (by omega) (by omega) (pv_16 hown hlive ⟨6 + d - 1, by omega, rfl⟩ ⟨6 + d, by omega, rfl⟩ ⟨y, by omega, rfl⟩) (fun S7 g7 hp7 _ _ => h' S7 (P6 + 1) g7 (by omega) (fun q => absurd q (by decide)))
  · obtain rfl : o = 18 := nI_inj (b := 18) co (by omega) (by omega)
    have h1 : 1 ≤ d := by have := htk; simp only [tkN] at this; simpa using this
    have h88 : d - 1 + 2 ≤ 8 := by have := h8; simp only [tkN, lyN] at this; simpa using this
    have hv1 : vp_in (nI (d - 1)) 9 := vp_in_nI (by omega) (by omega)
    rw [nI_m1 h1]
    refine ⟨hv1, fun _ => ?_, fun _ => ⟨hv1, sp_knows (M := M) (m := m) (n := n) (own := i) h23 (by omega) (fun S' g e => h' S' P g (by omega) (fun q => absurd q (by decide)))⟩⟩
    exact lay_part (o' := 1) hG g0 (Nat.le_refl _) (by omega) (by omega) (pv_1 hown hlive ⟨7 + d, by omega, rfl⟩ ⟨6 + d, by omega, rfl⟩) (fun S7 g7 hp7 _ _ => h' S7 (P + 1) g7 (by omega) (fun q => absurd q (by decide)))
  · obtain rfl : o = 19 := nI_inj (b := 19) co (by omega) (by omega)
    have h1 : 1 ≤ d := by have := htk; simp only [tkN] at this; simpa using this
    have hv1 : vp_in (nI (d - 1)) 9 := vp_in_nI (by omega) (by omega)
    rw [nI_m1 h1]
    refine ⟨hv1, fun S8 e8 => ?_⟩
    obtain ⟨g8, k8⟩ := lay_off g0 (Nat.le_refl _) (by omega) e8
    exact h' S8 P g8 (by omega) (fun q => absurd q (by decide))
