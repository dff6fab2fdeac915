/-! every call of the class ends and keeps the invariant -/
theorem sp_X8_append {S : CST} {i : Nat} {a1 a2 : Int32} {Post : CST → Int32 → Prop} (hJ : J S) (hi : i < S.2.1) (hp : ∀ (S' : CST) (r : Int32), cnP S' = cnP S → J S' → Post S' r) : wp_X8_append S i a1 a2 Post := by
  obtain ⟨n, hn, hn2⟩ := hJ.2.2.2.1 i hi
  have hT : S.2 = S.2 := rfl
  unfold wp_X8_append
  refine ⟨cin_24 hT hi, fun c => ⟨cin_24 hT hi, cin_24 hT hi, cin_25 hT hi, ?_, fun S6 e6 => ?_⟩, fun _ => hp S _ rfl hJ⟩
  · rw [hn] at c ⊢
    exact vp_in_nI (Nat.not_le.mp (fun q => absurd c (Int32.not_lt.mpr (nI_le (a := 60) q (by omega))))) (by omega)
  · rw [hn] at c
    have hn60 : n < 60 := Nat.not_le.mp (fun q => absurd c (Int32.not_lt.mpr (nI_le (a := 60) q (by omega))))
    have hT6 : S6.2 = S.2 := by rw [e6]; rfl
    have e247 : cv S6 247 = cv S 247 := by rw [e6]; funext y; exact cs_n S _ (fun w => absurd w.1 (by decide))
    refine ⟨cin_24 hT6 hi, cin_24 hT6 hi, cin_26 hT6 hi, by rw [e247, hn]; exact vp_in_nI hn60 (by omega), fun S10 e10 => ?_⟩
    have hT10 : S10.2 = S.2 := by rw [e10]; exact hT6
    have f247 : cv S10 247 = cv S 247 := by rw [e10, ← e247]; funext y; exact cs_n S6 _ (fun w => absurd w.1 (by decide))
    refine ⟨cin_24 hT10 hi, cin_24 hT10 hi, fun S13 e13 => ?_⟩
    have hT13 : S13.2 = S.2 := by rw [e13]; exact hT10
    have hE : Ex [247, 250, 260] S S13 := by rw [e13, e10, e6]; exact Ex.cs (by decide) (Ex.cs (by decide) (Ex.cs (by decide) Ex.rf))
    refine ⟨cin_24 hT13 hi, hp S13 _ (congrArg Prod.fst hT13) (hJ.len (y := i) hE (fun y hy => ?_) ⟨n + 1, ?_, by omega⟩)⟩
    · rw [e13, cs_i hy, f247]
    · rw [e13, cs_s, f247, hn, nI_1]
theorem jm_write {S : CST} {a1 a2 a3 : Int32} {Post : CST → Int32 → Prop} (hJ : J S) (hp : ∀ (S' : CST) (r : Int32), cnP S' = cnP S → J S' → Post S' r) : wp_X11_write S a1 a2 a3 Post := by
  unfold wp_X11_write
  refine sp_X0_at (T := S.2) rfl hJ.v20 (fun r hr => ⟨fun _ => hp _ _ rfl hJ, fun c => ⟨fun _ => hp _ _ rfl hJ, fun _ => ⟨fun _ => ?_, fun _ => hp _ _ rfl hJ⟩⟩⟩)
  have hi := vid_lt hr c
  exact ⟨cin_24 rfl hi, sp_X8_isRight rfl hi (fun r2 _ => ⟨fun _ => ⟨cin_24 rfl hi, sp_X8_append hJ hi hp⟩, fun _ => hp _ _ rfl hJ⟩)⟩
theorem J.vid24 {S : CST} (h : J S) {i : Nat} (hi : i < S.2.1) (h2 : ¬ cv S 281 i 0 < 0) : (cv S 281 i 0).toNatClampNeg < S.2.2 := vid_lt (h.pr hi).2 h2
theorem sp_X11_tellOf {S : CST} {i : Nat} {a1 : Int32} {Post : Int32 → Prop} (hJ : J S) (hi : i < S.2.1) (h : ∀ r : Int32, Post r) : wp_X11_tellOf S i a1 Post := by
  have c24 : cin S 24 i := cin_24 rfl hi
  have c28 : cin S 28 i := cin_28 rfl hi
  unfold wp_X11_tellOf
  refine ⟨c24, fun _ => h _, fun _ => ⟨c28, fun _ => h _, fun _ => h _⟩, fun _ => ⟨c28, h _⟩, fun _ => ⟨c28, h _⟩, fun _ => ⟨c28, h _⟩, fun _ => ⟨c28, h _⟩, fun _ => ⟨c28, fun _ => h _, fun c => ⟨c28, fun q => absurd q c, fun _ => ?_⟩⟩, fun _ => ⟨c24, h _⟩, fun _ => ⟨c24, h _⟩⟩
  have hC := hJ.vid24 hi c
  obtain ⟨m, m2, hm, hm5, -, -⟩ := (hJ.2.2.2.2.1 _ hC).1
  exact ⟨cin_32 rfl hC, sp_X1_parts rfl hC hm hm5 (h _)⟩
theorem jm_of {S : CST} {a1 a2 : Int32} {Post : Int32 → Prop} (hJ : J S) (h : ∀ r : Int32, Post r) : wp_X11_of S a1 a2 Post := by
  unfold wp_X11_of
  exact sp_X0_at (T := S.2) rfl hJ.v20 (fun r hr => ⟨fun _ => h _, fun c => sp_X11_tellOf hJ (vid_lt hr c) h⟩)
theorem jm_part {S : CST} {a1 a2 a3 : Int32} {Post : Int32 → Prop} (hJ : J S) (h : ∀ r : Int32, Post r) : wp_X11_part S a1 a2 a3 Post := by
  unfold wp_X11_part
  refine sp_X0_at (T := S.2) rfl hJ.v20 (fun r hr => ⟨fun _ => h _, fun c => ?_⟩)
  have hi := vid_lt hr c
  have c24 := cin_24 (S := S) rfl hi
  have c28 := cin_28 (S := S) rfl hi
  refine ⟨c24, c28, fun _ => h _, fun c2 => ⟨c24, c28, fun q => absurd q c2, fun _ => ?_⟩⟩
  have hC := hJ.vid24 hi c2
  exact ⟨cin_32 rfl hC, sp_X1_cell rfl hC (hJ.2.2.2.2.1 _ hC).1 h⟩
theorem jm_varies {S : CST} {a1 a2 : Int32} {Post : Int32 → Prop} (hJ : J S) (h : ∀ r : Int32, Post r) : wp_X11_varies S a1 a2 Post := by
  unfold wp_X11_varies
  refine sp_X0_at (T := S.2) rfl hJ.v20 (fun r hr => ⟨fun _ => ⟨fun _ => ⟨fun _ => h _, fun _ => ⟨fun _ => h _, fun _ => h _⟩⟩, fun _ => ⟨fun _ => ⟨fun _ => h _, fun _ => ⟨fun _ => h _, fun _ => h _⟩⟩, fun _ => ⟨fun _ => h _, fun _ => ⟨fun _ => h _, fun _ => h _⟩⟩⟩⟩, fun c => ?_⟩)
  have hi := vid_lt hr c
  have iv : ∀ x : Int32, cin S 24 r.toNatClampNeg ∧ (cin S 28 r.toNatClampNeg ∧ (wp_X5_isVarying S r.toNatClampNeg x (fun r18 => ((r18 = 0) → Post 0) ∧ ((¬ r18 = 0) → Post 1)))) := fun x => ⟨cin_24 rfl hi, cin_28 rfl hi, sp_X5_isVarying rfl hi (fun _ => ⟨fun _ => h _, fun _ => h _⟩)⟩
  exact ⟨fun _ => ⟨fun _ => h _, fun _ => ⟨fun _ => h _, fun _ => iv _⟩⟩, fun _ => ⟨fun _ => ⟨fun _ => h _, fun _ => ⟨fun _ => h _, fun _ => iv _⟩⟩, fun _ => ⟨fun _ => iv _, fun _ => ⟨fun _ => iv _, fun _ => iv _⟩⟩⟩⟩
theorem jm_depth {S : CST} {a1 a2 : Int32} {Post : Int32 → Prop} (hJ : J S) (h : ∀ r : Int32, Post r) : wp_X11_depth S a1 a2 Post := by
  unfold wp_X11_depth
  refine sp_X0_at (T := S.2) rfl hJ.v20 (fun r hr => ⟨fun _ => h _, fun c => ?_⟩)
  have hi := vid_lt hr c
  have c24 := cin_24 (S := S) rfl hi
  exact ⟨c24, sp_X8_has rfl hi (fun _ _ => ⟨fun _ => ⟨c24, sp_X8_isRight rfl hi (fun _ _ => ⟨fun _ => h _, fun _ => ⟨c24, sp_X8_depthAt rfl hi (fun _ => h _)⟩⟩)⟩, fun _ => h _⟩)⟩
theorem jm_count {S : CST} {a1 : Int32} {Post : Int32 → Prop} (h : ∀ r : Int32, Post r) : wp_X11_count S a1 Post := by
  unfold wp_X11_count
  exact ⟨fun _ => h _, fun _ => h _, fun _ => h _, fun _ => h _, fun _ => h _, fun _ => h _, fun _ => h _⟩
theorem lp_X11_mixedWith_2 {S : CST} {K : Int64 → Nat → Prop} {Post : Int64 → Prop} {i : Nat} (hJ : J S) (hi : i < S.2.1) (hK : ∀ r : Int64, K r i) : ∀ (n j : Nat) (x : Int64), j + n = 2147483647 → wl_X11_mixedWith_2 S K Post (n + 1) x i (nI j) := by
  intro n
  induction n with
  | zero =>
    intro j x hj
    unfold wl_X11_mixedWith_2
    obtain rfl : j = 2147483647 := by omega
    exact ⟨fun _ => hK _, fun c => absurd (show (5 : Int32) < nI 2147483647 by decide) c⟩
  | succ n ih =>
    intro j x hj
    unfold wl_X11_mixedWith_2
    rw [nI_1]
    exact ⟨fun _ => hK _, fun _ => sp_X11_tellOf hJ hi (fun _ => ih (j + 1) _ (by omega))⟩
theorem sp_X11_mixedWith {S : CST} {i : Nat} {a0 : Int64} {Post : Int64 → Prop} (hJ : J S) (hi : i < S.2.1) (h : ∀ r : Int64, Post r) : wp_X11_mixedWith S a0 i Post := by
  have c24 : cin S 24 i := cin_24 rfl hi
  have c28 : cin S 28 i := cin_28 rfl hi
  refine ⟨2147483647 + 1, lp_X11_mixedWith_2 hJ hi (fun r => ⟨c24, c28, fun _ => h _, fun c => ⟨c24, c28, fun q => absurd q c, fun _ => ?_⟩⟩) 2147483647 0 a0 rfl⟩
  have hC := hJ.vid24 hi c
  exact ⟨cin_32 rfl hC, sp_X1_mixedInto rfl hC (hJ.2.2.2.2.1 _ hC).1 h⟩
theorem lp_X11_digest_25 {S : CST} {K : Int64 → Prop} {Post : Int64 → Prop} (hJ : J S) (hK : ∀ r : Int64, K r) : ∀ (n j : Nat) (x : Int64), j + n = 2147483647 → wl_X11_digest_25 S K Post (n + 1) x (nI j) := by
  intro n
  induction n with
  | zero =>
    intro j x hj
    unfold wl_X11_digest_25
    obtain rfl : j = 2147483647 := by omega
    exact ⟨fun _ => hK _, fun c => absurd (z_max _) c⟩
  | succ n ih =>
    intro j x hj
    unfold wl_X11_digest_25
    rw [nI_1]
    exact ⟨fun _ => hK _, fun _ => sp_X0_at (T := S.2) rfl hJ.v20 (fun r hr => ⟨fun _ => ih (j + 1) _ (by omega), fun c => sp_X11_mixedWith hJ (vid_lt hr c) (fun _ => ih (j + 1) _ (by omega))⟩)⟩
theorem jm_digest {S : CST} {Post : Int64 → Prop} (hJ : J S) (h : ∀ r : Int64, Post r) : wp_X11_digest S Post := by
  unfold wp_X11_digest
  exact sp_X2_mixedInto (fun _ => sp_X10_mixedInto (fun _ => ⟨2147483647 + 1, lp_X11_digest_25 hJ h 2147483647 0 _ rfl⟩))
theorem jm_fault {S : CST} {Post : Int32 → Prop} (h : ∀ r : Int32, Post r) : wp_X11_fault S Post := h _
theorem jm_answer {S : CST} {Post : Int32 → Prop} (h : ∀ r : Int32, Post r) : wp_X11_answer S Post := h _
theorem jm_trap {S : CST} {a1 : Int32} {Post : Int32 → Prop} (h : ∀ r : Int32, Post r) : wp_X11_trap S a1 Post := by
  unfold wp_X11_trap
  exact sp_X10_ofTrap (fun _ => h _)
theorem jm_item {S : CST} {a1 a2 : Int32} {Post : Int32 → Prop} (h : ∀ r : Int32, Post r) : wp_X11_item S a1 a2 Post := by
  unfold wp_X11_item
  exact sp_X2_itemOf (fun _ => h _)
theorem jm_size {S : CST} {a1 : Int32} {Post : Int32 → Prop} (h : ∀ r : Int32, Post r) : wp_X11_size S a1 Post := by
  unfold wp_X11_size
  exact ⟨fun _ => h _, fun _ => ⟨fun _ => sp_X2_lengthOf (fun _ _ => h _), fun _ => h _⟩⟩
theorem jm_field {S : CST} {a1 : Int32} {Post : Int32 → Prop} (h : ∀ r : Int32, Post r) : wp_X11_field S a1 Post := by
  unfold wp_X11_field
  exact ⟨fun _ => h _, fun _ => ⟨fun _ => sp_X2_valueOf (fun _ => h _), fun _ => h _⟩⟩
theorem jm_keep {S : CST} {a1 a2 : Int32} {Post : CST → Int32 → Prop} (hJ : J S) (hp : ∀ (S' : CST) (r : Int32), cnP S' = cnP S → J S' → Post S' r) : wp_X11_keep S a1 a2 Post := by
  unfold wp_X11_keep
  exact ⟨fun _ => hp _ _ rfl hJ, fun _ => ⟨fun _ => sp_X2_valueOf (fun _ => sp_X2_put (T := S.2) rfl (fun S' hT' e => hp S' _ (congrArg Prod.fst hT') (hJ.ex e rfl))), fun _ => hp _ _ rfl hJ⟩⟩
theorem jm_lose {S : CST} {a1 : Int32} {Post : CST → Int32 → Prop} (hJ : J S) (hp : ∀ (S' : CST) (r : Int32), cnP S' = cnP S → J S' → Post S' r) : wp_X11_lose S a1 Post := by
  unfold wp_X11_lose
  exact ⟨fun _ => hp _ _ rfl hJ, fun _ => ⟨fun _ => sp_X2_lengthOf (fun _ _ => sp_X2_renew (T := S.2) rfl (fun S' hT' e => hp S' _ (congrArg Prod.fst hT') (hJ.ex e rfl))), fun _ => hp _ _ rfl hJ⟩⟩
