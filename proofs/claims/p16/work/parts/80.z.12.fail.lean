/-! BOTH: a GUARD fails -/
theorem xr_gtail {S : CST} {f cd pl h n place i1 t : Nat} {fails : Prop} {Post : CST → Prop} (hf : f < 16) (h221 : cv S 221 f 0 = nI cd) (hcd : cd < cnC S) (hcd31 : cd < 2 ^ 31) (h321 : cv S 321 cd 0 = nI h) (hh : h < 2 ^ 31) (h222 : cv S 222 f 0 = nI place) (hpl31 : place < 2 ^ 31) (hpl : pl < cnC S) (h349 : cv S 349 pl 0 = nI n) (hn : n ≤ 60) (h340 : h < place → i1 < n ∧ cv S 340 pl i1 = nI t)
    (ha : h < place → Post (cs (cs S 221 f (fun _ => nI pl)) 222 f (fun _ => nI t))) (hb : ¬ h < place → Post (cs (cs S 221 f (fun _ => nI pl)) 222 f (fun _ => 0))) :
    cin S 22 f ∧ (cin S 22 f ∧ (((cv S 221 f 0) < 0) → (False)) ∧ ((¬ ((cv S 221 f 0) < 0)) → (cin S 32 (((cv S 221 f 0) : Int32).toNatClampNeg) ∧ ((((cv S 321 (((cv S 221 f 0) : Int32).toNatClampNeg) 0) < (cv S 222 f 0)) → (cin S 22 f ∧ (∀ S83 : CST, S83 = cs S 221 f (fun _ => nI pl) → (cin S83 32 pl ∧ (wp_X1_startOf S83 pl (nI i1) (fun r85 => cin S83 22 f ∧ (∀ S87 : CST, S87 = cs S83 222 f (fun _ => r85) → (Post S87)))))))) ∧ ((¬ ((cv S 321 (((cv S 221 f 0) : Int32).toNatClampNeg) 0) < (cv S 222 f 0))) → (cin S 22 f ∧ (∀ S89 : CST, S89 = cs S 221 f (fun _ => nI pl) → (cin S89 22 f ∧ (∀ S91 : CST, S91 = cs S89 222 f (fun _ => 0) → (Post S91)))))))))) := by
  have c22 : cin S 22 f := cin_22 hf
  have lt : nI h < nI place ↔ h < place := ⟨fun q => Nat.not_le.mp (fun w => absurd q (Int32.not_lt.mpr (nI_le w hh))), fun q => Int32.not_le.mp (nI_ge q hpl31)⟩
  rw [h221, nI_clamp (n := cd) hcd31, h321, h222]
  refine ⟨c22, c22, fun q => absurd q (nI_nn cd hcd31), fun _ => ⟨cin_32 rfl hcd, fun q => ⟨c22, fun S83 e83 => ?_⟩, fun q => ⟨c22, fun S89 e89 => ⟨cin_22 hf, fun S91 e91 => ?_⟩⟩⟩⟩
  · have hq := lt.mp q
    obtain ⟨i1n, e340⟩ := h340 hq
    have hT : S83.2 = S.2 := by rw [e83]; rfl
    have n83 : ∀ k i : Nat, k ≠ 221 → cv S83 k i = cv S k i := fun k i a => by rw [e83, cs_n _ _ (fun w => a w.1)]
    have hpl83 : pl < cnC S83 := by rw [show cnC S83 = cnC S from congrArg Prod.snd hT]; exact hpl
    refine ⟨cin_32 rfl hpl83, xr_startOf hpl83 (by rw [n83 349 pl (by decide)]; exact h349) hn i1n ⟨cin_22 hf, fun S87 e87 => ?_⟩⟩
    rw [n83 340 pl (by decide), e340, e83] at e87
    rw [e87]; exact ha hq
  · rw [e91, e89]; exact hb (fun w => q (lt.mpr w))
/-- the code is thrown away where it is the present one -/
def GuC (S S' : CST) (f y t pl place : Nat) (thr : Prop) : Prop := Ex [204, 221, 222, 280, 282, 284, 310] S S' ∧ cv S' 204 0 0 = cv S 204 0 0 + 1 ∧ cv S' 284 y 0 = cv S 284 y 0 + 1 ∧ cv S' 310 y = upd (cv S 310 y) t 1 ∧ (∀ z : Nat, z ≠ y → cv S' 284 z = cv S 284 z ∧ cv S' 310 z = cv S 310 z ∧ cv S' 280 z = cv S 280 z ∧ cv S' 282 z = cv S 282 z) ∧ cv S' 221 f 0 = nI pl ∧ cv S' 222 f 0 = nI place ∧ (∀ g : Nat, g ≠ f → cv S' 221 g = cv S 221 g ∧ cv S' 222 g = cv S 222 g) ∧ ((thr ∧ cv S' 280 y 0 = 0 ∧ cv S' 282 y 0 = 0) ∨ (¬ thr ∧ cv S' 280 y 0 = cv S 280 y 0 ∧ cv S' 282 y 0 = cv S 282 y 0))
theorem xr_guard {S : CST} {f y t cd pl h n place tt : Nat} {i : Int32} {Post : CST → Prop} (hf : f < 16) (hy : y < cnP S) (hy8 : y < 8) (ht : t < 11) (h220 : cv S 220 f 0 = nI y) (h221 : cv S 221 f 0 = nI cd) (hcd : cd < cnC S) (hcd31 : cd < 2 ^ 31) (h321 : cv S 321 cd 0 = nI h) (hh : h < 2 ^ 31) (h222 : cv S 222 f 0 = nI place) (hpl31 : place < 2 ^ 31) (h249 : cv S 249 y 0 = nI pl) (hpl : pl < cnC S) (hplc : pl < 2 ^ 31) (h349 : cv S 349 pl 0 = nI n) (hn : n ≤ 60) {w : Nat} (hi : i = nI w) (h340 : h < place → w + 1 < n ∧ cv S 340 pl (w + 1) = nI tt)
    (hp : ∀ S' : CST, GuC S S' f y t pl (if h < place then tt else 0) (¬ cv S 280 y 0 = 0 ∧ cv S 283 y 0 = cv S 320 cd 0) → Post S') : wp_X7_guard S f (nI t) 0 i Post := by
  subst hi
  have c22 : cin S 22 f := cin_22 hf
  have c24 : cin S 24 y := cin_24 rfl hy
  unfold wp_X7_guard
  rw [h220, nI_clamp (n := y) (by omega), h249, nI_clamp (n := pl) hplc, nI_1]
  refine ⟨fun _ => ⟨c22, fun q => absurd q (nI_nn y (by omega)), fun _ => ⟨c24, c22, fun q => absurd q (nI_nn y (by omega)), fun _ => ⟨c24, fun q => absurd q (nI_nn pl hplc), fun _ S69 e69 => ?_⟩⟩⟩, fun q => absurd rfl q⟩
  have hT69 : S69.2 = S.2 := by rw [e69]; rfl
  refine ⟨cin_28 hT69 hy, cin_28 hT69 hy, fun S72 e72 => ?_⟩
  have hT72 : S72.2 = S.2 := by rw [e72]; exact hT69
  refine ⟨cin_28 hT72 hy, ?_⟩
  unfold wp_X5_markVarying
  rw [nI_clamp (n := t) (by omega), vn_1]
  refine ⟨fun q => absurd q (nI_nn t (by omega)), fun _ => ⟨fun q => absurd q (nI_ge (b := 11) ht (by omega)), fun _ => ⟨cin_28 hT72 hy, cin_31 hT72 hy, vp_in_nI ht (by omega), fun S74 e74 => ?_⟩⟩⟩
  have hT74 : S74.2 = S.2 := by rw [e74]; exact hT72
  have p2 : cnC S74 = cnC S := congrArg Prod.snd hT74
  have n74 : ∀ k i : Nat, k ≠ 204 → k ≠ 284 → k ≠ 310 → cv S74 k i = cv S k i := fun k i a b d => by rw [e74, cs_n _ _ (fun w => d w.1), e72, cs_n _ _ (fun w => b w.1), e69, cs_n _ _ (fun w => a w.1)]
  have g204 : cv S74 204 0 0 = cv S 204 0 0 + 1 := by rw [e74, cs_n _ _ (fun w => absurd w.1 (by decide)), e72, cs_n _ _ (fun w => absurd w.1 (by decide)), e69, cs_s]
  have g284 : cv S74 284 y 0 = cv S 284 y 0 + 1 := by rw [e74, cs_n _ _ (fun w => absurd w.1 (by decide)), e72, cs_s, e69, cs_n _ _ (fun w => absurd w.1 (by decide))]
  have g310 : cv S74 310 y = upd (cv S 310 y) t 1 := by rw [e74, cs_s, e72, cs_n _ _ (fun w => absurd w.1 (by decide)), e69, cs_n _ _ (fun w => absurd w.1 (by decide))]
  have o74 : ∀ z : Nat, z ≠ y → cv S74 284 z = cv S 284 z ∧ cv S74 310 z = cv S 310 z := fun z hz => ⟨by rw [e74, cs_n _ _ (fun w => absurd w.1 (by decide)), e72, cs_i hz, e69, cs_n _ _ (fun w => absurd w.1 (by decide))], by rw [e74, cs_i hz, e72, cs_n _ _ (fun w => absurd w.1 (by decide)), e69, cs_n _ _ (fun w => absurd w.1 (by decide))]⟩
  have hE74 : Ex [204, 221, 222, 280, 282, 284, 310] S S74 := by rw [e74, e72, e69]; exact Ex.cs (by decide) (Ex.cs (by decide) (Ex.cs (by decide) Ex.rf))
  -- the end, from a state with or without the code
  have fin : ∀ (Sx : CST) (b : Int32), Ex [204, 221, 222, 280, 282, 284, 310] S Sx → (∀ k i : Nat, k ≠ 280 → k ≠ 282 → cv Sx k i = cv S74 k i) → (∀ z : Nat, z ≠ y → cv Sx 280 z = cv S 280 z ∧ cv Sx 282 z = cv S 282 z) → (((¬ cv S 280 y 0 = 0 ∧ cv S 283 y 0 = cv S 320 cd 0) ∧ cv Sx 280 y 0 = 0 ∧ cv Sx 282 y 0 = 0) ∨ (¬ (¬ cv S 280 y 0 = 0 ∧ cv S 283 y 0 = cv S 320 cd 0) ∧ cv Sx 280 y 0 = cv S 280 y 0 ∧ cv Sx 282 y 0 = cv S 282 y 0)) → ∀ v : Nat, v = (if h < place then tt else 0) → Post (cs (cs Sx 221 f (fun _ => nI pl)) 222 f (fun _ => nI v)) := fun Sx _ hEx nx oz hc v hv => by
    subst hv
    refine hp _ ⟨Ex.cs (by decide) (Ex.cs (by decide) hEx), ?_, ?_, ?_, fun z hz => ⟨?_, ?_, ?_, ?_⟩, ?_, ?_, fun g hg => ⟨?_, ?_⟩, ?_⟩
    · rw [cs_n _ _ (fun w => absurd w.1 (by decide)), cs_n _ _ (fun w => absurd w.1 (by decide)), nx 204 0 (by decide) (by decide)]; exact g204
    · rw [cs_n _ _ (fun w => absurd w.1 (by decide)), cs_n _ _ (fun w => absurd w.1 (by decide)), nx 284 y (by decide) (by decide)]; exact g284
    · rw [cs_n _ _ (fun w => absurd w.1 (by decide)), cs_n _ _ (fun w => absurd w.1 (by decide)), nx 310 y (by decide) (by decide)]; exact g310
    · rw [cs_n _ _ (fun w => absurd w.1 (by decide)), cs_n _ _ (fun w => absurd w.1 (by decide)), nx 284 z (by decide) (by decide)]; exact (o74 z hz).1
    · rw [cs_n _ _ (fun w => absurd w.1 (by decide)), cs_n _ _ (fun w => absurd w.1 (by decide)), nx 310 z (by decide) (by decide)]; exact (o74 z hz).2
    · rw [cs_n _ _ (fun w => absurd w.1 (by decide)), cs_n _ _ (fun w => absurd w.1 (by decide))]; exact (oz z hz).1
    · rw [cs_n _ _ (fun w => absurd w.1 (by decide)), cs_n _ _ (fun w => absurd w.1 (by decide))]; exact (oz z hz).2
    · rw [cs_n _ _ (fun w => absurd w.1 (by decide)), cs_s]
    · rw [cs_s]
    · rw [cs_n _ _ (fun w => absurd w.1 (by decide)), cs_i hg, nx 221 g (by decide) (by decide), n74 221 g (by decide) (by decide) (by decide)]
    · rw [cs_i hg, cs_n _ _ (fun w => absurd w.1 (by decide)), nx 222 g (by decide) (by decide), n74 222 g (by decide) (by decide) (by decide)]
    · rw [cs_n _ _ (fun w => absurd w.1 (by decide)), cs_n _ _ (fun w => absurd w.1 (by decide)), cs_n _ _ (fun w => absurd w.1 (by decide)), cs_n _ _ (fun w => absurd w.1 (by decide))]; exact hc
  have tail : ∀ (Sx : CST), Ex [204, 221, 222, 280, 282, 284, 310] S Sx → (∀ k i : Nat, k ≠ 280 → k ≠ 282 → cv Sx k i = cv S74 k i) → (∀ z : Nat, z ≠ y → cv Sx 280 z = cv S 280 z ∧ cv Sx 282 z = cv S 282 z) → (((¬ cv S 280 y 0 = 0 ∧ cv S 283 y 0 = cv S 320 cd 0) ∧ cv Sx 280 y 0 = 0 ∧ cv Sx 282 y 0 = 0) ∨ (¬ (¬ cv S 280 y 0 = 0 ∧ cv S 283 y 0 = cv S 320 cd 0) ∧ cv Sx 280 y 0 = cv S 280 y 0 ∧ cv Sx 282 y 0 = cv S 282 y 0)) →
      cin Sx 22 f ∧ (cin Sx 22 f ∧ (((cv Sx 221 f 0) < 0) → (False)) ∧ ((¬ ((cv Sx 221 f 0) < 0)) → (cin Sx 32 (((cv Sx 221 f 0) : Int32).toNatClampNeg) ∧ ((((cv Sx 321 (((cv Sx 221 f 0) : Int32).toNatClampNeg) 0) < (cv Sx 222 f 0)) → (cin Sx 22 f ∧ (∀ S83 : CST, S83 = cs Sx 221 f (fun _ => nI pl) → (cin S83 32 pl ∧ (wp_X1_startOf S83 pl (nI (w + 1)) (fun r85 => cin S83 22 f ∧ (∀ S87 : CST, S87 = cs S83 222 f (fun _ => r85) → (Post S87)))))))) ∧ ((¬ ((cv Sx 321 (((cv Sx 221 f 0) : Int32).toNatClampNeg) 0) < (cv Sx 222 f 0))) → (cin Sx 22 f ∧ (∀ S89 : CST, S89 = cs Sx 221 f (fun _ => nI pl) → (cin S89 22 f ∧ (∀ S91 : CST, S91 = cs S89 222 f (fun _ => 0) → (Post S91)))))))))) := fun Sx hEx nx oz hc => by
    have q2 : cnC Sx = cnC S := congrArg Prod.snd hEx.1
    have nn : ∀ k i : Nat, k ≠ 280 → k ≠ 282 → k ≠ 204 → k ≠ 284 → k ≠ 310 → cv Sx k i = cv S k i := fun k i a b d e g => by rw [nx k i a b, n74 k i d e g]
    exact xr_gtail (fails := True) (t := tt) hf (by rw [nn 221 f (by decide) (by decide) (by decide) (by decide) (by decide)]; exact h221) (by omega) hcd31 (by rw [nn 321 cd (by decide) (by decide) (by decide) (by decide) (by decide)]; exact h321) hh (by rw [nn 222 f (by decide) (by decide) (by decide) (by decide) (by decide)]; exact h222) hpl31 (by omega) (by rw [nn 349 pl (by decide) (by decide) (by decide) (by decide) (by decide)]; exact h349) hn (fun q => ⟨(h340 q).1, by rw [nn 340 pl (by decide) (by decide) (by decide) (by decide) (by decide)]; exact (h340 q).2⟩) (fun q => fin Sx 0 hEx nx oz hc tt (if_pos q).symm) (fun q => fin Sx 0 hEx nx oz hc 0 (if_neg q).symm)
  have z74 : ∀ z : Nat, z ≠ y → cv S74 280 z = cv S 280 z ∧ cv S74 282 z = cv S 282 z := fun z _ => ⟨n74 280 z (by decide) (by decide) (by decide), n74 282 z (by decide) (by decide) (by decide)⟩
  have e280 : cv S74 280 y 0 = cv S 280 y 0 := by rw [n74 280 y (by decide) (by decide) (by decide)]
  have e282 : cv S74 282 y 0 = cv S 282 y 0 := by rw [n74 282 y (by decide) (by decide) (by decide)]
  have e283 : cv S74 283 y 0 = cv S 283 y 0 := by rw [n74 283 y (by decide) (by decide) (by decide)]
  have e221 : cv S74 221 f 0 = nI cd := by rw [n74 221 f (by decide) (by decide) (by decide)]; exact h221
  have e320 : cv S74 320 cd 0 = cv S 320 cd 0 := by rw [n74 320 cd (by decide) (by decide) (by decide)]
  refine ⟨cin_28 hT74 hy, fun cz => tail S74 hE74 (fun _ _ _ _ => rfl) z74 (Or.inr ⟨fun q => q.1 (e280.symm.trans cz), e280, e282⟩), fun cn => ⟨cin_28 hT74 hy, cin_22 hf, ?_⟩⟩
  have t1 := fun hc => tail S74 hE74 (fun _ _ _ _ => rfl) z74 hc
  rw [e221, nI_clamp (n := cd) hcd31] at t1 ⊢
  refine ⟨fun q => absurd q (nI_nn cd hcd31), fun _ => ⟨cin_32 rfl (show cd < cnC S74 by omega), fun c3 => t1 (Or.inr ⟨fun q => c3 (by rw [e283, e320]; exact q.2), e280, e282⟩), fun c3 => ⟨cin_28 hT74 hy, ?_⟩⟩⟩
  unfold wp_X5_throwAway
  refine ⟨cin_28 hT74 hy, fun S2 e2 => ⟨cin_28 (T := S.2) (by rw [e2]; exact hT74) hy, fun S4 e4 => tail S4 (by rw [e4, e2]; exact Ex.cs (by decide) (Ex.cs (by decide) hE74)) (fun k i a b => by rw [e4, cs_n _ _ (fun w => b w.1), e2, cs_n _ _ (fun w => a w.1)]) (fun z hz => ⟨by rw [e4, cs_n _ _ (fun w => absurd w.1 (by decide)), e2, cs_i hz]; exact (z74 z hz).1, by rw [e4, cs_i hz, e2, cs_n _ _ (fun w => absurd w.1 (by decide))]; exact (z74 z hz).2⟩) (Or.inl ⟨⟨by rw [← e280]; exact cn, by rw [← e283, ← e320]; exact c3⟩, by rw [e4, cs_n _ _ (fun w => absurd w.1 (by decide)), e2, cs_s], by rw [e4, cs_s]⟩)⟩⟩
/-! .. in the reference: whether the GUARD stands behind a CALL -/
theorem nI_q640 {a : Nat} (h : a < 2 ^ 31) : (nI a : Int32) / 640 = nI (a / 640) := (Int32.ofNat_div h (show 640 < 2 ^ 31 by decide)).symm
theorem mr_bc_0 {S : MST} {c p : Nat} {Post : Int32 → Prop} (hc : c < 96) (hp : p < 640) (h0 : Post 0) (hz : ∀ q : Nat, q < p → ¬ S 25 (640 * c + q) = 10) : wp_X12_isBehindCall S (nI (640 * c + p)) Post := by
  have hvp : vp_in (nI (640 * c + p)) 61440 := vp_in_nI (by omega) (by omega)
  unfold wp_X12_isBehindCall
  have K : ∀ x : Nat, x < 640 * c + p → (((nI x : Int32) < 0) → (Post 0)) ∧ ((¬ ((nI x : Int32) < 0)) → (((¬ (((nI x / 640) : Int32) = (nI (640 * c + p) / 640))) → (Post 0)) ∧ ((((nI x / 640) : Int32) = (nI (640 * c + p) / 640)) → (vp_in (nI x) 61440 ∧ (((¬ (((S 25 (nI x : Int32).toNatClampNeg) : Int32) = 10)) → (Post 0)) ∧ ((((S 25 (nI x : Int32).toNatClampNeg) : Int32) = 10) → (vp_in (nI x) 61440 ∧ (vp_in (nI (640 * c + p)) 61440 ∧ (((¬ (((S 29 (nI x : Int32).toNatClampNeg) : Int32) = (S 29 (nI (640 * c + p) : Int32).toNatClampNeg))) → (Post 0)) ∧ ((((S 29 (nI x : Int32).toNatClampNeg) : Int32) = (S 29 (nI (640 * c + p) : Int32).toNatClampNeg)) → (Post 1))))))))))) := fun x hx => by
    rw [nI_q640 (a := x) (by omega), nI_q640 (a := 640 * c + p) (by omega), nI_clamp (n := x) (by omega)]
    refine ⟨fun _ => h0, fun _ => ⟨fun _ => h0, fun e => ⟨vp_in_nI (by omega) (by omega), fun _ => h0, fun e10 => ?_⟩⟩⟩
    have e := nI_inj e (by omega) (by omega)
    have h2 := hz (x - 640 * c) (by omega)
    rw [show 640 * c + (x - 640 * c) = x by omega] at h2
    exact absurd e10 h2
  refine ⟨640 * c + p + 1, sp_bc4 (by omega) ?_ (fun q hq => K q hq) (640 * c + p) (Nat.le_refl _)⟩
  exact ⟨fun _ => h0, fun q => absurd (show (-1 : Int32) < 0 by decide) q⟩
theorem mr_bc4 {S : MST} {c p p0 : Nat} {K : Int32 → Int32 → Prop} {Post : Int32 → Prop} (hc : c < 96) (hp : p < 640) (hK : K (nI (640 * c + p)) (nI (640 * c + p0))) (h0 : ¬ S 25 (640 * c + p0) = 18) (hz : ∀ q : Nat, p0 < q → q < p → S 25 (640 * c + q) = 18 ∧ S 29 (640 * c + q) = S 29 (640 * c + p)) : ∀ (k x : Nat), x = p0 + k → x < p → wl_X12_isBehindCall_4 S K Post (k + 1) (nI (640 * c + p)) (nI (640 * c + x)) := by
  intro k
  induction k with
  | zero =>
    intro x hx hxp
    obtain rfl : x = p0 := by omega
    unfold wl_X12_isBehindCall_4
    rw [nI_clamp (n := 640 * c + x) (by omega)]
    exact ⟨fun q => absurd q (nI_nn _ (by omega)), fun _ => ⟨vp_in_nI (by omega) (by omega), fun _ => hK, fun q => absurd q h0⟩⟩
  | succ k ih =>
    intro x hx hxp
    obtain ⟨z1, z2⟩ := hz x (by omega) hxp
    unfold wl_X12_isBehindCall_4
    rw [nI_clamp (n := 640 * c + x) (by omega), nI_clamp (n := 640 * c + p) (by omega), nI_q640 (a := 640 * c + x) (by omega), nI_q640 (a := 640 * c + p) (by omega), show (640 * c + x) / 640 = (640 * c + p) / 640 by omega, z1, z2]
    refine ⟨fun q => absurd q (nI_nn _ (by omega)), fun _ => ⟨vp_in_nI (by omega) (by omega), fun q => absurd rfl q, fun _ => ⟨vp_in_nI (by omega) (by omega), vp_in_nI (by omega) (by omega), fun q => absurd rfl q, fun _ => ⟨fun q => absurd rfl q, fun _ => ?_⟩⟩⟩⟩
    rw [show nI (640 * c + x) + -1 = nI (640 * c + (x - 1)) by
      rw [show nI (640 * c + x) + -1 = nI (640 * c + x) - 1 by rw [Int32.sub_eq_add_neg], nI_m1 (by omega)]; congr 1; omega]
    exact ih (x - 1) (by omega) (by omega)
theorem mr_bc_1 {S : MST} {c p p0 : Nat} {Post : Int32 → Prop} (hc : c < 96) (hp : p < 640) (hp0 : p0 < p) (h1 : Post 1) (h10 : S 25 (640 * c + p0) = 10) (h29 : S 29 (640 * c + p0) = S 29 (640 * c + p)) (hz : ∀ q : Nat, p0 < q → q < p → S 25 (640 * c + q) = 18 ∧ S 29 (640 * c + q) = S 29 (640 * c + p)) : wp_X12_isBehindCall S (nI (640 * c + p)) Post := by
  unfold wp_X12_isBehindCall
  rw [show nI (640 * c + p) - 1 = nI (640 * c + (p - 1)) by rw [nI_m1 (by omega)]; congr 1; omega]
  refine ⟨p - 1 - p0 + 1, mr_bc4 hc hp ?_ (by rw [h10]; decide) hz (p - 1 - p0) (p - 1) (by omega) (by omega)⟩
  rw [nI_q640 (a := 640 * c + p0) (by omega), nI_q640 (a := 640 * c + p) (by omega), show (640 * c + p0) / 640 = (640 * c + p) / 640 by omega, nI_clamp (n := 640 * c + p0) (by omega), nI_clamp (n := 640 * c + p) (by omega), h10, h29]
  exact ⟨fun q => absurd q (nI_nn _ (by omega)), fun _ => ⟨fun q => absurd rfl q, fun _ => ⟨vp_in_nI (by omega) (by omega), fun q => absurd rfl q, fun _ => ⟨vp_in_nI (by omega) (by omega), vp_in_nI (by omega) (by omega), fun q => absurd rfl q, fun _ => h1⟩⟩⟩⟩
def FaM (S S' : MST) (f m t i' : Nat) (thr : Prop) : Prop := Fm [15, 16, 18, 22, 39, 40, 41, 47] S S' ∧ S' 18 = upd (S 18) m (S 18 m + 1) ∧ S' 47 0 = S 47 0 + 1 ∧ S' 22 = upd (S 22) (11 * m + t) 1 ∧ S' 40 = upd (S 40) f (-1) ∧ S' 39 = upd (S 39) f (nI i') ∧ S' 41 = upd (S 41) f (S 7 (60 * m + i')) ∧ ((thr ∧ S' 15 = upd (S 15) m 0 ∧ S' 16 = upd (S 16) m 0) ∨ (¬ thr ∧ S' 15 = S 15 ∧ S' 16 = S 16))
theorem mr_fails {S : MST} {f m c p t k i' w : Nat} {Post : MST → Prop} (hf : f < 16) (hm : m < 8) (hc : c < 96) (hp : p < 640) (ht : t < 11) (h38 : S 38 f = nI m) (hk : S 17 m = nI k) (hk1 : 1 ≤ k) (hk12 : k ≤ 12) (hi60 : i' < 60)
    (hcase : (i' = 0 ∧ (S 25 (640 * c + p) = 18 → ∀ q : Nat, q < p → ¬ S 25 (640 * c + q) = 10)) ∨ (i' = w + 1 ∧ S 29 (640 * c + p) = nI w ∧ S 25 (640 * c + p) = 18 ∧ ∃ p0 : Nat, p0 < p ∧ S 25 (640 * c + p0) = 10 ∧ S 29 (640 * c + p0) = S 29 (640 * c + p) ∧ ∀ q : Nat, p0 < q → q < p → S 25 (640 * c + q) = 18 ∧ S 29 (640 * c + q) = S 29 (640 * c + p)))
    (h : ∀ S' : MST, FaM S S' f m t i' (¬ S 15 m = 0 ∧ S 40 f = nI (12 * m + (k - 1))) → Post S') : wp_X12_fails S (nI f) (nI (640 * c + p)) (nI t) Post := by
  have v16 : vp_in (nI f) 16 := vp_in_nI hf (by omega)
  have v8 : vp_in (nI m) 8 := vp_in_nI hm (by omega)
  have hcf : (nI f).toNatClampNeg = f := nI_clamp (by omega)
  have hcm : (nI m).toNatClampNeg = m := nI_clamp (by omega)
  have hcp : (nI (640 * c + p)).toNatClampNeg = 640 * c + p := nI_clamp (by omega)
  have vp : vp_in (nI (640 * c + p)) 61440 := vp_in_nI (by omega) (by omega)
  unfold wp_X12_fails
  rw [hcf, h38, hcm, ix11, nI_clamp (n := 11 * m + t) (by omega), vn_1, vn_0]
  refine ⟨v16, v8, v8, fun S13 e13 S14 e14 => ⟨vp_in_nI (by omega) (by omega), fun S15 e15 => ⟨v8, ?_⟩⟩⟩
  have s15 : ∀ q : Nat, q ≠ 18 → q ≠ 47 → q ≠ 22 → S15 q = S q := fun q a b d => by rw [e15, ms_n _ _ d, e14, ms_n _ _ b, e13, ms_n _ _ a]
  have g18 : S15 18 = upd (S 18) m (S 18 m + 1) := by rw [e15, ms_n _ _ (by decide), e14, ms_n _ _ (by decide), e13, ms_s]
  have g47 : S15 47 0 = S 47 0 + 1 := by rw [e15, ms_n _ _ (by decide), e14, ms_s, e13, ms_n _ _ (by decide)]
  have g22 : S15 22 = upd (S 22) (11 * m + t) 1 := by rw [e15, ms_s, e14, ms_n _ _ (by decide), e13, ms_n _ _ (by decide)]
  have f128 : ∀ (Sx : MST), (∀ q : Nat, q ≠ 15 → q ≠ 16 → Sx q = S15 q) → (((¬ S 15 m = 0 ∧ S 40 f = nI (12 * m + (k - 1))) ∧ Sx 15 = upd (S 15) m 0 ∧ Sx 16 = upd (S 16) m 0) ∨ (¬ (¬ S 15 m = 0 ∧ S 40 f = nI (12 * m + (k - 1))) ∧ Sx 15 = S 15 ∧ Sx 16 = S 16)) → wj_X12_fails_128 Sx (nI f) (nI m) (nI i') Post := fun Sx nx hc' => by
    unfold wj_X12_fails_128
    rw [hcf, ix60, nI_clamp (n := 60 * m + i') (by omega)]
    refine ⟨v16, fun S1 e1 => ⟨v16, fun S2 e2 => ⟨vp_in_nI (by omega) (by omega), v16, fun S4 e4 => ?_⟩⟩⟩
    have n4 : ∀ q : Nat, q ≠ 40 → q ≠ 39 → q ≠ 41 → S4 q = Sx q := fun q a b d => by rw [e4, ms_n _ _ d, e2, ms_n _ _ b, e1, ms_n _ _ a]
    have sx : ∀ q : Nat, q ≠ 15 → q ≠ 16 → q ≠ 18 → q ≠ 47 → q ≠ 22 → Sx q = S q := fun q a b d e g => by rw [nx q a b, s15 q d e g]
    refine h S4 ⟨fun q hq => ?_, ?_, ?_, ?_, ?_, ?_, ?_, ?_⟩
    · simp at hq
      obtain ⟨q1, q2, q3, q4, q5, q6, q7, q8⟩ := hq
      rw [n4 q q6 q5 q7, sx q q1 q2 q3 q8 q4]
    · rw [n4 18 (by decide) (by decide) (by decide), nx 18 (by decide) (by decide)]; exact g18
    · rw [n4 47 (by decide) (by decide) (by decide), nx 47 (by decide) (by decide)]; exact g47
    · rw [n4 22 (by decide) (by decide) (by decide), nx 22 (by decide) (by decide)]; exact g22
    · rw [e4, ms_n _ _ (by decide), e2, ms_n _ _ (by decide), e1, ms_s, sx 40 (by decide) (by decide) (by decide) (by decide) (by decide)]
    · rw [e4, ms_n _ _ (by decide), e2, ms_s, e1, ms_n _ _ (by decide), sx 39 (by decide) (by decide) (by decide) (by decide) (by decide)]
    · rw [e4, ms_s, e2, ms_n _ _ (by decide), ms_n _ _ (by decide), e1, ms_n _ _ (by decide), ms_n _ _ (by decide), sx 41 (by decide) (by decide) (by decide) (by decide) (by decide), sx 7 (by decide) (by decide) (by decide) (by decide) (by decide)]
    · rw [n4 15 (by decide) (by decide) (by decide), n4 16 (by decide) (by decide) (by decide)]; exact hc'
  have f83 : ∀ (Sx : MST), (∀ q : Nat, q ≠ 15 → q ≠ 16 → Sx q = S15 q) → (((¬ S 15 m = 0 ∧ S 40 f = nI (12 * m + (k - 1))) ∧ Sx 15 = upd (S 15) m 0 ∧ Sx 16 = upd (S 16) m 0) ∨ (¬ (¬ S 15 m = 0 ∧ S 40 f = nI (12 * m + (k - 1))) ∧ Sx 15 = S 15 ∧ Sx 16 = S 16)) → wj_X12_fails_83 Sx (nI f) (nI (640 * c + p)) (nI m) Post := fun Sx nx hc' => by
    have x25 : Sx 25 = S 25 := by rw [nx 25 (by decide) (by decide), s15 25 (by decide) (by decide) (by decide)]
    have x29 : Sx 29 = S 29 := by rw [nx 29 (by decide) (by decide), s15 29 (by decide) (by decide) (by decide)]
    have g := f128 Sx nx hc'
    unfold wj_X12_fails_83
    rw [hcp, x25]
    rcases hcase with ⟨i0, hz⟩ | ⟨iw, hw, h18, p0, a1, a2, a3, a4⟩
    · rw [i0] at g
      have z : wj_X12_fails_109 Sx (nI f) (nI (640 * c + p)) (nI m) 0 Post := by
        unfold wj_X12_fails_109
        exact ⟨fun _ => g, fun q => absurd rfl q⟩
      exact ⟨vp, fun _ => z, fun q18 => mr_bc_0 hc hp ⟨fun _ => z, fun q => absurd rfl q⟩ (fun q hq => by rw [x25]; exact hz q18 q hq)⟩
    · rw [iw] at g
      refine ⟨vp, fun q => absurd h18 q, fun _ => mr_bc_1 hc hp a1 ⟨fun q => absurd q (by decide), fun _ => ?_⟩ (by rw [x25]; exact a2) (by rw [x29]; exact a3) (fun q x y => by rw [x25, x29]; exact a4 q x y)⟩
      unfold wj_X12_fails_109
      refine ⟨fun q => absurd q (by decide), fun _ => ⟨vp, ?_⟩⟩
      rw [hcp, x29, hw, nI_1]
      exact g
  have e15 : S15 15 m = S 15 m := by rw [s15 15 (by decide) (by decide) (by decide)]
  have y15 := s15 15 (by decide) (by decide) (by decide)
  have y16 := s15 16 (by decide) (by decide) (by decide)
  refine ⟨fun cz => f83 S15 (fun _ _ _ => rfl) (Or.inr ⟨fun q => q.1 (by rw [← e15]; exact cz), y15, y16⟩), fun nz => ⟨v16, ?_⟩⟩
  rw [e15] at nz
  refine sp_codeNow hm (by rw [s15 17 (by decide) (by decide) (by decide)]; exact hk) hk1 hk12 ?_
  rw [s15 40 (by decide) (by decide) (by decide)]
  refine ⟨fun q => f83 S15 (fun _ _ _ => rfl) (Or.inr ⟨fun w => q w.2, y15, y16⟩), fun q => ⟨v8, fun S21 e21 => ⟨v8, fun S22 e22 => f83 S22 (fun q a b => by rw [e22, ms_n _ _ b, e21, ms_n _ _ a]) (Or.inl ⟨⟨nz, q⟩, ?_, ?_⟩)⟩⟩⟩
  · rw [e22, ms_n _ _ (by decide), e21, ms_s, y15]
  · rw [e22, ms_s, e21, ms_n _ _ (by decide), y16]
