/-! THE CLASS in a run: the small methods, exactly -/
theorem xr_valueOf {S : CST} {f r : Nat} {Post : Int32 → Prop} (hf : f < 16) (hr : r < 2 ^ 31) (h1 : r < 15 → Post (cv S 230 f r)) (h0 : 15 ≤ r → Post 0) : wp_X4_valueOf S f (nI r) Post := by
  unfold wp_X4_valueOf
  rw [nI_clamp (n := r) (by omega)]
  refine ⟨fun c => absurd c (nI_nn r hr), fun _ => ⟨fun c => h0 (Nat.not_lt.mp (fun q => nI_ge (b := 15) q (by omega) c)), fun c => ?_⟩⟩
  have hr15 : r < 15 := Nat.not_le.mp (fun q => c (nI_le (a := 15) q (by omega)))
  exact ⟨cin_22 hf, cin_23 hf, vp_in_nI hr15 (by omega), h1 hr15⟩
theorem xr_val {S : CST} {f r : Nat} {Post : Int32 → Prop} (hf : f < 16) (hr : r < 15) (h1 : Post (cv S 230 f r)) : wp_X4_valueOf S f (nI r) Post := xr_valueOf hf (by omega) (fun _ => h1) (fun q => absurd q (by omega))
theorem xr_put {S : CST} {f r : Nat} {v : Int32} {Post : CST → Prop} (hf : f < 16) (hr : r < 15) (h : Post (cs S 230 f (upd (cv S 230 f) r v))) : wp_X4_put S f (nI r) v Post := by
  unfold wp_X4_put
  rw [nI_clamp (n := r) (by omega)]
  refine ⟨fun c => absurd c (nI_nn r (by omega)), fun _ => ⟨fun c => absurd c (nI_ge (b := 15) hr (by omega)), fun _ => ⟨cin_22 hf, cin_23 hf, vp_in_nI hr (by omega), ?_⟩⟩⟩
  rintro _ rfl
  exact h
theorem xr_fval {S : CST} {q : Nat} {Post : Int32 → Prop} (hq : q < 8) (h : Post (cv S 40 0 q)) : wp_X2_valueOf S (nI q) Post := by
  unfold wp_X2_valueOf
  rw [nI_clamp (n := q) (by omega)]
  exact ⟨fun c => absurd c (nI_nn q (by omega)), fun _ => ⟨fun c => absurd c (nI_ge (b := 8) hq (by omega)), fun _ => ⟨vp_in_nI hq (by omega), h⟩⟩⟩
theorem xr_fput {S : CST} {q : Nat} {v : Int32} {Post : CST → Prop} (hq : q < 8) (h : Post (cs S 40 0 (upd (cv S 40 0) q v))) : wp_X2_put S (nI q) v Post := by
  unfold wp_X2_put
  rw [nI_clamp (n := q) (by omega)]
  refine ⟨fun c => absurd c (nI_nn q (by omega)), fun _ => ⟨fun c => absurd c (nI_ge (b := 8) hq (by omega)), fun _ => ⟨vp_in_nI hq (by omega), ?_⟩⟩⟩
  rintro _ rfl
  exact h
theorem xr_lengthOf {S : CST} {r : Nat} {Post : Int32 → Prop} (hr : r < 4) (h : Post (cv S 50 0 r)) : wp_X2_lengthOf S (nI r) Post := by
  unfold wp_X2_lengthOf
  rw [nI_clamp (n := r) (by omega)]
  exact ⟨fun c => absurd c (nI_nn r (by omega)), fun _ => ⟨fun c => absurd c (nI_ge (b := 4) hr (by omega)), fun _ => ⟨vp_in_nI hr (by omega), h⟩⟩⟩
theorem xr_itemOf {S : CST} {r i n : Nat} {Post : Int32 → Prop} (hr : r < 4) (hn : cv S 50 0 r = nI n) (hn20 : n ≤ 20) (hi : i < n) (h : Post (cv S 60 0 (20 * r + i))) : wp_X2_itemOf S (nI r) (nI i) Post := by
  unfold wp_X2_itemOf
  refine ⟨fun c => absurd c (nI_nn i (by omega)), fun _ => xr_lengthOf hr ?_⟩
  rw [hn, ix20, nI_clamp (n := 20 * r + i) (by omega)]
  exact ⟨fun c => absurd c (nI_ge hi (by omega)), fun _ => ⟨fun c => absurd c (nI_ge (b := 20) (by omega) (by omega)), fun _ => ⟨vp_in_nI (by omega) (by omega), h⟩⟩⟩
theorem xr_putItem {S : CST} {r i n : Nat} {v : Int32} {Post : CST → Prop} (hr : r < 4) (hn : cv S 50 0 r = nI n) (hn20 : n ≤ 20) (hi : i < n) (h : Post (cs S 60 0 (upd (cv S 60 0) (20 * r + i) v))) : wp_X2_putItem S (nI r) (nI i) v Post := by
  unfold wp_X2_putItem
  refine ⟨fun c => absurd c (nI_nn i (by omega)), fun _ => xr_lengthOf hr ?_⟩
  rw [hn, ix20, nI_clamp (n := 20 * r + i) (by omega)]
  refine ⟨fun c => absurd c (nI_ge hi (by omega)), fun _ => ⟨fun c => absurd c (nI_ge (b := 20) (by omega) (by omega)), fun _ => ⟨vp_in_nI (by omega) (by omega), ?_⟩⟩⟩
  rintro _ rfl
  exact h
theorem xr_fill {S0 : CST} {b : Nat} {K Post : CST → Prop} (hb : b ≤ 80) (h : ∀ S' : CST, Ex [60] S0 S' → (∀ t : Nat, t < 80 → cv S' 60 0 t = if b - 20 ≤ t ∧ t < b then 0 else cv S0 60 0 t) → K S') : ∀ (k j : Nat) (S : CST), j + k = b → b ≤ j + 20 → Ex [60] S0 S → (∀ t : Nat, t < 80 → cv S 60 0 t = if b - 20 ≤ t ∧ t < j then 0 else cv S0 60 0 t) → wl_J7_fill_fda19_k6_10 K Post (k + 1) S (nI b) 0 (nI j) := by
  intro k
  induction k with
  | zero =>
    intro j S hj _ hE hz
    unfold wl_J7_fill_fda19_k6_10
    obtain rfl : j = b := by omega
    exact ⟨fun _ => h S hE hz, fun c => absurd (nI_le (Nat.le_refl _) (by omega)) c⟩
  | succ k ih =>
    intro j S hj hb2 hE hz
    unfold wl_J7_fill_fda19_k6_10
    rw [nI_1, nI_clamp (n := j) (by omega)]
    refine ⟨fun c => absurd c (nI_ge (by omega) (by omega)), fun _ => ⟨vp_in_nI (by omega) (by omega), fun S5 e5 => ih (j + 1) S5 (by omega) (by omega) (by rw [e5]; exact Ex.cs (by decide) hE) (fun t ht => ?_)⟩⟩
    rw [e5, cs_s]
    by_cases w : t = j
    · rw [w, upd_s, if_pos (by omega)]
    · rw [upd_n _ _ w, hz t ht]
      by_cases c : b - 20 ≤ t ∧ t < j
      · rw [if_pos c, if_pos (by omega)]
      · rw [if_neg c, if_neg (by omega)]
theorem xr_renew {S : CST} {r : Nat} {v : Int32} {Post : CST → Prop} (hr : r < 4) (h1 : ¬ v < -1) (h2 : ¬ 20 < v) (h : ∀ S' : CST, Ex [50, 60] S S' → cv S' 50 0 = upd (cv S 50 0) r v → (∀ t : Nat, t < 80 → cv S' 60 0 t = if 20 * r ≤ t ∧ t < 20 * r + 20 then 0 else cv S 60 0 t) → Post S') : wp_X2_renew S (nI r) v Post := by
  unfold wp_X2_renew
  rw [nI_clamp (n := r) (by omega)]
  refine ⟨fun c => absurd c (nI_nn r (by omega)), fun _ => ⟨fun c => absurd c (nI_ge (b := 4) hr (by omega)), fun _ => ⟨fun c => absurd c h1, fun _ => ⟨fun c => absurd c h2, fun _ => ⟨vp_in_nI hr (by omega), fun S7 e7 => ?_⟩⟩⟩⟩⟩
  unfold wp_J7_fill_fda19_k6 wp_J7_rangeCheck_23922
  rw [nI_1, show (20 : Int32) * nI r = nI (20 * r) from nI_mul 20 r, show (20 : Int32) * nI (r + 1) = nI (20 * (r + 1)) from nI_mul 20 (r + 1)]
  have go : ∃ n_10, wl_J7_fill_fda19_k6_10 (fun S_27 => Post S_27) Post n_10 S7 (nI (20 * (r + 1))) 0 (nI (20 * r)) := by
    refine ⟨21, xr_fill (S0 := S7) (b := 20 * (r + 1)) (by omega) (fun S' hE hz => h S' (Ex.step hE (by decide) (by rw [e7]; exact Ex.cs (by decide) Ex.rf)) ?_ (fun t ht => ?_)) 20 (20 * r) S7 (by omega) (by omega) Ex.rf (fun t ht => by rw [if_neg (by omega)])⟩
    · rw [hE.2 50 rfl, e7, cs_s]
    · rw [hz t ht, e7, cs_n _ _ (fun w => absurd w.1 (by decide)), show 20 * (r + 1) - 20 = 20 * r by omega, show 20 * (r + 1) = 20 * r + 20 by omega]
  exact ⟨fun _ => ⟨fun _ => ⟨fun _ => go, fun c => absurd (show nI (20 * (r + 1)) ≤ nI 80 from nI_le (by omega) (by omega)) c⟩, fun c => absurd (nI_pos' (by omega)) c⟩, fun c => absurd (nI_le (by omega) (by omega)) c⟩
theorem xr_parts {S : CST} {c N : Nat} {Post : Int32 → Prop} (hc : c < cnC S) (h : cv S 339 c 0 = nI (5 * N)) (hN : N ≤ 1511) (hp : Post (nI N)) : wp_X1_parts S c Post := by
  unfold wp_X1_parts
  rw [h, nI_d5 (by omega), show 5 * N / 5 = N by omega]
  exact ⟨cin_32 rfl hc, cin_33 rfl hc, nI_nn _ (by omega), hp⟩
theorem xr_startOf {S : CST} {c n x : Nat} {Post : Int32 → Prop} (hc : c < cnC S) (h : cv S 349 c 0 = nI n) (hn : n ≤ 60) (hx : x < n) (hp : Post (cv S 340 c x)) : wp_X1_startOf S c (nI x) Post := by
  unfold wp_X1_startOf
  rw [h, nI_clamp (n := x) (by omega), nI_clamp (n := n) (by omega)]
  exact ⟨fun c => absurd c (nI_nn x (by omega)), fun _ => ⟨cin_32 rfl hc, cin_34 rfl hc, nI_nn n (by omega), fun c => absurd c (nI_ge hx (by omega)), fun _ => ⟨cin_32 rfl hc, cin_34 rfl hc, vp_in_nI hx (by omega), hp⟩⟩⟩
theorem xr_stepOn {S : CST} {s : Nat} {Post : CST → Prop} (hs : cv S 201 0 0 = nI s) (hs2 : s ≤ 1500) (h1 : s < 1500 → Post (cs S 201 0 (fun _ => nI (s + 1)))) (h2 : s = 1500 → Post (cs (cs S 201 0 (fun _ => nI (s + 1))) 127 0 (fun _ => 3))) : wp_X7_stepOn S Post := by
  unfold wp_X7_stepOn
  rw [hs, nI_1]
  rintro _ rfl
  rw [cs_s]
  refine ⟨fun c => h1 (Nat.not_le.mp (fun q => nI_ge (b := s + 1) (a := 1500) (by omega) (by omega) c)), fun c => ?_⟩
  rintro _ rfl
  refine h2 ?_
  rcases Nat.lt_or_ge s 1500 with w | w
  · exact absurd (nI_le (a := s + 1) (b := 1500) (by omega) (by omega)) c
  · omega
/-- what is noted of a TRAP -/
def TrC (S S' : CST) (no m i F : Int32) : Prop := Ex [127, 210] S S' ∧ cv S' 127 0 0 = 1 ∧ cv S' 210 0 0 = no ∧ cv S' 210 0 1 = m ∧ cv S' 210 0 2 = i ∧ cv S' 210 0 3 = F
theorem xr_noteTrap {S : CST} {a1 a2 a3 a4 : Int32} {Post : CST → Prop} (h : ∀ S' : CST, Ex [210] S S' → cv S' 210 0 0 = a1 → cv S' 210 0 1 = a2 → cv S' 210 0 2 = a3 → cv S' 210 0 3 = a4 → Post S') : wp_X10_noteTrap S a1 a2 a3 a4 Post := by
  unfold wp_X10_noteTrap
  have c0 : (0 : Int32).toNatClampNeg = 0 := by decide
  have c1 : (1 : Int32).toNatClampNeg = 1 := by decide
  have c2 : (2 : Int32).toNatClampNeg = 2 := by decide
  have c3 : (3 : Int32).toNatClampNeg = 3 := by decide
  rw [c0, c1, c2, c3]
  refine ⟨by unfold vp_in; decide, fun S3 e3 => ⟨by unfold vp_in; decide, fun S6 e6 => ⟨by unfold vp_in; decide, fun S9 e9 => ⟨by unfold vp_in; decide, fun S12 e12 => h S12 ?_ ?_ ?_ ?_ ?_⟩⟩⟩⟩
  · rw [e12, e9, e6, e3]; exact Ex.cs (by decide) (Ex.cs (by decide) (Ex.cs (by decide) (Ex.cs (by decide) Ex.rf)))
  · rw [e12, cs_s, upd_n _ _ (by decide), e9, cs_s, upd_n _ _ (by decide), e6, cs_s, upd_n _ _ (by decide), e3, cs_s, upd_s]
  · rw [e12, cs_s, upd_n _ _ (by decide), e9, cs_s, upd_n _ _ (by decide), e6, cs_s, upd_s]
  · rw [e12, cs_s, upd_n _ _ (by decide), e9, cs_s, upd_s]
  · rw [e12, cs_s, upd_s]
theorem xr_trap {S : CST} {f m : Nat} {no i F : Int32} {Post : CST → Prop} (hf : f < 16) (hm : m < cnP S) (hm8 : m < 8) (h220 : cv S 220 f 0 = nI m) (h240 : cv S 240 m 0 = nI m) (h126 : cv S 126 0 0 = F) (h : ∀ S' : CST, TrC S S' no (nI m) i F → Post S') : wp_X7_endByTrap S f no i Post := by
  unfold wp_X7_endByTrap
  intro S2 e2
  have n2 : ∀ k i : Nat, k ≠ 127 → cv S2 k i = cv S k i := fun k i a => by rw [e2, cs_n _ _ (fun w => a w.1)]
  have hT2 : S2.2 = S.2 := by rw [e2]; rfl
  rw [n2 220 f (by decide), h220, nI_clamp (n := m) (by omega)]
  refine ⟨cin_22 hf, fun c => absurd c (nI_nn m (by omega)), fun _ => ⟨cin_24 hT2 hm, ?_⟩⟩
  rw [n2 240 m (by decide), h240, n2 126 0 (by decide), h126]
  refine xr_noteTrap (fun S' hE a b c d => h S' ⟨Ex.step hE (by decide) (by rw [e2]; exact Ex.cs (by decide) Ex.rf), ?_, a, b, c, d⟩)
  rw [hE.2 127 rfl, e2, cs_s]
theorem xr_latest {S : CST} {f : Nat} {Post : Int32 → Prop} (h : cv S 126 0 0 = nI (f + 1)) (hf : f < 16) (hp : Post (nI f)) : wp_X7_latestFrame S Post := by
  unfold wp_X7_latestFrame
  rw [h, nI_m1 (by omega), show f + 1 - 1 = f by omega]
  refine ⟨fun c => absurd (show nI (f + 1) ≤ nI 0 from c) (nI_ge (by omega) (by omega)), fun _ => ⟨fun c => absurd c (Int32.not_lt.mpr (nI_le (a := f + 1) (b := 16) (by omega) (by omega))), fun _ => ⟨vp_in_nI hf (by omega), hp⟩⟩⟩
theorem xr_latest0 {S : CST} {Post : Int32 → Prop} (h : cv S 126 0 0 = nI 0) (hp : Post (-1)) : wp_X7_latestFrame S Post := by
  unfold wp_X7_latestFrame
  rw [h]
  exact ⟨fun _ => hp, fun c => absurd (show nI 0 ≤ (0 : Int32) by decide) c⟩
/-- to an INSTRUCTION, ahead or not -/
theorem xr_goTo {S : CST} {f c n x i s t : Nat} {Post : CST → Prop} (hf : f < 16) (h221 : cv S 221 f 0 = nI c) (hc : c < cnC S) (hc31 : c < 2 ^ 31) (h349 : cv S 349 c 0 = nI n) (hn : n ≤ 60) (hx : x < n) (hi : i < 60) (h340 : cv S 340 c x = nI t) (hs : cv S 201 0 0 = nI s) (hs2 : s ≤ 1500)
    (h1 : i < x → Post (cs S 222 f (fun _ => nI t))) (h2 : ¬ i < x → s < 1500 → Post (cs (cs S 201 0 (fun _ => nI (s + 1))) 222 f (fun _ => nI t))) (h3 : ¬ i < x → s = 1500 → Post (cs (cs (cs S 201 0 (fun _ => nI (s + 1))) 127 0 (fun _ => 3)) 222 f (fun _ => nI t))) : wp_X7_goTo S f (nI x) (nI i) Post := by
  have hit : nI i < nI x ↔ i < x := ⟨fun q => Nat.not_le.mp (fun w => absurd q (Int32.not_lt.mpr (nI_le w (by omega)))), fun q => Int32.not_le.mp (nI_ge q (by omega))⟩
  have fin : ∀ (S9 : CST), S9.2 = S.2 → (∀ k i : Nat, k ≠ 127 → k ≠ 201 → cv S9 k i = cv S k i) → Post (cs S9 222 f (fun _ => nI t)) → cin S9 22 f ∧ (((cv S9 221 f 0) < 0) → (False)) ∧ ((¬ ((cv S9 221 f 0) < 0)) → (cin S9 32 (((cv S9 221 f 0) : Int32).toNatClampNeg) ∧ (wp_X1_startOf S9 (((cv S9 221 f 0) : Int32).toNatClampNeg) (nI x) (fun r13 => cin S9 22 f ∧ (∀ S15 : CST, S15 = cs S9 222 f (fun _ => r13) → (Post S15)))))) := fun S9 hT n hp => by
    have hc9 : c < cnC S9 := by rw [show cnC S9 = cnC S from congrArg Prod.snd hT]; exact hc
    rw [n 221 f (by decide) (by decide), h221, nI_clamp (n := c) hc31]
    refine ⟨cin_22 hf, fun q => absurd q (nI_nn c hc31), fun _ => ⟨cin_32 rfl hc9, xr_startOf hc9 (by rw [n 349 c (by decide) (by decide)]; exact h349) hn hx ⟨cin_22 hf, ?_⟩⟩⟩
    rw [n 340 c (by decide) (by decide), h340]
    rintro _ rfl
    exact hp
  unfold wp_X7_goTo
  refine ⟨fun q => ?_, fun q => xr_stepOn hs hs2 (fun w => ?_) (fun w => ?_)⟩
  · exact fin S rfl (fun _ _ _ _ => rfl) (h1 (hit.mp q))
  · exact fin _ rfl (fun k i a b => by rw [cs_n _ _ (fun w => b w.1)]) (h2 (fun w2 => q (hit.mpr w2)) w)
  · exact fin _ rfl (fun k i a b => by rw [cs_n _ _ (fun w => a w.1), cs_n _ _ (fun w => b w.1)]) (h3 (fun w2 => q (hit.mpr w2)) w)
