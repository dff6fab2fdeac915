/-! the run: a new CODE is taken; a call begins; a turn; all of it -/
theorem nI_toIntC {M : Nat} (h : M < 2 ^ 31) : (nI M : Int32).toInt = M := by
  have h1 : (nI M).toNatClampNeg = M := nI_clamp h
  have h2 : (nI M).toNatClampNeg = (nI M).toInt.toNat := rfl
  have h3 := nI_pos' (n := M) h
  rw [Int32.le_iff_toInt_le] at h3
  have e0 : (0 : Int32).toInt = 0 := by decide
  omega
theorem GdC_same {S S' : CST} {c t : Nat} (h1 : cv S' 339 c = cv S 339 c) (h2 : cv S' 330 c = cv S 330 c) (h : GdC S' c t) : GdC S c t := by
  unfold GdC at h ⊢
  rw [h1, h2] at h
  exact h
theorem CodO_same {S S' : CST} {c : Nat} (h1 : cv S' 339 c = cv S 339 c) (h2 : cv S' 330 c = cv S 330 c) (h3 : cv S' 349 c = cv S 349 c) (h : CodO S c) : CodO S' c := by
  unfold CodO CodeL at h ⊢
  rw [h1, h2, h3]
  exact h
theorem vid_up {x : Int32} {n : Nat} (h : vid x n) : vid x (n + 1) := h.elim Or.inl (fun q => Or.inr (by omega))
theorem J.take {S S1 S2 : CST} {y C : Nat} (h : J S) (hy : y < cnP S) (hk : MkJ (fun t => cv S 310 y t = 0) S S1 C (cv S 283 y 0 + 1)) (h280 : cv S 280 y 0 = 0) (hc104 : cnC S < 104)
    (e : Ex [280, 281, 283] S1 S2) (o280 : ∀ i : Nat, i ≠ y → cv S2 280 i = cv S1 280 i) (o281 : ∀ i : Nat, i ≠ y → cv S2 281 i = cv S1 281 i) (o283 : ∀ i : Nat, i ≠ y → cv S2 283 i = cv S1 283 i)
    (n280 : cv S2 280 y 0 = 1) (n281 : cv S2 281 y 0 = nI C) (n283 : cv S2 283 y 0 = cv S1 320 C 0) : J S2 := by
  obtain ⟨h1, h2, h3, h4, h5, h6, h7, h8⟩ := h
  obtain ⟨k1, k2, k3, k4, k5, k6⟩ := hk
  have p1 : cnP S2 = cnP S := (congrArg Prod.fst e.1).trans (show S1.2.1 = cnP S by rw [k1])
  have p2 : cnC S2 = cnC S + 1 := (congrArg Prod.snd e.1).trans (show S1.2.2 = cnC S + 1 by rw [k1])
  have lof : ∀ k : Nat, relv k = true → k < 320 → [280, 281, 283].contains k = false → cv S2 k = cv S k := fun k hr hk hn => funext (fun i => by
    rw [e.2 k hn, k3 k i hr (by omega)])
  have hi1 : ∀ k i : Nat, 320 ≤ k → relv k = true → [280, 281, 283].contains k = false → i ≠ cnC S → cv S2 k i = cv S k i := fun k i hk hr hn hi => by
    rw [e.2 k hn, k3 k i hr (by omega)]
  have x280 : ∀ i : Nat, i ≠ y → cv S2 280 i = cv S 280 i := fun i hi => by rw [o280 i hi, k3 280 i rfl (by omega)]
  have x281 : ∀ i : Nat, i ≠ y → cv S2 281 i = cv S 281 i := fun i hi => by rw [o281 i hi, k3 281 i rfl (by omega)]
  have x283 : ∀ i : Nat, i ≠ y → cv S2 283 i = cv S 283 i := fun i hi => by rw [o283 i hi, k3 283 i rfl (by omega)]
  have e20 := lof 20 rfl (by decide) rfl
  have e220 := lof 220 rfl (by decide) rfl
  have e221 := lof 221 rfl (by decide) rfl
  have e249 := lof 249 rfl (by decide) rfl
  have e310 := lof 310 rfl (by decide) rfl
  have e247 := lof 247 rfl (by decide) rfl
  have e248 := lof 248 rfl (by decide) rfl
  have i320 : ∀ i : Nat, i < cnC S → cv S2 320 i = cv S 320 i := fun i hi => hi1 320 i (by decide) rfl rfl (by omega)
  have i330 : ∀ i : Nat, i < cnC S → cv S2 330 i = cv S 330 i := fun i hi => hi1 330 i (by decide) rfl rfl (by omega)
  have i339 : ∀ i : Nat, i < cnC S → cv S2 339 i = cv S 339 i := fun i hi => hi1 339 i (by decide) rfl rfl (by omega)
  have i349 : ∀ i : Nat, i < cnC S → cv S2 349 i = cv S 349 i := fun i hi => hi1 349 i (by decide) rfl rfl (by omega)
  obtain ⟨M, m1, m2, m3, m4, m5, m6⟩ := h6 y hy
  have hMv : M ≤ vC S y := m3 h280
  have hM11 : M ≤ 11 := Nat.le_trans hMv (vC_le S y)
  have y283 : cv S2 283 y 0 = nI (M + 1) := by rw [n283, k5, m1, nI_1]
  have hC31 : C < 2 ^ 31 := by rw [k2]; omega
  have hCn : ¬ (nI C : Int32) < 0 := nI_nn C hC31
  have hCc : (nI C : Int32).toNatClampNeg = C := nI_clamp hC31
  refine ⟨by rw [p1]; exact h1, ?_, ⟨?_, fun i hi => ⟨?_, ?_⟩, fun i hi => ⟨?_, ?_⟩⟩, ?_, ?_, ?_, ?_, ?_⟩
  · rw [p1, lof 11 rfl (by decide) rfl]; exact h2
  · rw [p1, e20]; exact h3.1
  · rw [p1, e220]; exact (h3.2.1 i hi).1
  · rw [p2, e221]; exact vid_up (h3.2.1 i hi).2
  · rw [p2, e249]; exact vid_up (h3.2.2 i (by rw [← p1]; exact hi)).1
  · rw [p2]
    by_cases hiy : i = y
    · rw [hiy, n281]; exact Or.inr (by rw [hCc, k2]; omega)
    · rw [x281 i hiy]; exact vid_up (h3.2.2 i (by rw [← p1]; exact hi)).2
  · rw [p1, e247]; exact h4
  · intro c hc
    rw [p2] at hc
    by_cases hcC : c = cnC S
    · rw [hcC, ← k2]
      exact CodO_same (congrFun (e.2 339 rfl) C) (congrFun (e.2 330 rfl) C) (congrFun (e.2 349 rfl) C) k4
    · exact CodO_same (i339 c (by omega)) (i330 c (by omega)) (i349 c (by omega)) (h5 c (by omega))
  · intro i hi
    rw [p1] at hi
    by_cases hiy : i = y
    · subst hiy
      refine ⟨M + 1, y283, by omega, fun q => absurd (n280.symm.trans q) (by decide), fun _ => ⟨by omega, by rw [n281]; exact hCn, fun t => decide (¬ cv S 310 i t = 0), fun t ht hg => ?_, ?_⟩, fun _ => ?_, fun hp => ?_⟩
      · have hv := of_decide_eq_true hg
        rw [e310, n281, hCc]
        refine ⟨hv, fun q => hv (k6 t ht ?_)⟩
        unfold GdC at q ⊢
        rw [e.2 339 rfl, e.2 330 rfl] at q
        exact q
      · have h9 : vC S i ≤ sN (fun t => if decide (¬ cv S 310 i t = 0) = true then 1 else 0) 11 := sN_le 11 (fun t _ => by
          show (if cv S 310 i t = 0 then 0 else 1) ≤ (if decide (¬ cv S 310 i t = 0) = true then 1 else 0)
          by_cases q : cv S 310 i t = 0
          · rw [if_pos q]; exact Nat.zero_le _
          · rw [if_neg q, if_pos (decide_eq_true q)]; exact Nat.le_refl _)
        show M + 1 ≤ 1 + sN (fun t => if decide (¬ cv S 310 i t = 0) = true then 1 else 0) 11
        omega
      · rw [n281, hCc, e.2 320 rfl, k5, m1, nI_1]
      · rw [e249] at hp ⊢
        rw [i320 _ (vid_lt (h3.2.2 i hy).1 hp)]
        exact m6 hp
    · obtain ⟨N, q1, q2, q3, q4, q5, q6⟩ := h6 i hi
      unfold HeO vC
      rw [x283 i hiy, x280 i hiy, x281 i hiy, e310, e249]
      refine ⟨N, q1, q2, q3, fun a => ?_, fun a => ?_, fun a => ?_⟩
      · obtain ⟨b1, b2, g, b3, b4⟩ := q4 a
        have hid := vid_lt (h3.2.2 i hi).2 b2
        exact ⟨b1, b2, g, fun t ht hg => ⟨(b3 t ht hg).1, fun w => (b3 t ht hg).2 (GdC_same (i339 _ hid) (i330 _ hid) w)⟩, b4⟩
      · rw [i320 _ (vid_lt (h3.2.2 i hi).2 a)]; exact q5 a
      · rw [i320 _ (vid_lt (h3.2.2 i hi).1 a)]; exact q6 a
  · intro f hf
    unfold FrO
    rw [e220, e221]
    intro a b
    have hcd := vid_lt (h3.2.1 f hf).2 b
    have hpr := vid_lt (h3.2.1 f hf).1 a
    rw [i320 _ hcd]
    have q := h7 f hf a b
    by_cases hiy : (cv S 220 f 0).toNatClampNeg = y
    · rw [hiy, y283, nI_toIntC (by omega)]
      rw [hiy, m1, nI_toIntC (by omega)] at q
      rcases q with q | q | q
      · exact Or.inl q
      · exact Or.inr (Or.inl (by omega))
      · right; left
        have hm := m5 (by rw [q]; exact b)
        rw [q] at hm
        rw [hm, nI_toIntC (by omega)]
        omega
    · rw [x283 _ hiy, x281 _ hiy]; exact q
  · rw [p2]
    have : tot S < tot S2 := by
      unfold tot
      rw [p1]
      refine sN_lt (cnP S) (fun i hi => ?_) y hy ?_
      · show Rt S i + (cv S 283 i 0).toNatClampNeg ≤ Rt S2 i + (cv S2 283 i 0).toNatClampNeg
        unfold Rt
        rw [e248]
        by_cases hiy : i = y
        · rw [hiy, y283, m1, nI_clamp (by omega), nI_clamp (by omega)]; omega
        · rw [x283 i hiy]; exact Nat.le_refl _
      · show Rt S y + (cv S 283 y 0).toNatClampNeg < Rt S2 y + (cv S2 283 y 0).toNatClampNeg
        unfold Rt
        rw [e248, y283, m1, nI_clamp (by omega), nI_clamp (by omega)]; omega
    omega
/-- how many codes there may be -/
theorem J.room {S : CST} {y : Nat} (h : J S) (hy : y < cnP S) (hk : Rt S y + (cv S 283 y 0).toNatClampNeg ≤ 12) : cnC S < 104 := by
  obtain ⟨h1, h2, h3, h4, h5, h6, h7, h8⟩ := h
  have b : ∀ i : Nat, i < cnP S → Rt S i + (cv S 283 i 0).toNatClampNeg ≤ 13 := fun i hi => by
    obtain ⟨M, m1, m2, -⟩ := h6 i hi
    have : Rt S i ≤ 1 := by unfold Rt; split <;> omega
    rw [m1, nI_clamp (by omega)]; omega
  have hlt : tot S < sN (fun _ => 13) (cnP S) := sN_lt (cnP S) b y hy (by show _ < 13; omega)
  have hc : sN (fun _ => 13) (cnP S) ≤ cnP S * 13 := sN_const (cnP S) (fun _ _ => Nat.le_refl _)
  omega
theorem sp_X5_take {S : CST} {i i1 : Nat} {T : Nat × Nat} {Post : CST → Prop} (hT : S.2 = T) (hi : i < T.1) (hc : i1 < T.2) (h31 : i1 < 2147483648) (h : ∀ S' : CST, S'.2 = T → Ex [280, 281, 283] S S' → (∀ y : Nat, y ≠ i → cv S' 280 y = cv S 280 y) → (∀ y : Nat, y ≠ i → cv S' 281 y = cv S 281 y) → (∀ y : Nat, y ≠ i → cv S' 283 y = cv S 283 y) → cv S' 280 i 0 = 1 → cv S' 281 i 0 = nI i1 → cv S' 283 i 0 = cv S 320 i1 0 → Post S') : wp_X5_take S i i1 Post := by
  unfold wp_X5_take
  refine ⟨cin_28 hT hi, h31, fun S2 e2 => ⟨cin_28 (T := T) (by rw [e2]; exact hT) hi, fun S5 e5 => ⟨cin_32 (T := T) (by rw [e5, e2]; exact hT) hc, cin_28 (T := T) (by rw [e5, e2]; exact hT) hi, fun S8 e8 => ?_⟩⟩⟩
  have n : ∀ {Z : CST} {k k' y : Nat} {g : Nat → Int32}, k' ≠ k → cv (cs Z k i g) k' y = cv Z k' y := fun hk => cs_n _ _ (fun w => hk w.1)
  have m : ∀ {Z : CST} {k y : Nat} {g : Nat → Int32}, y ≠ i → cv (cs Z k i g) k y = cv Z k y := fun hk => cs_n _ _ (fun w => hk w.2)
  refine h S8 (by rw [e8, e5, e2]; exact hT) (by rw [e8, e5, e2]; exact Ex.cs (by decide) (Ex.cs (by decide) (Ex.cs (by decide) Ex.rf))) (fun y hy => ?_) (fun y hy => ?_) (fun y hy => ?_) ?_ ?_ ?_
  · rw [e8, n (by decide), e5, m hy, e2, n (by decide)]
  · rw [e8, n (by decide), e5, n (by decide), e2, m hy]
  · rw [e8, m hy, e5, n (by decide), e2, n (by decide)]
  · rw [e8, n (by decide), e5, cs_s]
  · rw [e8, n (by decide), e5, n (by decide), e2, cs_s]
  · rw [e8, cs_s, e5, n (by decide), e2, n (by decide)]
/-- numbers grow alone -/
def Gr (S S' : CST) : Prop := cnP S' = cnP S ∧ cnC S ≤ cnC S'
theorem wj_choose {S : CST} {f y : Nat} {T : Nat × Nat} {Post : CST → Prop} (hT : S.2 = T) (hf : f < 16) (hy : y < T.1) (hJ : J S) (hyf : y = (cv S 220 f 0).toNatClampNeg) (hp : ∀ S' : CST, S'.2 = T → J S' → Post S') : wj_X7_choosePath_55 S f y Post := by
  have hyS : y < S.2.1 := by rw [hT]; exact hy
  unfold wj_X7_choosePath_55
  have c28 : ∀ {Z : CST}, Z.2 = T → cin Z 28 y := fun hZ => cin_28 hZ hy
  refine ⟨c28 hT, fun _ => ⟨c28 hT, sp_X5_remember hT hy hf (fun S5 hT5 e5 => hp S5 hT5 (hJ.ex e5 rfl))⟩, fun _ => ⟨c28 hT, fun _ => ⟨cin_22 hf, fun S9 e9 => ?_⟩, fun cl => ⟨cin_22 hf, fun S9 e9 => ?_⟩⟩⟩
  · have hT9 : S9.2 = T := by rw [e9]; exact hT
    have hJ9 : J S9 := by rw [e9]; exact J.code hJ hf (Or.inl (by decide)) (fun c => absurd (by decide) c)
    refine ⟨c28 hT9, c28 hT9, ?_⟩
    rintro _ rfl _ rfl
    exact hp _ hT9 (J_cs (J_cs hJ9 rfl) rfl)
  · have hT9 : S9.2 = T := by rw [e9]; exact hT
    have hJ9 : J S9 := by rw [e9]; exact J.code hJ hf (hJ.pr hyS).2 (fun _ _ => Or.inr (by rw [← hyf]))
    refine ⟨c28 hT9, c28 hT9, ?_⟩
    rintro _ rfl _ rfl
    exact hp _ hT9 (J_cs (J_cs hJ9 rfl) rfl)
theorem sp_X7_choosePath {S : CST} {Post : CST → Prop} (hJ : J S) (hp : ∀ S' : CST, cnP S' = cnP S → J S' → Post S') : wp_X7_choosePath S Post := by
  unfold wp_X7_choosePath
  refine sp_X7_latestFrame (fun r hr => ⟨fun _ => ⟨fun _ => hp S rfl hJ, fun _ => hp S rfl hJ⟩, fun c => ⟨fun _ => hp S rfl hJ, fun _ => ?_⟩⟩)
  obtain ⟨f, hfe⟩ : ∃ z, z = r.toNatClampNeg := ⟨_, rfl⟩
  have hf : f < 16 := by rw [hfe]; exact vid_lt hr c
  rw [← hfe]
  refine ⟨cin_22 hf, fun _ => hp S rfl hJ, fun c220 => ⟨cin_22 hf, fun q => absurd q c220, fun _ => ?_⟩⟩
  obtain ⟨y, hye⟩ : ∃ z, z = (cv S 220 f 0).toNatClampNeg := ⟨_, rfl⟩
  have hy : y < S.2.1 := by rw [hye]; exact vid_lt (hJ.fr hf).1 c220
  rw [← hye]
  refine ⟨cin_24 rfl hy, cin_28 rfl hy, sp_X5_isHot rfl hy (fun r2 h2 => ⟨fun _ => wj_choose rfl hf hy hJ hye (fun S' hT' hJ' => hp S' (show S'.2.1 = cnP S by rw [hT']) hJ'), fun chot => ⟨cin_22 hf, fun q => absurd q c220, fun _ => ?_⟩⟩)⟩
  have h280 := h2 chot
  have hroom : cnC S < 104 := by
    obtain ⟨M, m1, m2, m3, -⟩ := hJ.2.2.2.2.2.1 y hy
    refine hJ.room hy ?_
    have hR : Rt S y ≤ 1 := by unfold Rt; split <;> omega
    have := Nat.le_trans (m3 h280) (vC_le S y)
    rw [m1, nI_clamp (by omega)]
    omega
  refine ⟨cin_28 rfl hy, cin_22 hf, sp_X9_forge rfl hy hJ.2.2.1 (hJ.2.2.2.1 y hy) hroom (fun S48 r48 hm => ?_)⟩
  have hT48 : S48.2 = (cnP S, cnC S + 1) := hm.1
  refine ⟨cin_28 hT48 hy, sp_X5_take hT48 hy (by rw [hm.2.1]; exact Nat.lt_succ_self _) (by rw [hm.2.1]; omega) (fun S50 hT50 e50 o1 o2 o3 n1 n2 n3 => ?_)⟩
  have hJ50 : J S50 := hJ.take hy hm h280 hroom e50 o1 o2 o3 n1 n2 n3
  refine wj_choose hT50 hf hy hJ50 ?_ (fun S' hT' hJ' => hp S' (show S'.2.1 = cnP S by rw [hT']) hJ')
  rw [e50.2 220 rfl, hm.2.2.1 220 f rfl (by omega)]
  exact hye
