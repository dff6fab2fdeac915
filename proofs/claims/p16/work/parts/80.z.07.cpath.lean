/-! THE CLASS: what a call that begins remembers; which way it goes -/
def reCV (S0 : CST) (y t : Nat) (v : Int32) : Int32 := if cv S0 282 y 0 = 0 then v else cv S0 290 y t
def reCL (S0 : CST) (y t : Nat) (v : Int32) : Int32 := if cv S0 282 y 0 = 0 then 1 else if cv S0 290 y t = v then cv S0 300 y t else 0
def ReC (S0 S : CST) (y j : Nat) (g : Nat → Int32) : Prop := Ex [290, 300] S0 S ∧ (∀ z : Nat, z ≠ y → cv S 290 z = cv S0 290 z ∧ cv S 300 z = cv S0 300 z) ∧ (∀ t : Nat, t < j → cv S 290 y t = reCV S0 y t (g t) ∧ cv S 300 y t = reCL S0 y t (g t)) ∧ ∀ t : Nat, j ≤ t → cv S 290 y t = cv S0 290 y t ∧ cv S 300 y t = cv S0 300 y t
theorem xr_rtail {S0 S : CST} {y j : Nat} {v : Int32} {g : Nat → Int32} {L : CST → Prop} (hy : y < cnP S0) (hj : j < 11) (h : ReC S0 S y j g) (hv : g j = v) (hL : ∀ S' : CST, ReC S0 S' y (j + 1) g → L S') :
    ((¬ (((cv S 282 y 0) : Int32) = 0)) → (cin S 28 y ∧ (cin S 29 y ∧ vp_in (nI j) 11 ∧ (((((cv S 290 y j) : Int32) = v) → (L S)) ∧ ((¬ (((cv S 290 y j) : Int32) = v)) → (cin S 28 y ∧ (cin S 30 y ∧ vp_in (nI j) 11 ∧ (∀ S15 : CST, S15 = cs S 300 y (upd (cv S 300 y) j 0) → (L S15))))))))) ∧ ((((cv S 282 y 0) : Int32) = 0) → (cin S 28 y ∧ (cin S 29 y ∧ vp_in (nI j) 11 ∧ (∀ S18 : CST, S18 = cs S 290 y (upd (cv S 290 y) j v) → (cin S18 28 y ∧ (cin S18 30 y ∧ vp_in (nI j) 11 ∧ (∀ S21 : CST, S21 = cs S18 300 y (upd (cv S18 300 y) j 1) → (L S21)))))))) := by
  obtain ⟨hE, hz, hd, ht⟩ := id h
  have hyS : y < S.2.1 := by rw [show S.2.1 = S0.2.1 from congrArg Prod.fst hE.1]; exact hy
  have v11 : vp_in (nI j) 11 := vp_in_nI hj (by omega)
  have e282 : cv S 282 y 0 = cv S0 282 y 0 := by rw [hE.2 282 rfl]
  obtain ⟨o1, o2⟩ := ht j (Nat.le_refl _)
  have c28 : cin S 28 y := cin_28 rfl hyS
  refine ⟨fun cn => ⟨c28, cin_29 rfl hyS, v11, fun ce => hL S ⟨hE, hz, fun t htj => ?_, fun t htj => ht t (by omega)⟩, fun ce => ⟨c28, cin_30 rfl hyS, v11, fun S15 e15 => hL S15 ⟨by rw [e15]; exact Ex.cs (by decide) hE, fun z hzy => ?_, fun t htj => ?_, fun t htj => ?_⟩⟩⟩, fun cz => ⟨c28, cin_29 rfl hyS, v11, fun S18 e18 => ⟨cin_28 (show S18.2 = S.2 by rw [e18]; rfl) hyS, cin_30 (show S18.2 = S.2 by rw [e18]; rfl) hyS, v11, fun S21 e21 => hL S21 ⟨by rw [e21, e18]; exact Ex.cs (by decide) (Ex.cs (by decide) hE), fun z hzy => ?_, fun t htj => ?_, fun t htj => ?_⟩⟩⟩⟩
  · by_cases w : t = j
    · rw [w]
      unfold reCV reCL
      rw [if_neg (by rw [← e282]; exact cn), if_neg (by rw [← e282]; exact cn), hv, if_pos (by rw [← o1]; exact ce)]
      exact ⟨o1, o2⟩
    · exact hd t (by omega)
  · rw [e15, cs_n _ _ (fun w => absurd w.1 (by decide)), cs_i hzy]; exact hz z hzy
  · rw [e15, cs_n _ _ (fun w => absurd w.1 (by decide)), cs_s]
    by_cases w : t = j
    · rw [w, upd_s]
      unfold reCV reCL
      rw [if_neg (by rw [← e282]; exact cn), if_neg (by rw [← e282]; exact cn), hv, if_neg (by rw [← o1]; exact ce)]
      exact ⟨o1, rfl⟩
    · rw [upd_n _ _ w]; exact hd t (by omega)
  · rw [e15, cs_n _ _ (fun w => absurd w.1 (by decide)), cs_s, upd_n _ _ (by omega)]; exact ht t (by omega)
  · rw [e21, cs_n _ _ (fun w => absurd w.1 (by decide)), cs_i hzy, e18, cs_i hzy, cs_n _ _ (fun w => absurd w.1 (by decide))]; exact hz z hzy
  · have z : cv S0 282 y 0 = 0 := by rw [← e282]; exact cz
    rw [e21, cs_n _ _ (fun w => absurd w.1 (by decide)), cs_s, e18, cs_s, cs_n _ _ (fun w => absurd w.1 (by decide))]
    by_cases w : t = j
    · rw [w, upd_s, upd_s]
      unfold reCV reCL
      rw [if_pos z, if_pos z]
      exact ⟨hv.symm, rfl⟩
    · rw [upd_n _ _ w, upd_n _ _ w]; exact hd t (by omega)
  · rw [e21, cs_n _ _ (fun w => absurd w.1 (by decide)), cs_s, e18, cs_s, cs_n _ _ (fun w => absurd w.1 (by decide)), upd_n _ _ (by omega), upd_n _ _ (by omega)]; exact ht t (by omega)
theorem xr_rem_2 {S0 : CST} {y f : Nat} {g : Nat → Int32} {K : CST → Nat → Prop} {Post : CST → Prop} (hy : y < cnP S0) (hf : f < 16) (hg1 : ∀ t : Nat, t < 3 → g t = cv S0 230 f t) (hg3 : ∀ t : Nat, 3 ≤ t → t < 11 → g t = cv S0 40 0 (t - 3)) (h : ∀ S' : CST, ReC S0 S' y 11 g → K S' y) : ∀ (k j : Nat) (S : CST), j + k = 11 → ReC S0 S y j g → wl_X5_remember_2 K Post (k + 1) S y f (nI j) := by
  intro k
  induction k with
  | zero =>
    intro j S hj hR
    unfold wl_X5_remember_2
    obtain rfl : j = 11 := by omega
    exact ⟨fun _ => h S hR, fun q => absurd (show (11 : Int32) ≤ nI 11 by decide) q⟩
  | succ k ih =>
    intro j S hj hR
    have hj11 : j < 11 := by omega
    have hyS : y < S.2.1 := by rw [show S.2.1 = S0.2.1 from congrArg Prod.fst hR.1.1]; exact hy
    have hL : ∀ S' : CST, ReC S0 S' y (j + 1) g → wl_X5_remember_2 K Post (k + 1) S' y f (nI (j + 1)) := fun S' hR' => ih (j + 1) S' (by omega) hR'
    unfold wl_X5_remember_2
    rw [nI_1, nI_clamp (n := j) (by omega), vn_1, vn_0]
    refine ⟨fun q => absurd q (nI_ge (b := 11) hj11 (by omega)), fun _ => ⟨fun q3 => ?_, fun q3 => ⟨cin_22 hf, ?_⟩⟩⟩
    · have j3 : 3 ≤ j := Nat.not_lt.mp (fun q => nI_ge (b := 3) q (by omega) q3)
      rw [show nI j - 3 = nI (j - 3) from nI_sub (b := 3) j3]
      exact xr_fval (by omega) ⟨cin_28 rfl hyS, xr_rtail hy hj11 hR (by rw [hg3 j j3 hj11, hR.1.2 40 rfl]) hL⟩
    · have j3 : j < 3 := Nat.not_le.mp (fun q => q3 (nI_le (a := 3) q (by omega)))
      exact xr_val hf (by omega) ⟨cin_28 rfl hyS, xr_rtail hy hj11 hR (by rw [hg1 j j3, hR.1.2 230 rfl]) hL⟩
theorem xr_remember {S : CST} {y f : Nat} {g : Nat → Int32} {Post : CST → Prop} (hy : y < cnP S) (hf : f < 16) (hg1 : ∀ t : Nat, t < 3 → g t = cv S 230 f t) (hg3 : ∀ t : Nat, 3 ≤ t → t < 11 → g t = cv S 40 0 (t - 3)) (h : ∀ S' S1 : CST, ReC S S1 y 11 g → S' = cs S1 282 y (fun _ => cv S 282 y 0 + 1) → Post S') : wp_X5_remember S y f Post := by
  unfold wp_X5_remember
  refine ⟨12, xr_rem_2 hy hf hg1 hg3 (fun S1 hR => ?_) 11 0 S (by omega) ⟨Ex.rf, fun _ _ => ⟨rfl, rfl⟩, fun t ht => absurd ht (by omega), fun _ _ => ⟨rfl, rfl⟩⟩⟩
  have hyS : y < S1.2.1 := by rw [show S1.2.1 = S.2.1 from congrArg Prod.fst hR.1.1]; exact hy
  refine ⟨cin_28 rfl hyS, cin_28 rfl hyS, fun S3 e3 => h S3 S1 hR ?_⟩
  rw [hR.1.2 282 rfl] at e3
  exact e3
/-- a call that runs the CODE -/
def RuC (S S' : CST) (F y c : Nat) : Prop := Ex [203, 221, 285] S S' ∧ cv S' 221 F 0 = nI c ∧ (∀ g : Nat, g ≠ F → cv S' 221 g = cv S 221 g) ∧ cv S' 285 y 0 = cv S 285 y 0 + 1 ∧ (∀ z : Nat, z ≠ y → cv S' 285 z = cv S 285 z) ∧ cv S' 203 0 0 = cv S 203 0 0 + 1
theorem xr_path_code {S : CST} {F y c : Nat} {Post : CST → Prop} (hy : y < cnP S) (hF : F < 16) (h280 : ¬ cv S 280 y 0 = 0) (h281 : cv S 281 y 0 = nI c) (hc31 : c < 2 ^ 31) (h : ∀ S' : CST, RuC S S' F y c → Post S') : wj_X7_choosePath_55 S F y Post := by
  unfold wj_X7_choosePath_55
  rw [h281]
  refine ⟨cin_28 rfl hy, fun q => absurd q h280, fun _ => ⟨cin_28 rfl hy, fun q => absurd q (nI_nn c hc31), fun _ => ⟨cin_22 hF, fun S18 e18 => ⟨cin_28 (show S18.2 = S.2 by rw [e18]; rfl) hy, cin_28 (show S18.2 = S.2 by rw [e18]; rfl) hy, fun S21 e21 S25 e25 => h S25 ⟨?_, ?_, fun g hg => ?_, ?_, fun z hz => ?_, ?_⟩⟩⟩⟩⟩
  · rw [e25, e21, e18]; exact Ex.cs (by decide) (Ex.cs (by decide) (Ex.cs (by decide) Ex.rf))
  · rw [e25, cs_n _ _ (fun w => absurd w.1 (by decide)), e21, cs_n _ _ (fun w => absurd w.1 (by decide)), e18, cs_s]
  · rw [e25, cs_n _ _ (fun w => absurd w.1 (by decide)), e21, cs_n _ _ (fun w => absurd w.1 (by decide)), e18, cs_i hg]
  · rw [e25, cs_n _ _ (fun w => absurd w.1 (by decide)), e21, cs_s, e18, cs_n _ _ (fun w => absurd w.1 (by decide))]
  · rw [e25, cs_n _ _ (fun w => absurd w.1 (by decide)), e21, cs_i hz, e18, cs_n _ _ (fun w => absurd w.1 (by decide))]
  · rw [e25, cs_s, e21, cs_n _ _ (fun w => absurd w.1 (by decide)), e18, cs_n _ _ (fun w => absurd w.1 (by decide))]
/-- the CODE is taken -/
def TaC (S S' : CST) (y c : Nat) : Prop := Ex [280, 281, 283] S S' ∧ (∀ z : Nat, z ≠ y → cv S' 280 z = cv S 280 z ∧ cv S' 281 z = cv S 281 z ∧ cv S' 283 z = cv S 283 z) ∧ cv S' 280 y 0 = 1 ∧ cv S' 281 y 0 = nI c ∧ cv S' 283 y 0 = cv S 320 c 0
theorem xr_take {S : CST} {y c : Nat} {Post : CST → Prop} (hy : y < cnP S) (hc : c < cnC S) (h31 : c < 2 ^ 31) (h : ∀ S' : CST, TaC S S' y c → Post S') : wp_X5_take S y c Post :=
  sp_X5_take rfl hy hc h31 (fun S' _ e a b d f g i => h S' ⟨e, fun z hz => ⟨a z hz, b z hz, d z hz⟩, f, g, i⟩)
theorem xr_choosePath {S : CST} {F y cnt : Nat} {Post : CST → Prop} (hy : y < cnP S) (hy8 : y < 8) (h126 : cv S 126 0 0 = nI (F + 1)) (hF : F < 16) (h127 : cv S 127 0 0 = 4) (h220 : cv S 220 F 0 = nI y) (h282 : cv S 282 y 0 = nI cnt) (hcnt : cnt ≤ 3)
    (h : ¬ cv S 280 y 0 = 0 ∨ cnt < 3 → wj_X7_choosePath_55 S F y Post) (hm : cv S 280 y 0 = 0 → cnt = 3 → wp_X9_forge S y (fun S48 r48 => cin S48 28 y ∧ (wp_X5_take S48 y r48 (fun S50 => wj_X7_choosePath_55 S50 F y Post)))) : wp_X7_choosePath S Post := by
  unfold wp_X7_choosePath
  refine xr_latest h126 hF ⟨fun q => absurd q (nI_nn F (by omega)), fun _ => ⟨fun q => absurd h127 q, fun _ => ?_⟩⟩
  rw [nI_clamp (n := F) (by omega), h220, nI_clamp (n := y) (by omega)]
  have n0 : ¬ nI y < 0 := nI_nn y (by omega)
  have c22 : cin S 22 F := cin_22 hF
  have c28 : cin S 28 y := cin_28 rfl hy
  have a0 : ∀ r : Int32, r = 0 → (¬ cv S 280 y 0 = 0 ∨ cnt < 3) → ((((r : Int32) = 0) → (wj_X7_choosePath_55 S F y Post)) ∧ ((¬ ((r : Int32) = 0)) → (cin S 22 F ∧ (((nI y) < 0) → (False)) ∧ ((¬ ((nI y) < 0)) → (cin S 28 y ∧ cin S 22 F ∧ (wp_X9_forge S y (fun S48 r48 => cin S48 28 y ∧ (wp_X5_take S48 y r48 (fun S50 => wj_X7_choosePath_55 S50 F y Post))))))))) := fun r hr q => ⟨fun _ => h q, fun w => absurd hr w⟩
  refine ⟨c22, fun q => absurd q n0, fun _ => ⟨c22, fun q => absurd q n0, fun _ => ⟨cin_24 rfl hy, c28, ?_⟩⟩⟩
  unfold wp_X5_isHot
  rw [h282]
  refine ⟨c28, fun q => a0 0 rfl (Or.inl q), fun q => ⟨c28, fun q3 => a0 0 rfl (Or.inr (Nat.not_le.mp (fun w => absurd q3 (Int32.not_lt.mpr (nI_le (a := 3) w (by omega)))))), fun q3 => ⟨fun w => absurd w (by decide), fun _ => ⟨c22, fun w => absurd w n0, fun _ => ⟨c28, c22, hm q ?_⟩⟩⟩⟩⟩
  have : ¬ cnt < 3 := fun w => q3 (Int32.not_le.mp (nI_ge (b := 3) w (by omega)))
  omega
