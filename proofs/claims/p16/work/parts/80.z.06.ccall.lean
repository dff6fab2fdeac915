/-! THE CLASS: a call begins -/
theorem xr_call_32 {S0 : CST} {f reg : Nat} {K Post : CST → Prop} (hf : f < 16) (hr : reg < 15) (h : ∀ S' : CST, Ex [140] S0 S' → (∀ k : Nat, k < 3 → cv S' 140 0 k = if reg + k < 15 then cv S0 230 f (reg + k) else 0) → K S') : ∀ (k j : Nat) (S : CST), j + k = 3 → Ex [140] S0 S → (∀ t : Nat, t < j → cv S 140 0 t = if reg + t < 15 then cv S0 230 f (reg + t) else 0) → wl_X7_call_32 K Post (k + 1) S f (nI reg) (nI j) := by
  intro k
  induction k with
  | zero =>
    intro j S hj hE hz
    unfold wl_X7_call_32
    obtain rfl : j = 3 := by omega
    exact ⟨fun _ => h S hE hz, fun q => absurd (show (3 : Int32) ≤ nI 3 by decide) q⟩
  | succ k ih =>
    intro j S hj hE hz
    unfold wl_X7_call_32
    rw [nI_1, nI_add, nI_clamp (n := j) (by omega)]
    have go : ∀ v : Int32, v = (if reg + j < 15 then cv S0 230 f (reg + j) else 0) → vp_in (nI j) 3 ∧ ∀ S12 : CST, S12 = cs S 140 0 (upd (cv S 140 0) j v) → wl_X7_call_32 K Post (k + 1) S12 f (nI reg) (nI (j + 1)) := fun v hv => ⟨vp_in_nI (by omega) (by omega), fun S12 e12 => ih (j + 1) S12 (by omega) (by rw [e12]; exact Ex.cs (by decide) hE) (fun t ht => by
      rw [e12, cs_s]
      by_cases w : t = j
      · rw [w, upd_s, hv]
      · rw [upd_n _ _ w]; exact hz t (by omega))⟩
    refine ⟨fun q => absurd q (nI_ge (b := 3) (by omega) (by omega)), fun _ => ⟨cin_22 hf, xr_valueOf hf (by omega) (fun q => go _ ?_) (fun q => go _ ?_)⟩⟩
    · rw [if_pos q, hE.2 230 rfl]
    · rw [if_neg (by omega)]
theorem xr_call {S : CST} {f reg F y : Nat} {i : Int32} {Post : CST → Prop} (hf : f < 16) (hr : reg < 15) (h126 : cv S 126 0 0 = nI F) (hF : F < 16) (h : ∀ S' : CST, Ex [128, 129, 140] S S' → cv S' 128 0 0 = nI y → cv S' 129 0 0 = nI reg → (∀ k : Nat, k < 3 → cv S' 140 0 k = if reg + k < 15 then cv S 230 f (reg + k) else 0) → Post S') : wp_X7_call S f (nI y) (nI reg) i Post := by
  unfold wp_X7_call
  rw [h126]
  refine ⟨fun _ S4 e4 S6 e6 => ⟨4, xr_call_32 (S0 := S6) hf hr (fun S' hE hz => h S' ?_ ?_ ?_ (fun k hk => ?_)) 3 0 S6 (by omega) Ex.rf (fun t ht => absurd ht (by omega))⟩, fun q => absurd (Int32.not_le.mp (nI_ge (b := 16) hF (by omega))) q⟩
  · exact Ex.step hE (by decide) (by rw [e6, e4]; exact Ex.cs (by decide) (Ex.cs (by decide) Ex.rf))
  · rw [hE.2 128 rfl, e6, cs_n _ _ (fun w => absurd w.1 (by decide)), e4, cs_s]
  · rw [hE.2 129 rfl, e6, cs_s]
  · rw [hz k hk, e6, cs_n _ _ (fun w => absurd w.1 (by decide)), e4, cs_n _ _ (fun w => absurd w.1 (by decide))]
theorem xr_fill23 {S0 : CST} {f : Nat} {K Post : CST → Prop} (hf : f < 16) (h : ∀ S' : CST, Ex [230] S0 S' → (∀ g : Nat, g ≠ f → cv S' 230 g = cv S0 230 g) → (∀ t : Nat, t < 15 → cv S' 230 f t = 0) → K S') : ∀ (k j : Nat) (S : CST), j + k = 15 → Ex [230] S0 S → (∀ g : Nat, g ≠ f → cv S 230 g = cv S0 230 g) → (∀ t : Nat, t < j → cv S 230 f t = 0) → wl_J7_fill_53178_k23_5 K Post (k + 1) S f 0 (nI j) 15 := by
  intro k
  induction k with
  | zero =>
    intro j S hj hE ho hz
    unfold wl_J7_fill_53178_k23_5
    obtain rfl : j = 15 := by omega
    exact ⟨fun _ => h S hE ho hz, fun q => absurd (show (15 : Int32) ≤ nI 15 by decide) q⟩
  | succ k ih =>
    intro j S hj hE ho hz
    unfold wl_J7_fill_53178_k23_5
    rw [nI_1, nI_clamp (n := j) (by omega)]
    refine ⟨fun q => absurd q (nI_ge (b := 15) (by omega) (by omega)), fun _ => ⟨cin_23 hf, vp_in_nI (by omega) (by omega), fun S4 e4 => ih (j + 1) S4 (by omega) (by rw [e4]; exact Ex.cs (by decide) hE) (fun g hg => by rw [e4, cs_i hg]; exact ho g hg) (fun t ht => ?_)⟩⟩
    rw [e4, cs_s]
    by_cases w : t = j
    · rw [w, upd_s]
    · rw [upd_n _ _ w]; exact hz t (by omega)
theorem xr_begin_121 {S0 : CST} {y F ax : Nat} {K Post : CST → Prop} (hy : y < cnP S0) (hax : cv S0 241 y 0 = nI ax) (hax3 : ax ≤ 3) (hF : F < 16) (h : ∀ S' : CST, Ex [230] S0 S' → (∀ g : Nat, g ≠ F → cv S' 230 g = cv S0 230 g) → (∀ t : Nat, t < 15 → cv S' 230 F t = if t < ax then cv S0 140 0 t else 0) → K S') : ∀ (k j : Nat) (S : CST), j + k = ax → Ex [230] S0 S → (∀ g : Nat, g ≠ F → cv S 230 g = cv S0 230 g) → (∀ t : Nat, t < 15 → cv S 230 F t = if t < j then cv S0 140 0 t else 0) → wl_X7_begin_121 K Post (k + 1) S y F (nI j) := by
  intro k
  induction k with
  | zero =>
    intro j S hj hE ho hz
    unfold wl_X7_begin_121
    obtain rfl : j = ax := by omega
    rw [hE.2 241 rfl, hax]
    exact ⟨cin_24 rfl (show y < cnP S by rw [show cnP S = cnP S0 from congrArg Prod.fst hE.1]; exact hy), fun _ => h S hE ho hz, fun q => absurd (nI_le (Nat.le_refl _) (by omega)) q⟩
  | succ k ih =>
    intro j S hj hE ho hz
    unfold wl_X7_begin_121
    rw [hE.2 241 rfl, hax, nI_1, nI_clamp (n := j) (by omega), hE.2 140 rfl]
    refine ⟨cin_24 rfl (show y < cnP S by rw [show cnP S = cnP S0 from congrArg Prod.fst hE.1]; exact hy), fun q => absurd q (nI_ge (by omega) (by omega)), fun _ => ⟨fun q => absurd q (nI_ge (b := 3) (by omega) (by omega)), fun _ => ⟨vp_in_nI (by omega) (by omega), cin_22 hF, xr_put hF (by omega) (ih (j + 1) _ (by omega) (Ex.cs (by decide) hE) (fun g hg => by rw [cs_i hg]; exact ho g hg) (fun t ht => ?_))⟩⟩⟩
    rw [cs_s]
    by_cases w : t = j
    · rw [w, upd_s, if_pos (by omega)]
    · rw [upd_n _ _ w, hz t ht]
      by_cases c : t < j
      · rw [if_pos c, if_pos (by omega)]
      · rw [if_neg c, if_neg (by omega)]
/-- a call has begun -/
def BeC (S S' : CST) (F y ax : Nat) (c s : Nat) : Prop := Ex [126, 128, 201, 202, 220, 221, 222, 223, 230] S S' ∧ cv S' 126 0 0 = nI (F + 1) ∧ cv S' 128 0 0 = -1 ∧ cv S' 201 0 0 = nI (s + 1) ∧ cv S' 202 0 0 = cv S 202 0 0 + 1 ∧ (∀ g : Nat, g ≠ F → cv S' 220 g = cv S 220 g ∧ cv S' 221 g = cv S 221 g ∧ cv S' 222 g = cv S 222 g ∧ cv S' 223 g = cv S 223 g ∧ cv S' 230 g = cv S 230 g) ∧ cv S' 220 F 0 = nI y ∧ cv S' 221 F 0 = nI c ∧ cv S' 222 F 0 = 0 ∧ cv S' 223 F 0 = cv S 129 0 0 ∧ ∀ t : Nat, t < 15 → cv S' 230 F t = if t < ax then cv S 140 0 t else 0
theorem xr_begin {S : CST} {F y ax c s : Nat} {Post : CST → Prop} (hB : BK S) (hy : y < cnP S) (h128 : cv S 128 0 0 = nI y) (h126 : cv S 126 0 0 = nI F) (hF : F < 16) (h127 : cv S 127 0 0 = 4) (hax : cv S 241 y 0 = nI ax) (hax3 : ax ≤ 3) (h249 : cv S 249 y 0 = nI c) (hc31 : c < 2 ^ 31) (hs : cv S 201 0 0 = nI s) (hs2 : s ≤ 1500)
    (hsp : ∀ S' : CST, s = 1500 → Ex [127, 128, 201] S S' → cv S' 127 0 0 = 3 → Post S') (h : ∀ S' : CST, s < 1500 → BeC S S' F y ax c s → Post S') : wp_X7_begin S Post := by
  have hM8 := hB.1
  unfold wp_X7_begin
  rw [h128]
  refine xp_X0_at hB (fun y' hy' e => ?_) (fun q => absurd rfl (q y hy))
  obtain rfl : y' = y := nI_inj e.symm (by omega) (by omega)
  refine ⟨fun q => absurd q (nI_nn y' (by omega)), fun _ S29 e29 => ?_⟩
  have n29 : ∀ k i : Nat, k ≠ 128 → cv S29 k i = cv S k i := fun k i a => by rw [e29, cs_n _ _ (fun w => a w.1)]
  refine xr_stepOn (s := s) (by rw [n29 201 0 (by decide)]; exact hs) hs2 (fun w => ?_) (fun w => ?_)
  · obtain ⟨S31, e31⟩ : ∃ z, z = cs S29 201 0 (fun _ => nI (s + 1)) := ⟨_, rfl⟩
    rw [← e31]
    have n31 : ∀ k i : Nat, k ≠ 128 → k ≠ 201 → cv S31 k i = cv S k i := fun k i a b => by rw [e31, cs_n _ _ (fun w => b w.1), n29 k i a]
    have hT31 : S31.2 = S.2 := by rw [e31, e29]; rfl
    rw [n31 127 0 (by decide) (by decide), h127, n31 126 0 (by decide) (by decide), h126, nI_clamp (n := F) (by omega), nI_clamp (n := y') (by omega), nI_1]
    refine ⟨fun _ => ⟨fun q => absurd q (nI_nn F (by omega)), fun _ => ⟨fun _ => ⟨vp_in_nI hF (by omega), fun S45 e45 S49 e49 => ⟨cin_22 hF, fun S51 e51 => ?_⟩⟩, fun q => absurd (Int32.not_le.mp (nI_ge (b := 16) hF (by omega))) q⟩⟩, fun q => absurd rfl q⟩
    have n51 : ∀ k i : Nat, k ≠ 128 → k ≠ 201 → k ≠ 126 → k ≠ 202 → k ≠ 220 → cv S51 k i = cv S k i := fun k i a b c d e => by rw [e51, cs_n _ _ (fun w => e w.1), e49, cs_n _ _ (fun w => d w.1), e45, cs_n _ _ (fun w => c w.1), n31 k i a b]
    have hT51 : S51.2 = S.2 := by rw [e51, e49, e45]; exact hT31
    rw [n51 249 y' (by decide) (by decide) (by decide) (by decide) (by decide), h249]
    refine ⟨cin_24 hT51 hy, fun q => absurd q (nI_nn c hc31), fun _ => ⟨cin_22 hF, fun S57 e57 => ?_⟩⟩
    unfold wj_X7_begin_102
    refine ⟨cin_22 hF, fun S2 e2 => ⟨cin_22 hF, fun S5 e5 => ⟨cin_22 hF, ?_⟩⟩⟩
    have n5 : ∀ k i : Nat, k ≠ 128 → k ≠ 201 → k ≠ 126 → k ≠ 202 → k ≠ 220 → k ≠ 221 → k ≠ 222 → k ≠ 223 → cv S5 k i = cv S k i := fun k i a1 a2 a3 a4 a5 a6 a7 a8 => by rw [e5, cs_n _ _ (fun w => a8 w.1), e2, cs_n _ _ (fun w => a7 w.1), e57, cs_n _ _ (fun w => a6 w.1), n51 k i a1 a2 a3 a4 a5]
    have hE5 : Ex [126, 128, 201, 202, 220, 221, 222, 223, 230] S S5 := by rw [e5, e2, e57, e51, e49, e45, e31, e29]; exact Ex.cs (by decide) (Ex.cs (by decide) (Ex.cs (by decide) (Ex.cs (by decide) (Ex.cs (by decide) (Ex.cs (by decide) (Ex.cs (by decide) (Ex.cs (by decide) Ex.rf)))))))
    unfold wp_X4_clear
    refine ⟨cin_22 hF, ?_⟩
    unfold wp_J7_fill_53178_k23
    refine ⟨cin_23 hF, 16, xr_fill23 (S0 := S5) hF (fun S7 hE7 ho7 hz7 => ?_) 15 0 S5 (by omega) Ex.rf (fun _ _ => rfl) (fun t ht => absurd ht (by omega))⟩
    have hE7' := Ex.step hE7 (by decide) hE5
    refine ⟨ax + 1, xr_begin_121 (S0 := S7) (show y' < cnP S7 by rw [show cnP S7 = cnP S from congrArg Prod.fst hE7'.1]; exact hy) (by rw [hE7'.2 241 rfl]; exact hax) hax3 hF (fun S' hE' ho' hz' => h S' w ?_) ax 0 S7 (by omega) Ex.rf (fun _ _ => rfl) (fun t ht => by rw [if_neg (by omega)]; exact hz7 t ht)⟩
    have hEE := Ex.step hE' (by decide) hE7'
    have t : ∀ k i : Nat, k ≠ 230 → cv S' k i = cv S5 k i := fun k i a => by
      rw [hE'.2 k (by simp; exact a), hE7.2 k (by simp; exact a)]
    refine ⟨hEE, ?_, ?_, ?_, ?_, fun g hg => ⟨?_, ?_, ?_, ?_, ?_⟩, ?_, ?_, ?_, ?_, fun t' ht => ?_⟩
    · rw [t 126 0 (by decide), e5, cs_n _ _ (fun w => absurd w.1 (by decide)), e2, cs_n _ _ (fun w => absurd w.1 (by decide)), e57, cs_n _ _ (fun w => absurd w.1 (by decide)), e51, cs_n _ _ (fun w => absurd w.1 (by decide)), e49, cs_n _ _ (fun w => absurd w.1 (by decide)), e45, cs_s]
    · rw [t 128 0 (by decide), e5, cs_n _ _ (fun w => absurd w.1 (by decide)), e2, cs_n _ _ (fun w => absurd w.1 (by decide)), e57, cs_n _ _ (fun w => absurd w.1 (by decide)), e51, cs_n _ _ (fun w => absurd w.1 (by decide)), e49, cs_n _ _ (fun w => absurd w.1 (by decide)), e45, cs_n _ _ (fun w => absurd w.1 (by decide)), e31, cs_n _ _ (fun w => absurd w.1 (by decide)), e29, cs_s]
    · rw [t 201 0 (by decide), e5, cs_n _ _ (fun w => absurd w.1 (by decide)), e2, cs_n _ _ (fun w => absurd w.1 (by decide)), e57, cs_n _ _ (fun w => absurd w.1 (by decide)), e51, cs_n _ _ (fun w => absurd w.1 (by decide)), e49, cs_n _ _ (fun w => absurd w.1 (by decide)), e45, cs_n _ _ (fun w => absurd w.1 (by decide)), e31, cs_s]
    · rw [t 202 0 (by decide), e5, cs_n _ _ (fun w => absurd w.1 (by decide)), e2, cs_n _ _ (fun w => absurd w.1 (by decide)), e57, cs_n _ _ (fun w => absurd w.1 (by decide)), e51, cs_n _ _ (fun w => absurd w.1 (by decide)), e49, cs_s, e45, cs_n _ _ (fun w => absurd w.1 (by decide)), n31 202 0 (by decide) (by decide)]
    · rw [t 220 g (by decide), e5, cs_n _ _ (fun w => absurd w.1 (by decide)), e2, cs_n _ _ (fun w => absurd w.1 (by decide)), e57, cs_n _ _ (fun w => absurd w.1 (by decide)), e51, cs_i hg, e49, cs_n _ _ (fun w => absurd w.1 (by decide)), e45, cs_n _ _ (fun w => absurd w.1 (by decide)), n31 220 g (by decide) (by decide)]
    · rw [t 221 g (by decide), e5, cs_n _ _ (fun w => absurd w.1 (by decide)), e2, cs_n _ _ (fun w => absurd w.1 (by decide)), e57, cs_i hg, n51 221 g (by decide) (by decide) (by decide) (by decide) (by decide)]
    · rw [t 222 g (by decide), e5, cs_n _ _ (fun w => absurd w.1 (by decide)), e2, cs_i hg, e57, cs_n _ _ (fun w => absurd w.1 (by decide)), n51 222 g (by decide) (by decide) (by decide) (by decide) (by decide)]
    · rw [t 223 g (by decide), e5, cs_i hg, e2, cs_n _ _ (fun w => absurd w.1 (by decide)), e57, cs_n _ _ (fun w => absurd w.1 (by decide)), n51 223 g (by decide) (by decide) (by decide) (by decide) (by decide)]
    · rw [ho' g hg, ho7 g hg, n5 230 g (by decide) (by decide) (by decide) (by decide) (by decide) (by decide) (by decide) (by decide)]
    · rw [t 220 F (by decide), e5, cs_n _ _ (fun w => absurd w.1 (by decide)), e2, cs_n _ _ (fun w => absurd w.1 (by decide)), e57, cs_n _ _ (fun w => absurd w.1 (by decide)), e51, cs_s]
    · rw [t 221 F (by decide), e5, cs_n _ _ (fun w => absurd w.1 (by decide)), e2, cs_n _ _ (fun w => absurd w.1 (by decide)), e57, cs_s]
    · rw [t 222 F (by decide), e5, cs_n _ _ (fun w => absurd w.1 (by decide)), e2, cs_s]
    · rw [t 223 F (by decide), e5, cs_s]
      show cv S2 129 0 0 = cv S 129 0 0
      rw [e2, cs_n _ _ (fun w => absurd w.1 (by decide)), e57, cs_n _ _ (fun w => absurd w.1 (by decide)), n51 129 0 (by decide) (by decide) (by decide) (by decide) (by decide)]
    · rw [hz' t' ht, hE7'.2 140 rfl]
  · obtain ⟨S31, e31⟩ : ∃ z, z = cs (cs S29 201 0 (fun _ => nI (s + 1))) 127 0 (fun _ => 3) := ⟨_, rfl⟩
    rw [← e31]
    have g127 : cv S31 127 0 0 = 3 := by rw [e31, cs_s]
    rw [g127]
    exact ⟨fun q => absurd q (by decide), fun _ => hsp S31 w (by rw [e31, e29]; exact Ex.cs (by decide) (Ex.cs (by decide) (Ex.cs (by decide) Ex.rf))) g127⟩
