/-! THE REFERENCE: what a call that begins remembers, and its registers -/
theorem mr_rtail {S0 S : MST} {m j : Nat} {v : Int32} {g : Nat → Int32} {L : MST → Prop} (hm : m < 8) (hj : j < 11) (h : ReI S0 S m j g) (hv : g j = v) (hL : ∀ S' : MST, ReI S0 S' m (j + 1) g → L S') :
    ((¬ (((S 16 m) : Int32) = 0)) → (vp_in (nI (11 * m + j)) 88 ∧ (((((S 21 (11 * m + j)) : Int32) = 0) → (vp_in (nI (11 * m + j)) 88 ∧ (∀ S10 : MST, S10 = ms S 21 (upd (S 21) (11 * m + j) 0) → L S10))) ∧ ((¬ (((S 21 (11 * m + j)) : Int32) = 0)) → (vp_in (nI (11 * m + j)) 88 ∧ (((¬ (((S 20 (11 * m + j)) : Int32) = v)) → (vp_in (nI (11 * m + j)) 88 ∧ (∀ S13 : MST, S13 = ms S 21 (upd (S 21) (11 * m + j) 0) → L S13))) ∧ ((((S 20 (11 * m + j)) : Int32) = v) → (vp_in (nI (11 * m + j)) 88 ∧ (∀ S14 : MST, S14 = ms S 21 (upd (S 21) (11 * m + j) 1) → L S14)))))))) ) ∧ ((((S 16 m) : Int32) = 0) → (vp_in (nI (11 * m + j)) 88 ∧ (∀ S15 : MST, S15 = ms S 20 (upd (S 20) (11 * m + j) v) → (vp_in (nI (11 * m + j)) 88 ∧ (∀ S16 : MST, S16 = ms S15 21 (upd (S15 21) (11 * m + j) 1) → (vp_in (nI (11 * m + j)) 88 ∧ (((((S16 21 (11 * m + j)) : Int32) = 0) → (vp_in (nI (11 * m + j)) 88 ∧ (∀ S19 : MST, S19 = ms S16 21 (upd (S16 21) (11 * m + j) 0) → L S19))) ∧ ((¬ (((S16 21 (11 * m + j)) : Int32) = 0)) → (vp_in (nI (11 * m + j)) 88 ∧ (((¬ (((S16 20 (11 * m + j)) : Int32) = v)) → (vp_in (nI (11 * m + j)) 88 ∧ (∀ S22 : MST, S22 = ms S16 21 (upd (S16 21) (11 * m + j) 0) → L S22))) ∧ ((((S16 20 (11 * m + j)) : Int32) = v) → (vp_in (nI (11 * m + j)) 88 ∧ (∀ S23 : MST, S23 = ms S16 21 (upd (S16 21) (11 * m + j) 1) → L S23)))))))))))) ) := by
  have v88 : vp_in (nI (11 * m + j)) 88 := vp_in_nI (by omega) (by omega)
  have e16 : S 16 m = S0 16 m := by rw [h.1 16 rfl]
  obtain ⟨o20, o21⟩ := h.2.2 (11 * m + j) (Or.inr (Nat.le_refl _))
  have one : ∀ b : Int32, ¬ S0 16 m = 0 → reL S0 m j v = b → ∀ S10 : MST, S10 = ms S 21 (upd (S 21) (11 * m + j) b) → L S10 := fun b hn hb S10 e10 => hL S10 (h.put (Fm.put e10 rfl Fm.rf) (by
    rw [e10, ms_n _ _ (by decide)]
    unfold reV
    rw [if_neg hn, ← o20, upd_id]) (by rw [e10, ms_s, hv, hb]))
  refine ⟨fun cn => ⟨v88, fun c21 => ⟨v88, one 0 ?_ ?_⟩, fun c21 => ⟨v88, fun c20 => ⟨v88, one 0 ?_ ?_⟩, fun c20 => ⟨v88, one 1 ?_ ?_⟩⟩⟩, fun cz => ⟨v88, fun S15 e15 => ⟨v88, fun S16 e16' => ⟨v88, fun c => ?_, fun _ => ⟨v88, fun c => ?_, fun _ => ⟨v88, fun S23 e23 => ?_⟩⟩⟩⟩⟩⟩
  · rw [← e16]; exact cn
  · unfold reL
    rw [if_neg (by rw [← e16]; exact cn), if_pos (by rw [← o21]; exact c21)]
  · rw [← e16]; exact cn
  · unfold reL
    rw [if_neg (by rw [← e16]; exact cn), if_neg (by rw [← o21]; exact c21), if_neg (by rw [← o20]; exact c20)]
  · rw [← e16]; exact cn
  · unfold reL
    rw [if_neg (by rw [← e16]; exact cn), if_neg (by rw [← o21]; exact c21), if_pos (by rw [← o20]; exact c20)]
  · rw [e16', ms_s, upd_s] at c; exact absurd c (by decide)
  · rw [e16', ms_n _ _ (by decide), e15, ms_s, upd_s] at c; exact absurd rfl c
  · have z : S0 16 m = 0 := by rw [← e16]; exact cz
    refine hL S23 (h.put (Fm.put e23 rfl (Fm.put e16' rfl (Fm.put e15 rfl Fm.rf))) ?_ ?_)
    · rw [e23, ms_n _ _ (by decide), e16', ms_n _ _ (by decide), e15, ms_s]
      unfold reV
      rw [if_pos z, hv]
    · have t : S23 21 = upd (upd (S 21) (11 * m + j) 1) (11 * m + j) 1 := by rw [e23, ms_s, e16', ms_s, e15, ms_n _ _ (by decide)]
      rw [t]
      unfold reL
      rw [if_pos z]
      funext q
      by_cases w : q = 11 * m + j
      · rw [w, upd_s, upd_s]
      · rw [upd_n _ _ w, upd_n _ _ w]
theorem mr_rem3_r {S0 : MST} {m ax b : Nat} {g : Nat → Int32} {K : MST → Int32 → Prop} {Post : MST → Prop} (hm : m < 8) (hax : S0 1 m = nI ax) (hax3 : ax ≤ 3) (hb : b + ax ≤ 240) (hg1 : ∀ t : Nat, t < ax → g t = S0 42 (b + t)) (hg0 : ∀ t : Nat, ax ≤ t → t < 3 → g t = 0) (hg3 : ∀ t : Nat, 3 ≤ t → t < 11 → g t = S0 12 (t - 3)) (h : ∀ S' : MST, ReI S0 S' m 11 g → K S' (nI m)) :
    ∀ (k j : Nat) (S : MST), j + k = 11 → ReI S0 S m j g → wl_X12_remember_r_3 K Post (k + 1) S (nI m) (nI b) (nI j) := by
  intro k
  induction k with
  | zero =>
    intro j S hj hR
    unfold wl_X12_remember_r_3
    obtain rfl : j = 11 := by omega
    exact ⟨fun _ => h S hR, fun q => absurd (show (11 : Int32) ≤ nI 11 by decide) q⟩
  | succ k ih =>
    intro j S hj hR
    have hj11 : j < 11 := by omega
    have v8 : vp_in (nI m) 8 := vp_in_nI hm (by omega)
    have hL : ∀ S' : MST, ReI S0 S' m (j + 1) g → wl_X12_remember_r_3 K Post (k + 1) S' (nI m) (nI b) (nI (j + 1)) := fun S' hR' => ih (j + 1) S' (by omega) hR'
    unfold wl_X12_remember_r_3
    rw [nI_1, nI_clamp (n := m) (by omega), ix11, nI_clamp (n := 11 * m + j) (by omega), nI_add b j, vn_1, vn_0, show S 1 m = nI ax by rw [hR.1 1 rfl]; exact hax]
    refine ⟨fun q => absurd q (nI_ge (b := 11) hj11 (by omega)), fun _ => ⟨fun q3 => ?_, fun q3 => ⟨v8, fun qa => ⟨v8, ?_⟩, fun qa => ⟨?_, v8, ?_⟩⟩⟩⟩
    · have j3 : 3 ≤ j := Nat.not_lt.mp (fun q => nI_ge (b := 3) q (by omega) q3)
      rw [show nI j - 3 = nI (j - 3) from nI_sub (b := 3) j3, nI_clamp (n := j - 3) (by omega)]
      exact ⟨vp_in_nI (by omega) (by omega), v8, mr_rtail hm hj11 hR (by rw [hg3 j j3 hj11, hR.1 12 rfl]) hL⟩
    · have j3 : j < 3 := Nat.not_le.mp (fun q => q3 (nI_le (a := 3) q (by omega)))
      exact mr_rtail hm hj11 hR (hg0 j (Nat.not_lt.mp (fun q => nI_ge q (by omega) qa)) j3) hL
    · have ja : j < ax := Nat.not_le.mp (fun q => qa (nI_le q (by omega)))
      exact vp_in_nI (by omega) (by omega)
    · have ja : j < ax := Nat.not_le.mp (fun q => qa (nI_le q (by omega)))
      rw [nI_clamp (n := b + j) (by omega)]
      exact mr_rtail hm hj11 hR (by rw [hg1 j ja, hR.1 42 rfl]) hL
theorem mr_remember_r {S : MST} {m ax b : Nat} {g : Nat → Int32} {Post : MST → Prop} (hm : m < 8) (hax : S 1 m = nI ax) (hax3 : ax ≤ 3) (hb : b + ax ≤ 240) (hg1 : ∀ t : Nat, t < ax → g t = S 42 (b + t)) (hg0 : ∀ t : Nat, ax ≤ t → t < 3 → g t = 0) (hg3 : ∀ t : Nat, 3 ≤ t → t < 11 → g t = S 12 (t - 3)) (h : ∀ S' S1 : MST, ReI S S1 m 11 g → S' = ms S1 16 (upd (S 16) m (S 16 m + 1)) → Post S') : wp_X12_remember_r S (nI m) (nI b) Post := by
  have v8 : vp_in (nI m) 8 := vp_in_nI hm (by omega)
  unfold wp_X12_remember_r
  refine ⟨12, mr_rem3_r hm hax hax3 hb hg1 hg0 hg3 (fun S1 hR => ⟨v8, v8, fun S2 e2 => h S2 S1 hR ?_⟩) 11 0 S (by omega) ⟨Fm.rf, fun t ht => absurd ht (by omega), fun _ _ => ⟨rfl, rfl⟩⟩⟩
  rw [nI_clamp (n := m) (by omega), hR.1 16 rfl] at e2
  exact e2
/-- registers of a call that begins -/
theorem mr_cl93_r {S0 : MST} {m ax b F : Nat} {g : Nat → Int32} {K : MST → Int32 → Int32 → Int32 → Prop} {Post : MST → Prop} (hm : m < 8) (hax : S0 1 m = nI ax) (hax3 : ax ≤ 3) (hb : b + ax ≤ 240) (hF : F < 16) (hbF : b + ax ≤ 15 * F) (hg1 : ∀ t : Nat, t < ax → g t = S0 42 (b + t)) (hg0 : ∀ t : Nat, ax ≤ t → t < 15 → g t = 0)
    (h : ∀ S : MST, Fm [42] S0 S → (∀ t : Nat, t < 15 → S 42 (15 * F + t) = g t) → (∀ q : Nat, (q < 15 * F ∨ 15 * F + 15 ≤ q) → S 42 q = S0 42 q) → K S (nI m) (nI b) (nI F)) :
    ∀ (k j : Nat) (S : MST), j + k = 15 → Fm [42] S0 S → (∀ t : Nat, t < j → S 42 (15 * F + t) = g t) → (∀ q : Nat, (q < 15 * F ∨ 15 * F + j ≤ q) → S 42 q = S0 42 q) → wl_X12_call_r_93 K Post (k + 1) S (nI m) (nI b) (nI F) (nI j) := by
  intro k
  induction k with
  | zero =>
    intro j S hj hE hz ho
    unfold wl_X12_call_r_93
    obtain rfl : j = 15 := by omega
    exact ⟨fun _ => h S hE hz ho, fun q => absurd (show (15 : Int32) ≤ nI 15 by decide) q⟩
  | succ k ih =>
    intro j S hj hE hz ho
    have hj15 : j < 15 := by omega
    have v8 : vp_in (nI m) 8 := vp_in_nI hm (by omega)
    have v240 : vp_in (nI (15 * F + j)) 240 := vp_in_nI (by omega) (by omega)
    have put : ∀ v : Int32, v = g j → ∀ S5 : MST, S5 = ms S 42 (upd (S 42) (15 * F + j) v) → wl_X12_call_r_93 K Post (k + 1) S5 (nI m) (nI b) (nI F) (nI (j + 1)) := fun v hv S5 e5 => ih (j + 1) S5 (by omega) (Fm.put e5 rfl hE) (fun t ht => by
      rw [e5, ms_s]
      by_cases w : t = j
      · rw [w, upd_s, hv]
      · rw [upd_n _ _ (by omega)]; exact hz t (by omega)) (fun q hq => by
      rw [e5, ms_s, upd_n _ _ (by omega)]; exact ho q (by omega))
    unfold wl_X12_call_r_93
    rw [nI_1, nI_clamp (n := m) (by omega), show S 1 m = nI ax by rw [hE 1 rfl]; exact hax, ix15, nI_clamp (n := 15 * F + j) (by omega), nI_add b j]
    refine ⟨fun q => absurd q (nI_ge (b := 15) hj15 (by omega)), fun _ => ⟨v8, fun qa => ⟨v240, put 0 (hg0 j (Nat.not_lt.mp (fun q => nI_ge q (by omega) qa)) hj15).symm⟩, fun qa => ?_⟩⟩
    have ja : j < ax := Nat.not_le.mp (fun q => qa (nI_le q (by omega)))
    rw [nI_clamp (n := b + j) (by omega)]
    exact ⟨vp_in_nI (by omega) (by omega), v240, put _ (by rw [hg1 j ja]; exact ho (b + j) (by omega))⟩
theorem mr_rem3_f {S0 : MST} {m ax b : Nat} {g : Nat → Int32} {K : MST → Int32 → Prop} {Post : MST → Prop} (hm : m < 8) (hax : S0 1 m = nI ax) (hax3 : ax ≤ 3) (hb : b + ax ≤ 3) (hg1 : ∀ t : Nat, t < ax → g t = S0 51 (b + t)) (hg0 : ∀ t : Nat, ax ≤ t → t < 3 → g t = 0) (hg3 : ∀ t : Nat, 3 ≤ t → t < 11 → g t = S0 12 (t - 3)) (h : ∀ S' : MST, ReI S0 S' m 11 g → K S' (nI m)) :
    ∀ (k j : Nat) (S : MST), j + k = 11 → ReI S0 S m j g → wl_X12_remember_f_3 K Post (k + 1) S (nI m) (nI b) (nI j) := by
  intro k
  induction k with
  | zero =>
    intro j S hj hR
    unfold wl_X12_remember_f_3
    obtain rfl : j = 11 := by omega
    exact ⟨fun _ => h S hR, fun q => absurd (show (11 : Int32) ≤ nI 11 by decide) q⟩
  | succ k ih =>
    intro j S hj hR
    have hj11 : j < 11 := by omega
    have v8 : vp_in (nI m) 8 := vp_in_nI hm (by omega)
    have hL : ∀ S' : MST, ReI S0 S' m (j + 1) g → wl_X12_remember_f_3 K Post (k + 1) S' (nI m) (nI b) (nI (j + 1)) := fun S' hR' => ih (j + 1) S' (by omega) hR'
    unfold wl_X12_remember_f_3
    rw [nI_1, nI_clamp (n := m) (by omega), ix11, nI_clamp (n := 11 * m + j) (by omega), nI_add b j, vn_1, vn_0, show S 1 m = nI ax by rw [hR.1 1 rfl]; exact hax]
    refine ⟨fun q => absurd q (nI_ge (b := 11) hj11 (by omega)), fun _ => ⟨fun q3 => ?_, fun q3 => ⟨v8, fun qa => ⟨v8, ?_⟩, fun qa => ⟨?_, v8, ?_⟩⟩⟩⟩
    · have j3 : 3 ≤ j := Nat.not_lt.mp (fun q => nI_ge (b := 3) q (by omega) q3)
      rw [show nI j - 3 = nI (j - 3) from nI_sub (b := 3) j3, nI_clamp (n := j - 3) (by omega)]
      exact ⟨vp_in_nI (by omega) (by omega), v8, mr_rtail hm hj11 hR (by rw [hg3 j j3 hj11, hR.1 12 rfl]) hL⟩
    · have j3 : j < 3 := Nat.not_le.mp (fun q => q3 (nI_le (a := 3) q (by omega)))
      exact mr_rtail hm hj11 hR (hg0 j (Nat.not_lt.mp (fun q => nI_ge q (by omega) qa)) j3) hL
    · have ja : j < ax := Nat.not_le.mp (fun q => qa (nI_le q (by omega)))
      exact vp_in_nI (by omega) (by omega)
    · have ja : j < ax := Nat.not_le.mp (fun q => qa (nI_le q (by omega)))
      rw [nI_clamp (n := b + j) (by omega)]
      exact mr_rtail hm hj11 hR (by rw [hg1 j ja, hR.1 51 rfl]) hL
theorem mr_remember_f {S : MST} {m ax b : Nat} {g : Nat → Int32} {Post : MST → Prop} (hm : m < 8) (hax : S 1 m = nI ax) (hax3 : ax ≤ 3) (hb : b + ax ≤ 3) (hg1 : ∀ t : Nat, t < ax → g t = S 51 (b + t)) (hg0 : ∀ t : Nat, ax ≤ t → t < 3 → g t = 0) (hg3 : ∀ t : Nat, 3 ≤ t → t < 11 → g t = S 12 (t - 3)) (h : ∀ S' S1 : MST, ReI S S1 m 11 g → S' = ms S1 16 (upd (S 16) m (S 16 m + 1)) → Post S') : wp_X12_remember_f S (nI m) (nI b) Post := by
  have v8 : vp_in (nI m) 8 := vp_in_nI hm (by omega)
  unfold wp_X12_remember_f
  refine ⟨12, mr_rem3_f hm hax hax3 hb hg1 hg0 hg3 (fun S1 hR => ⟨v8, v8, fun S2 e2 => h S2 S1 hR ?_⟩) 11 0 S (by omega) ⟨Fm.rf, fun t ht => absurd ht (by omega), fun _ _ => ⟨rfl, rfl⟩⟩⟩
  rw [nI_clamp (n := m) (by omega), hR.1 16 rfl] at e2
  exact e2
/-- registers of a call that begins -/
theorem mr_cl93_f {S0 : MST} {m ax b F : Nat} {g : Nat → Int32} {K : MST → Int32 → Int32 → Int32 → Prop} {Post : MST → Prop} (hm : m < 8) (hax : S0 1 m = nI ax) (hax3 : ax ≤ 3) (hb : b + ax ≤ 3) (hF : F < 16) (hg1 : ∀ t : Nat, t < ax → g t = S0 51 (b + t)) (hg0 : ∀ t : Nat, ax ≤ t → t < 15 → g t = 0)
    (h : ∀ S : MST, Fm [42] S0 S → (∀ t : Nat, t < 15 → S 42 (15 * F + t) = g t) → (∀ q : Nat, (q < 15 * F ∨ 15 * F + 15 ≤ q) → S 42 q = S0 42 q) → K S (nI m) (nI b) (nI F)) :
    ∀ (k j : Nat) (S : MST), j + k = 15 → Fm [42] S0 S → (∀ t : Nat, t < j → S 42 (15 * F + t) = g t) → (∀ q : Nat, (q < 15 * F ∨ 15 * F + j ≤ q) → S 42 q = S0 42 q) → wl_X12_call_f_93 K Post (k + 1) S (nI m) (nI b) (nI F) (nI j) := by
  intro k
  induction k with
  | zero =>
    intro j S hj hE hz ho
    unfold wl_X12_call_f_93
    obtain rfl : j = 15 := by omega
    exact ⟨fun _ => h S hE hz ho, fun q => absurd (show (15 : Int32) ≤ nI 15 by decide) q⟩
  | succ k ih =>
    intro j S hj hE hz ho
    have hj15 : j < 15 := by omega
    have v8 : vp_in (nI m) 8 := vp_in_nI hm (by omega)
    have v240 : vp_in (nI (15 * F + j)) 240 := vp_in_nI (by omega) (by omega)
    have put : ∀ v : Int32, v = g j → ∀ S5 : MST, S5 = ms S 42 (upd (S 42) (15 * F + j) v) → wl_X12_call_f_93 K Post (k + 1) S5 (nI m) (nI b) (nI F) (nI (j + 1)) := fun v hv S5 e5 => ih (j + 1) S5 (by omega) (Fm.put e5 rfl hE) (fun t ht => by
      rw [e5, ms_s]
      by_cases w : t = j
      · rw [w, upd_s, hv]
      · rw [upd_n _ _ (by omega)]; exact hz t (by omega)) (fun q hq => by
      rw [e5, ms_s, upd_n _ _ (by omega)]; exact ho q (by omega))
    unfold wl_X12_call_f_93
    rw [nI_1, nI_clamp (n := m) (by omega), show S 1 m = nI ax by rw [hE 1 rfl]; exact hax, ix15, nI_clamp (n := 15 * F + j) (by omega), nI_add b j]
    refine ⟨fun q => absurd q (nI_ge (b := 15) hj15 (by omega)), fun _ => ⟨v8, fun qa => ⟨v240, put 0 (hg0 j (Nat.not_lt.mp (fun q => nI_ge q (by omega) qa)) hj15).symm⟩, fun qa => ?_⟩⟩
    have ja : j < ax := Nat.not_le.mp (fun q => qa (nI_le q (by omega)))
    rw [nI_clamp (n := b + j) (by omega)]
    exact ⟨vp_in_nI (by omega) (by omega), v240, put _ (by rw [hg1 j ja]; rw [hE 51 rfl])⟩
