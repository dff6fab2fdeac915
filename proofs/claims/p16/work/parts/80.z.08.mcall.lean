/-! THE REFERENCE: the frame of a call that begins -/
def Ca60 (S S' : MST) (m F k : Nat) (gr gv : Nat → Int32) : Prop := Fm [16, 19, 20, 21, 37, 38, 39, 40, 41, 42, 46] S S' ∧ S' 37 0 = nI (F + 1) ∧ S' 38 = upd (S 38) F (nI m) ∧ S' 39 = upd (S 39) F 0 ∧ S' 41 = upd (S 41) F 0 ∧ (∀ t : Nat, t < 15 → S' 42 (15 * F + t) = gr t) ∧ (∀ q : Nat, (q < 15 * F ∨ 15 * F + 15 ≤ q) → S' 42 q = S 42 q) ∧
  ((S 15 m = 0 ∧ S' 40 = upd (S 40) F (-1) ∧ S' 19 = S 19 ∧ S' 46 = S 46 ∧ S' 16 = upd (S 16) m (S 16 m + 1) ∧ (∀ t : Nat, t < 11 → S' 20 (11 * m + t) = reV S m t (gv t) ∧ S' 21 (11 * m + t) = reL S m t (gv t)) ∧ (∀ q : Nat, (q < 11 * m ∨ 11 * m + 11 ≤ q) → S' 20 q = S 20 q ∧ S' 21 q = S 21 q)) ∨
  (¬ S 15 m = 0 ∧ S' 40 = upd (S 40) F (nI (12 * m + (k - 1))) ∧ S' 19 = upd (S 19) m (S 19 m + 1) ∧ S' 46 0 = S 46 0 + 1 ∧ S' 16 = S 16 ∧ S' 20 = S 20 ∧ S' 21 = S 21))
theorem mr_call60_r {S : MST} {m ax b F k : Nat} {gr gv : Nat → Int32} {Post : MST → Prop} (hm : m < 8) (hax : S 1 m = nI ax) (hax3 : ax ≤ 3) (hb : b + ax ≤ 240) (hF : F < 16) (hbF : b + ax ≤ 15 * F) (h37 : S 37 0 = nI F) (hk : S 17 m = nI k) (hk12 : k ≤ 12) (hk1 : ¬ S 15 m = 0 → 1 ≤ k)
    (hg1 : ∀ t : Nat, t < ax → gr t = S 42 (b + t)) (hg0 : ∀ t : Nat, ax ≤ t → t < 15 → gr t = 0) (hv1 : ∀ t : Nat, t < 3 → gv t = gr t) (hv3 : ∀ t : Nat, 3 ≤ t → t < 11 → gv t = S 12 (t - 3)) (h : ∀ S' : MST, Ca60 S S' m F k gr gv → Post S') : wj_X12_call_r_60 S (nI m) (nI b) Post := by
  unfold wj_X12_call_r_60
  have v16 : vp_in (nI F) 16 := vp_in_nI hF (by omega)
  have v8 : vp_in (nI m) 8 := vp_in_nI hm (by omega)
  rw [h37, nI_clamp (n := F) (by omega)]
  refine ⟨v16, fun S2 e2 => ⟨v16, fun S3 e3 => ⟨v16, fun S4 e4 => ⟨16, ?_⟩⟩⟩⟩
  have n4 : ∀ q : Nat, q ≠ 38 → q ≠ 39 → q ≠ 41 → S4 q = S q := fun q a c d => by rw [e4, ms_n _ _ d, e3, ms_n _ _ c, e2, ms_n _ _ a]
  have g38 : S4 38 = upd (S 38) F (nI m) := by rw [e4, ms_n _ _ (by decide), e3, ms_n _ _ (by decide), e2, ms_s]
  have g39 : S4 39 = upd (S 39) F 0 := by rw [e4, ms_n _ _ (by decide), e3, ms_s, e2, ms_n _ _ (by decide)]
  have g41 : S4 41 = upd (S 41) F 0 := by rw [e4, ms_s, e3, ms_n _ _ (by decide), e2, ms_n _ _ (by decide)]
  refine mr_cl93_r (S0 := S4) (g := gr) hm (by rw [n4 1 (by decide) (by decide) (by decide)]; exact hax) hax3 hb hF hbF (fun t ht => by rw [n4 42 (by decide) (by decide) (by decide)]; exact hg1 t ht) hg0 (fun S5 hE5 hz5 ho5 => ?_) 15 0 S4 (by omega) Fm.rf (fun t ht => absurd ht (by omega)) (fun _ _ => rfl)
  have n5 : ∀ q : Nat, q ≠ 38 → q ≠ 39 → q ≠ 41 → q ≠ 42 → S5 q = S q := fun q a c d e => by rw [hE5 q (by simp; exact e), n4 q a c d]
  have o5 : ∀ q : Nat, (q < 15 * F ∨ 15 * F + 15 ≤ q) → S5 42 q = S 42 q := fun q hq => by rw [ho5 q hq, n4 42 (by decide) (by decide) (by decide)]
  rw [nI_clamp (n := m) (by omega), nI_clamp (n := F) (by omega)]
  have fin : ∀ (S9 : MST), (∀ q : Nat, q ≠ 38 → q ≠ 39 → q ≠ 41 → q ≠ 42 → q ≠ 40 → q ≠ 16 → q ≠ 19 → q ≠ 20 → q ≠ 21 → q ≠ 46 → S9 q = S q) → S9 38 = S4 38 → S9 39 = S4 39 → S9 41 = S4 41 → S9 42 = S5 42 →
      ((S 15 m = 0 ∧ S9 40 = upd (S 40) F (-1) ∧ S9 19 = S 19 ∧ S9 46 = S 46 ∧ S9 16 = upd (S 16) m (S 16 m + 1) ∧ (∀ t : Nat, t < 11 → S9 20 (11 * m + t) = reV S m t (gv t) ∧ S9 21 (11 * m + t) = reL S m t (gv t)) ∧ (∀ q : Nat, (q < 11 * m ∨ 11 * m + 11 ≤ q) → S9 20 q = S 20 q ∧ S9 21 q = S 21 q)) ∨
      (¬ S 15 m = 0 ∧ S9 40 = upd (S 40) F (nI (12 * m + (k - 1))) ∧ S9 19 = upd (S 19) m (S 19 m + 1) ∧ S9 46 0 = S 46 0 + 1 ∧ S9 16 = S 16 ∧ S9 20 = S 20 ∧ S9 21 = S 21)) → wj_X12_call_r_199 S9 Post := by
    intro S9 n9 x38 x39 x41 x42 hc
    unfold wj_X12_call_r_199
    rw [n9 37 (by decide) (by decide) (by decide) (by decide) (by decide) (by decide) (by decide) (by decide) (by decide) (by decide), h37, nI_1]
    intro S1 e1
    have n1 : ∀ q : Nat, q ≠ 37 → S1 q = S9 q := fun q a => by rw [e1, ms_n _ _ a]
    refine h S1 ⟨fun q hq => ?_, by rw [e1, ms_s], by rw [n1 38 (by decide), x38]; exact g38, by rw [n1 39 (by decide), x39]; exact g39, by rw [n1 41 (by decide), x41]; exact g41, fun t ht => by rw [n1 42 (by decide), x42]; exact hz5 t ht, fun q hq => by rw [n1 42 (by decide), x42]; exact o5 q hq, ?_⟩
    · have hq' := hq
      simp at hq'
      obtain ⟨q1, q2, q3, q4, q5, q6, q7, q8, q9, q10, q11⟩ := hq'
      rw [n1 q q5, n9 q q6 q7 q9 q10 q8 q1 q2 q3 q4 q11]
    · rw [n1 40 (by decide), n1 19 (by decide), n1 46 (by decide), n1 16 (by decide), n1 20 (by decide), n1 21 (by decide)]
      exact hc
  refine ⟨v8, fun hz => ⟨v16, fun S7 e7 => ?_⟩, fun hn => ?_⟩
  · rw [n5 15 (by decide) (by decide) (by decide) (by decide)] at hz
    have n7 : ∀ q : Nat, q ≠ 38 → q ≠ 39 → q ≠ 41 → q ≠ 42 → q ≠ 40 → S7 q = S q := fun q a c d e f => by rw [e7, ms_n _ _ f, n5 q a c d e]
    refine mr_remember_r (g := gv) hm (by rw [n7 1 (by decide) (by decide) (by decide) (by decide) (by decide)]; exact hax) hax3 hb (fun t ht => ?_) (fun t ha ht => by rw [hv1 t ht]; exact hg0 t ha (by omega)) (fun t h3 ht => by rw [n7 12 (by decide) (by decide) (by decide) (by decide) (by decide)]; exact hv3 t h3 ht) (fun S9 S1 hR e9 => ?_)
    · rw [hv1 t (by omega), hg1 t ht]
      rw [e7, ms_n _ _ (by decide)]
      exact (o5 _ (by omega)).symm
    · obtain ⟨r1, r2, r3⟩ := hR
      have n9 : ∀ q : Nat, q ≠ 16 → q ≠ 20 → q ≠ 21 → S9 q = S7 q := fun q a c d => by rw [e9, ms_n _ _ a, r1 q (by simp; exact ⟨c, d⟩)]
      have rv : ∀ t : Nat, reV S7 m t (gv t) = reV S m t (gv t) ∧ reL S7 m t (gv t) = reL S m t (gv t) := fun t => by
        unfold reV reL
        rw [n7 16 (by decide) (by decide) (by decide) (by decide) (by decide), n7 20 (by decide) (by decide) (by decide) (by decide) (by decide), n7 21 (by decide) (by decide) (by decide) (by decide) (by decide)]
        exact ⟨rfl, rfl⟩
      refine fin S9 (fun q a1 a2 a3 a4 a5 a6 a7 a8 a9 a10 => by rw [n9 q a6 a8 a9, n7 q a1 a2 a3 a4 a5]) ?_ ?_ ?_ ?_ (Or.inl ⟨hz, ?_, ?_, ?_, ?_, fun t ht => ?_, fun q hq => ?_⟩)
      · rw [n9 38 (by decide) (by decide) (by decide), e7, ms_n _ _ (by decide), hE5 38 rfl]
      · rw [n9 39 (by decide) (by decide) (by decide), e7, ms_n _ _ (by decide), hE5 39 rfl]
      · rw [n9 41 (by decide) (by decide) (by decide), e7, ms_n _ _ (by decide), hE5 41 rfl]
      · rw [n9 42 (by decide) (by decide) (by decide), e7, ms_n _ _ (by decide)]
      · rw [n9 40 (by decide) (by decide) (by decide), e7, ms_s, n5 40 (by decide) (by decide) (by decide) (by decide)]
      · rw [n9 19 (by decide) (by decide) (by decide), n7 19 (by decide) (by decide) (by decide) (by decide) (by decide)]
      · rw [n9 46 (by decide) (by decide) (by decide), n7 46 (by decide) (by decide) (by decide) (by decide) (by decide)]
      · rw [e9, ms_s, n7 16 (by decide) (by decide) (by decide) (by decide) (by decide)]
      · rw [e9, ms_n _ _ (by decide), ms_n _ _ (by decide), (r2 t ht).1, (r2 t ht).2]; exact rv t
      · rw [e9, ms_n _ _ (by decide), ms_n _ _ (by decide), (r3 q hq).1, (r3 q hq).2, n7 20 (by decide) (by decide) (by decide) (by decide) (by decide), n7 21 (by decide) (by decide) (by decide) (by decide) (by decide)]; exact ⟨rfl, rfl⟩
  · rw [n5 15 (by decide) (by decide) (by decide) (by decide)] at hn
    refine sp_codeNow hm (by rw [n5 17 (by decide) (by decide) (by decide) (by decide)]; exact hk) (hk1 hn) hk12 ⟨v16, fun S10 e10 => ⟨v8, v8, fun S12 e12 S13 e13 => fin S13 (fun q a1 a2 a3 a4 a5 a6 a7 a8 a9 a10 => by rw [e13, ms_n _ _ a10, e12, ms_n _ _ a7, e10, ms_n _ _ a5, n5 q a1 a2 a3 a4]) ?_ ?_ ?_ ?_ (Or.inr ⟨hn, ?_, ?_, ?_, ?_, ?_, ?_⟩)⟩⟩
    · rw [e13, ms_n _ _ (by decide), e12, ms_n _ _ (by decide), e10, ms_n _ _ (by decide), hE5 38 rfl]
    · rw [e13, ms_n _ _ (by decide), e12, ms_n _ _ (by decide), e10, ms_n _ _ (by decide), hE5 39 rfl]
    · rw [e13, ms_n _ _ (by decide), e12, ms_n _ _ (by decide), e10, ms_n _ _ (by decide), hE5 41 rfl]
    · rw [e13, ms_n _ _ (by decide), e12, ms_n _ _ (by decide), e10, ms_n _ _ (by decide)]
    · rw [e13, ms_n _ _ (by decide), e12, ms_n _ _ (by decide), e10, ms_s, n5 40 (by decide) (by decide) (by decide) (by decide)]
    · rw [e13, ms_n _ _ (by decide), e12, ms_s, e10, ms_n _ _ (by decide), n5 19 (by decide) (by decide) (by decide) (by decide)]
    · rw [e13, ms_s, e12, ms_n _ _ (by decide), e10, ms_n _ _ (by decide), n5 46 (by decide) (by decide) (by decide) (by decide)]
    · rw [e13, ms_n _ _ (by decide), e12, ms_n _ _ (by decide), e10, ms_n _ _ (by decide), n5 16 (by decide) (by decide) (by decide) (by decide)]
    · rw [e13, ms_n _ _ (by decide), e12, ms_n _ _ (by decide), e10, ms_n _ _ (by decide), n5 20 (by decide) (by decide) (by decide) (by decide)]
    · rw [e13, ms_n _ _ (by decide), e12, ms_n _ _ (by decide), e10, ms_n _ _ (by decide), n5 21 (by decide) (by decide) (by decide) (by decide)]
theorem mr_call60_f {S : MST} {m ax b F k : Nat} {gr gv : Nat → Int32} {Post : MST → Prop} (hm : m < 8) (hax : S 1 m = nI ax) (hax3 : ax ≤ 3) (hb : b + ax ≤ 3) (hF : F < 16) (h37 : S 37 0 = nI F) (hk : S 17 m = nI k) (hk12 : k ≤ 12) (hk1 : ¬ S 15 m = 0 → 1 ≤ k)
    (hg1 : ∀ t : Nat, t < ax → gr t = S 51 (b + t)) (hg0 : ∀ t : Nat, ax ≤ t → t < 15 → gr t = 0) (hv1 : ∀ t : Nat, t < 3 → gv t = gr t) (hv3 : ∀ t : Nat, 3 ≤ t → t < 11 → gv t = S 12 (t - 3)) (h : ∀ S' : MST, Ca60 S S' m F k gr gv → Post S') : wj_X12_call_f_60 S (nI m) (nI b) Post := by
  unfold wj_X12_call_f_60
  have v16 : vp_in (nI F) 16 := vp_in_nI hF (by omega)
  have v8 : vp_in (nI m) 8 := vp_in_nI hm (by omega)
  rw [h37, nI_clamp (n := F) (by omega)]
  refine ⟨v16, fun S2 e2 => ⟨v16, fun S3 e3 => ⟨v16, fun S4 e4 => ⟨16, ?_⟩⟩⟩⟩
  have n4 : ∀ q : Nat, q ≠ 38 → q ≠ 39 → q ≠ 41 → S4 q = S q := fun q a c d => by rw [e4, ms_n _ _ d, e3, ms_n _ _ c, e2, ms_n _ _ a]
  have g38 : S4 38 = upd (S 38) F (nI m) := by rw [e4, ms_n _ _ (by decide), e3, ms_n _ _ (by decide), e2, ms_s]
  have g39 : S4 39 = upd (S 39) F 0 := by rw [e4, ms_n _ _ (by decide), e3, ms_s, e2, ms_n _ _ (by decide)]
  have g41 : S4 41 = upd (S 41) F 0 := by rw [e4, ms_s, e3, ms_n _ _ (by decide), e2, ms_n _ _ (by decide)]
  refine mr_cl93_f (S0 := S4) (g := gr) hm (by rw [n4 1 (by decide) (by decide) (by decide)]; exact hax) hax3 hb hF (fun t ht => by rw [n4 51 (by decide) (by decide) (by decide)]; exact hg1 t ht) hg0 (fun S5 hE5 hz5 ho5 => ?_) 15 0 S4 (by omega) Fm.rf (fun t ht => absurd ht (by omega)) (fun _ _ => rfl)
  have n5 : ∀ q : Nat, q ≠ 38 → q ≠ 39 → q ≠ 41 → q ≠ 42 → S5 q = S q := fun q a c d e => by rw [hE5 q (by simp; exact e), n4 q a c d]
  have o5 : ∀ q : Nat, (q < 15 * F ∨ 15 * F + 15 ≤ q) → S5 42 q = S 42 q := fun q hq => by rw [ho5 q hq, n4 42 (by decide) (by decide) (by decide)]
  rw [nI_clamp (n := m) (by omega), nI_clamp (n := F) (by omega)]
  have fin : ∀ (S9 : MST), (∀ q : Nat, q ≠ 38 → q ≠ 39 → q ≠ 41 → q ≠ 42 → q ≠ 40 → q ≠ 16 → q ≠ 19 → q ≠ 20 → q ≠ 21 → q ≠ 46 → S9 q = S q) → S9 38 = S4 38 → S9 39 = S4 39 → S9 41 = S4 41 → S9 42 = S5 42 →
      ((S 15 m = 0 ∧ S9 40 = upd (S 40) F (-1) ∧ S9 19 = S 19 ∧ S9 46 = S 46 ∧ S9 16 = upd (S 16) m (S 16 m + 1) ∧ (∀ t : Nat, t < 11 → S9 20 (11 * m + t) = reV S m t (gv t) ∧ S9 21 (11 * m + t) = reL S m t (gv t)) ∧ (∀ q : Nat, (q < 11 * m ∨ 11 * m + 11 ≤ q) → S9 20 q = S 20 q ∧ S9 21 q = S 21 q)) ∨
      (¬ S 15 m = 0 ∧ S9 40 = upd (S 40) F (nI (12 * m + (k - 1))) ∧ S9 19 = upd (S 19) m (S 19 m + 1) ∧ S9 46 0 = S 46 0 + 1 ∧ S9 16 = S 16 ∧ S9 20 = S 20 ∧ S9 21 = S 21)) → wj_X12_call_f_199 S9 Post := by
    intro S9 n9 x38 x39 x41 x42 hc
    unfold wj_X12_call_f_199
    rw [n9 37 (by decide) (by decide) (by decide) (by decide) (by decide) (by decide) (by decide) (by decide) (by decide) (by decide), h37, nI_1]
    intro S1 e1
    have n1 : ∀ q : Nat, q ≠ 37 → S1 q = S9 q := fun q a => by rw [e1, ms_n _ _ a]
    refine h S1 ⟨fun q hq => ?_, by rw [e1, ms_s], by rw [n1 38 (by decide), x38]; exact g38, by rw [n1 39 (by decide), x39]; exact g39, by rw [n1 41 (by decide), x41]; exact g41, fun t ht => by rw [n1 42 (by decide), x42]; exact hz5 t ht, fun q hq => by rw [n1 42 (by decide), x42]; exact o5 q hq, ?_⟩
    · have hq' := hq
      simp at hq'
      obtain ⟨q1, q2, q3, q4, q5, q6, q7, q8, q9, q10, q11⟩ := hq'
      rw [n1 q q5, n9 q q6 q7 q9 q10 q8 q1 q2 q3 q4 q11]
    · rw [n1 40 (by decide), n1 19 (by decide), n1 46 (by decide), n1 16 (by decide), n1 20 (by decide), n1 21 (by decide)]
      exact hc
  refine ⟨v8, fun hz => ⟨v16, fun S7 e7 => ?_⟩, fun hn => ?_⟩
  · rw [n5 15 (by decide) (by decide) (by decide) (by decide)] at hz
    have n7 : ∀ q : Nat, q ≠ 38 → q ≠ 39 → q ≠ 41 → q ≠ 42 → q ≠ 40 → S7 q = S q := fun q a c d e f => by rw [e7, ms_n _ _ f, n5 q a c d e]
    refine mr_remember_f (g := gv) hm (by rw [n7 1 (by decide) (by decide) (by decide) (by decide) (by decide)]; exact hax) hax3 hb (fun t ht => ?_) (fun t ha ht => by rw [hv1 t ht]; exact hg0 t ha (by omega)) (fun t h3 ht => by rw [n7 12 (by decide) (by decide) (by decide) (by decide) (by decide)]; exact hv3 t h3 ht) (fun S9 S1 hR e9 => ?_)
    · rw [hv1 t (by omega), hg1 t ht]
      rw [n7 51 (by decide) (by decide) (by decide) (by decide) (by decide)]
    · obtain ⟨r1, r2, r3⟩ := hR
      have n9 : ∀ q : Nat, q ≠ 16 → q ≠ 20 → q ≠ 21 → S9 q = S7 q := fun q a c d => by rw [e9, ms_n _ _ a, r1 q (by simp; exact ⟨c, d⟩)]
      have rv : ∀ t : Nat, reV S7 m t (gv t) = reV S m t (gv t) ∧ reL S7 m t (gv t) = reL S m t (gv t) := fun t => by
        unfold reV reL
        rw [n7 16 (by decide) (by decide) (by decide) (by decide) (by decide), n7 20 (by decide) (by decide) (by decide) (by decide) (by decide), n7 21 (by decide) (by decide) (by decide) (by decide) (by decide)]
        exact ⟨rfl, rfl⟩
      refine fin S9 (fun q a1 a2 a3 a4 a5 a6 a7 a8 a9 a10 => by rw [n9 q a6 a8 a9, n7 q a1 a2 a3 a4 a5]) ?_ ?_ ?_ ?_ (Or.inl ⟨hz, ?_, ?_, ?_, ?_, fun t ht => ?_, fun q hq => ?_⟩)
      · rw [n9 38 (by decide) (by decide) (by decide), e7, ms_n _ _ (by decide), hE5 38 rfl]
      · rw [n9 39 (by decide) (by decide) (by decide), e7, ms_n _ _ (by decide), hE5 39 rfl]
      · rw [n9 41 (by decide) (by decide) (by decide), e7, ms_n _ _ (by decide), hE5 41 rfl]
      · rw [n9 42 (by decide) (by decide) (by decide), e7, ms_n _ _ (by decide)]
      · rw [n9 40 (by decide) (by decide) (by decide), e7, ms_s, n5 40 (by decide) (by decide) (by decide) (by decide)]
      · rw [n9 19 (by decide) (by decide) (by decide), n7 19 (by decide) (by decide) (by decide) (by decide) (by decide)]
      · rw [n9 46 (by decide) (by decide) (by decide), n7 46 (by decide) (by decide) (by decide) (by decide) (by decide)]
      · rw [e9, ms_s, n7 16 (by decide) (by decide) (by decide) (by decide) (by decide)]
      · rw [e9, ms_n _ _ (by decide), ms_n _ _ (by decide), (r2 t ht).1, (r2 t ht).2]; exact rv t
      · rw [e9, ms_n _ _ (by decide), ms_n _ _ (by decide), (r3 q hq).1, (r3 q hq).2, n7 20 (by decide) (by decide) (by decide) (by decide) (by decide), n7 21 (by decide) (by decide) (by decide) (by decide) (by decide)]; exact ⟨rfl, rfl⟩
  · rw [n5 15 (by decide) (by decide) (by decide) (by decide)] at hn
    refine sp_codeNow hm (by rw [n5 17 (by decide) (by decide) (by decide) (by decide)]; exact hk) (hk1 hn) hk12 ⟨v16, fun S10 e10 => ⟨v8, v8, fun S12 e12 S13 e13 => fin S13 (fun q a1 a2 a3 a4 a5 a6 a7 a8 a9 a10 => by rw [e13, ms_n _ _ a10, e12, ms_n _ _ a7, e10, ms_n _ _ a5, n5 q a1 a2 a3 a4]) ?_ ?_ ?_ ?_ (Or.inr ⟨hn, ?_, ?_, ?_, ?_, ?_, ?_⟩)⟩⟩
    · rw [e13, ms_n _ _ (by decide), e12, ms_n _ _ (by decide), e10, ms_n _ _ (by decide), hE5 38 rfl]
    · rw [e13, ms_n _ _ (by decide), e12, ms_n _ _ (by decide), e10, ms_n _ _ (by decide), hE5 39 rfl]
    · rw [e13, ms_n _ _ (by decide), e12, ms_n _ _ (by decide), e10, ms_n _ _ (by decide), hE5 41 rfl]
    · rw [e13, ms_n _ _ (by decide), e12, ms_n _ _ (by decide), e10, ms_n _ _ (by decide)]
    · rw [e13, ms_n _ _ (by decide), e12, ms_n _ _ (by decide), e10, ms_s, n5 40 (by decide) (by decide) (by decide) (by decide)]
    · rw [e13, ms_n _ _ (by decide), e12, ms_s, e10, ms_n _ _ (by decide), n5 19 (by decide) (by decide) (by decide) (by decide)]
    · rw [e13, ms_s, e12, ms_n _ _ (by decide), e10, ms_n _ _ (by decide), n5 46 (by decide) (by decide) (by decide) (by decide)]
    · rw [e13, ms_n _ _ (by decide), e12, ms_n _ _ (by decide), e10, ms_n _ _ (by decide), n5 16 (by decide) (by decide) (by decide) (by decide)]
    · rw [e13, ms_n _ _ (by decide), e12, ms_n _ _ (by decide), e10, ms_n _ _ (by decide), n5 20 (by decide) (by decide) (by decide) (by decide)]
    · rw [e13, ms_n _ _ (by decide), e12, ms_n _ _ (by decide), e10, ms_n _ _ (by decide), n5 21 (by decide) (by decide) (by decide) (by decide)]
