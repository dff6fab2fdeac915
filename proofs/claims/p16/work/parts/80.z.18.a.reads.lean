/-! BOTH between calls, run and all: what is asked -/
/-- what holds of both behind a call -/
def FQ (c : Prop) (S : CST) (Sm : MST) : Prop := MI Sm (cnP S) ∧ FR1 S Sm ∧ c
theorem mr_in {a : Int32} {b : Int64} {k : Nat} {Post : Int32 → Prop} (hb : b.toInt = k) (hk : k < 1000) (h0 : (∀ x : Nat, x ≤ k → ¬ a = nI x) → Post 0) (h1 : ∀ x : Nat, x ≤ k → a = nI x → Post 1) : wp_X12_in a.toInt64 0 b Post := by
  have t0 : (0 : Int64).toInt = 0 := by decide
  refine sp_inL (fun q => h0 (fun x hx e => ?_)) (fun q1 q2 => ?_)
  · rw [t0, hb, e, nI_toInt (by omega)] at q; omega
  · rw [t0] at q1
    rw [hb] at q2
    obtain ⟨x, hx, e⟩ := z_nat (M := k + 1) q1 (by omega) (by omega)
    exact h1 x (by omega) e
theorem FR1.len {S : CST} {Sm : MST} (h : FR1 S Sm) {r : Nat} (hr : r < 4) : cv S 50 0 r = Sm 13 r := (h.2.1.2 r hr).1
/-- of an int that is no index below k -/
theorem out_cases {a : Int32} {k : Nat} (hk : k < 1000) (h : ∀ x : Nat, x ≤ k → ¬ a = nI x) : a < 0 ∨ (¬ a < 0 ∧ ¬ a < nI (k + 1) ∧ nI (k + 1) ≤ a) := by
  by_cases c : a < 0
  · exact Or.inl c
  · obtain ⟨x, e, hx⟩ := nI_ofc c
    refine Or.inr ⟨c, ?_, ?_⟩
    · rw [e]
      exact Int32.not_lt.mpr (nI_le (Nat.not_lt.mp (fun w => h x (by omega) e)) (by omega))
    · rw [e]
      exact nI_le (Nat.not_lt.mp (fun w => h x (by omega) e)) (by omega)
theorem in_cases {x k : Nat} (hx : x ≤ k) (hk : k < 1000) : ¬ nI x < 0 ∧ nI x < nI (k + 1) ∧ ¬ nI (k + 1) ≤ nI x := ⟨nI_nn x (by omega), Int32.not_le.mp (nI_ge (by omega) (by omega)), nI_ge (by omega) (by omega)⟩
theorem zq_field {S : CST} {Sm : MST} {a : Int32} (hJ : J S) (hM : MI Sm (cnP S)) (hQ : FR1 S Sm) : wp_X11_field S a (fun r => wp_X12_field Sm a (fun r' => r = r')) := by
  unfold wp_X11_field wp_X12_field
  have bad : (∀ x : Nat, x ≤ 7 → ¬ a = nI x) → wp_X12_in a.toInt64 0 7 (fun r1 => (((r1 : Int32) = 0) → (-2147483648 : Int32) = -2147483648) ∧ ((¬ ((r1 : Int32) = 0)) → (vp_in a 8 ∧ (-2147483648 : Int32) = (Sm 12 (a : Int32).toNatClampNeg)))) := fun hb => mr_in (k := 7) (by decide) (by omega) (fun _ => ⟨fun _ => rfl, fun q => absurd rfl q⟩) (fun x hx e => absurd e (hb x hx))
  refine ⟨fun c => bad (fun x hx e => (in_cases hx (by omega)).1 (by rw [← e]; exact c)), fun c => ⟨fun c8 => ?_, fun c8 => bad (fun x hx e => c8 (by rw [e]; exact (in_cases hx (by omega)).2.1))⟩⟩
  obtain ⟨x, rfl, hx⟩ := nI_ofc c
  have hx8 : x < 8 := Nat.not_le.mp (fun q => absurd c8 (Int32.not_lt.mpr (nI_le (a := 8) q (by omega))))
  refine xr_fval hx8 (mr_in (k := 7) (by decide) (by omega) (fun q => absurd rfl (q x (by omega))) (fun _ _ _ => ⟨fun q => absurd q (by decide), fun _ => ⟨vp_in_nI hx8 (by omega), ?_⟩⟩))
  rw [nI_clamp (by omega)]
  exact hQ.2.1.1 x hx8
theorem zq_size {S : CST} {Sm : MST} {a : Int32} (hJ : J S) (hM : MI Sm (cnP S)) (hQ : FR1 S Sm) : wp_X11_size S a (fun r => wp_X12_size Sm a (fun r' => r = r')) := by
  unfold wp_X11_size wp_X12_size
  have bad : (∀ x : Nat, x ≤ 3 → ¬ a = nI x) → wp_X12_in a.toInt64 0 3 (fun r1 => (((r1 : Int32) = 0) → (-2 : Int32) = -2) ∧ ((¬ ((r1 : Int32) = 0)) → (vp_in a 4 ∧ (-2 : Int32) = (Sm 13 (a : Int32).toNatClampNeg)))) := fun hb => mr_in (k := 3) (by decide) (by omega) (fun _ => ⟨fun _ => rfl, fun q => absurd rfl q⟩) (fun x hx e => absurd e (hb x hx))
  refine ⟨fun c => bad (fun x hx e => (in_cases hx (by omega)).1 (by rw [← e]; exact c)), fun c => ⟨fun c8 => ?_, fun c8 => bad (fun x hx e => c8 (by rw [e]; exact (in_cases hx (by omega)).2.1))⟩⟩
  obtain ⟨x, rfl, hx⟩ := nI_ofc c
  have hx4 : x < 4 := Nat.not_le.mp (fun q => absurd c8 (Int32.not_lt.mpr (nI_le (a := 4) q (by omega))))
  refine xr_lengthOf hx4 (mr_in (k := 3) (by decide) (by omega) (fun q => absurd rfl (q x (by omega))) (fun _ _ _ => ⟨fun q => absurd q (by decide), fun _ => ⟨vp_in_nI hx4 (by omega), ?_⟩⟩))
  rw [nI_clamp (by omega)]
  exact hQ.len hx4
theorem zq_answer {S : CST} {Sm : MST} (hJ : J S) (hM : MI Sm (cnP S)) (hQ : FR1 S Sm) : wp_X11_answer S (fun r => wp_X12_answer Sm (fun r' => r = r')) := by
  unfold wp_X11_answer wp_X12_answer
  exact hQ.2.2.2.2.2.2.2.1
theorem zq_trap {S : CST} {Sm : MST} {a : Int32} (hJ : J S) (hM : MI Sm (cnP S)) (hQ : FR1 S Sm) : wp_X11_trap S a (fun r => wp_X12_trap Sm a (fun r' => r = r')) := by
  unfold wp_X11_trap wp_X12_trap wp_X10_ofTrap
  have bad : (∀ x : Nat, x ≤ 3 → ¬ a = nI x) → wp_X12_in a.toInt64 0 3 (fun r1 => (((r1 : Int32) = 0) → (-2 : Int32) = -2) ∧ ((¬ ((r1 : Int32) = 0)) → (vp_in a 4 ∧ (-2 : Int32) = (Sm 50 (a : Int32).toNatClampNeg)))) := fun hb => mr_in (k := 3) (by decide) (by omega) (fun _ => ⟨fun _ => rfl, fun q => absurd rfl q⟩) (fun x hx e => absurd e (hb x hx))
  refine ⟨fun c => bad (fun x hx e => (in_cases hx (by omega)).1 (by rw [← e]; exact c)), fun c => ⟨fun c4 => bad (fun x hx e => (in_cases hx (by omega)).2.2 (by rw [← e]; exact c4)), fun c4 => ?_⟩⟩
  obtain ⟨x, rfl, hx⟩ := nI_ofc c
  have hx4 : x < 4 := Nat.not_le.mp (fun q => c4 (nI_le (a := 4) q (by omega)))
  refine ⟨vp_in_nI hx4 (by omega), mr_in (k := 3) (by decide) (by omega) (fun q => absurd rfl (q x (by omega))) (fun _ _ _ => ⟨fun q => absurd q (by decide), fun _ => ⟨vp_in_nI hx4 (by omega), ?_⟩⟩)⟩
  rw [nI_clamp (by omega)]
  exact hQ.2.2.2.2.2.2.2.2 x hx4
theorem zq_item {S : CST} {Sm : MST} {a b : Int32} (hJ : J S) (hM : MI Sm (cnP S)) (hQ : FR1 S Sm) : wp_X11_item S a b (fun r => wp_X12_item Sm a b (fun r' => r = r')) := by
  have hRw := hM.2.1
  -- nothing is there
  have none : (∀ r : Nat, r ≤ 3 → a = nI r → ∀ n i : Nat, Sm 13 r = nI n → n ≤ 20 → i < n → ¬ b = nI i) → wp_X12_item Sm a b (fun r' => (0 : Int32) = r') := fun hno => by
    unfold wp_X12_item
    refine mr_in (k := 3) (by decide) (by omega) (fun _ => ⟨fun _ => rfl, fun q => absurd rfl q⟩) (fun r hr e => ⟨fun q => absurd q (by decide), fun _ => ⟨by rw [e]; exact vp_in_nI (by omega) (by omega), ?_⟩⟩)
    have hno' := hno r hr e
    rw [e, nI_clamp (n := r) (by omega)]
    rcases hRw r (by omega) with w | ⟨n, hn, w⟩
    · exact sp_in (fun _ => ⟨fun _ => rfl, fun q => absurd rfl q⟩) (fun q1 q2 => by
        rw [w] at q2
        rw [Int32.toInt_toInt64, Int32.toInt_toInt64] at q2
        rw [Int32.toInt_toInt64] at q1
        have t0 : (0 : Int64).toInt = 0 := by decide
        have t2 : ((-1 : Int32) - 1).toInt = -2 := by decide
        omega)
    · exact sp_in0 (n := n) (by omega) (by rw [w]) (fun _ => ⟨fun _ => rfl, fun q => absurd rfl q⟩) (fun i hi ei => absurd ei (hno' n i w hn hi))
  unfold wp_X11_item wp_X2_itemOf
  refine ⟨fun c => none (fun _ _ _ _ i _ hn hi ei => nI_nn i (by omega) (by rw [← ei]; exact c)), fun c => ?_⟩
  obtain ⟨i, rfl, hi⟩ := nI_ofc c
  unfold wp_X2_lengthOf
  have noR : (∀ r : Nat, r ≤ 3 → ¬ a = nI r) → wp_X12_item Sm a (nI i) (fun r' => (0 : Int32) = r') := fun hno => none (fun r hr e _ _ _ _ _ _ => hno r hr e)
  have m1 : (-1 : Int32) ≤ nI i := Int32.le_trans (by decide) (Int32.not_lt.mp c)
  refine ⟨fun ca => ⟨fun _ => noR (fun r hr e => (in_cases hr (by omega)).1 (by rw [← e]; exact ca)), fun q => absurd m1 q⟩, fun ca => ⟨fun c4 => ⟨fun _ => noR (fun r hr e => (in_cases hr (by omega)).2.2 (by rw [← e]; exact c4)), fun q => absurd m1 q⟩, fun c4 => ?_⟩⟩
  obtain ⟨r, rfl, hr⟩ := nI_ofc ca
  have hr4 : r < 4 := Nat.not_le.mp (fun q => c4 (nI_le (a := 4) q (by omega)))
  refine ⟨vp_in_nI hr4 (by omega), ?_⟩
  rw [nI_clamp (n := r) (by omega), hQ.len hr4]
  have one : ∀ r' : Nat, r' ≤ 3 → nI r = nI r' → r' = r := fun r' h1 h2 => nI_inj h2.symm (by omega) (by omega)
  rcases hRw r hr4 with w | ⟨n, hn, w⟩
  · rw [w]
    exact ⟨fun _ => none (fun r' h1 h2 n' i' h3 h4 h5 => by rw [one r' h1 h2, w] at h3; exact absurd h3.symm (nI_neg1 (by omega))), fun q => absurd m1 q⟩
  · rw [w]
    refine ⟨fun le => none (fun r' h1 h2 n' i' h3 h4 h5 h6 => ?_), fun lt => ?_⟩
    · rw [one r' h1 h2, w] at h3
      have e1 : n = n' := nI_inj h3 (by omega) (by omega)
      have e2 : i = i' := nI_inj h6 (by omega) (by omega)
      exact nI_ge (a := i) (b := n) (by omega) (by omega) le
    · have hin : i < n := Nat.not_le.mp (fun q => lt (nI_le q (by omega)))
      refine ⟨fun q => absurd q (nI_ge (a := i) (b := 20) (by omega) (by omega)), fun _ => ?_⟩
      rw [ix20, nI_clamp (n := 20 * r + i) (by omega)]
      refine ⟨vp_in_nI (by omega) (by omega), ?_⟩
      unfold wp_X12_item
      refine mr_in (k := 3) (by decide) (by omega) (fun q => absurd rfl (q r (by omega))) (fun r' h1 h2 => ⟨fun q => absurd q (by decide), fun _ => ⟨vp_in_nI hr4 (by omega), ?_⟩⟩)
      rw [nI_clamp (n := r) (by omega), ix20, nI_clamp (n := 20 * r + i) (by omega)]
      refine sp_in0 (n := n) (by omega) (by rw [w]) (fun q => absurd rfl (z_out (B := n) (by omega) q i hin)) (fun i' _ _ => ⟨fun q => absurd q (by decide), fun _ => ⟨vp_in_nI (by omega) (by omega), (hQ.2.1.2 r hr4).2 n i w hn hin⟩⟩)
theorem xq_keep {S : CST} {Sm : MST} {a b : Int32} (hQ : FR1 S Sm) : wp_X11_keep S a b (fun S' r => wp_X12_keep Sm a b (fun Sm' r' => FR1 S' Sm' ∧ r = r')) := by
  unfold wp_X11_keep
  have bad : (∀ x : Nat, x ≤ 7 → ¬ a = nI x) → wp_X12_keep Sm a b (fun Sm' r' => FR1 S Sm' ∧ (-2147483648 : Int32) = r') := fun hb => by
    unfold wp_X12_keep
    exact mr_in (k := 7) (by decide) (by omega) (fun _ => ⟨fun q => absurd rfl q, fun _ => ⟨hQ, rfl⟩⟩) (fun x hx e => absurd e (hb x hx))
  refine ⟨fun c => bad (fun x hx e => (in_cases hx (by omega)).1 (by rw [← e]; exact c)), fun c => ⟨fun c8 => ?_, fun c8 => bad (fun x hx e => c8 (by rw [e]; exact (in_cases hx (by omega)).2.1))⟩⟩
  obtain ⟨x, rfl, hx⟩ := nI_ofc c
  have hx8 : x < 8 := Nat.not_le.mp (fun q => absurd c8 (Int32.not_lt.mpr (nI_le (a := 8) q (by omega))))
  refine xr_fval hx8 (xr_fput hx8 ?_)
  unfold wp_X12_keep
  refine mr_in (k := 7) (by decide) (by omega) (fun q => absurd rfl (q x (by omega))) (fun _ _ _ => ⟨fun _ => ⟨vp_in_nI hx8 (by omega), vp_in_nI hx8 (by omega), ?_⟩, fun q => absurd q (by decide)⟩)
  rintro _ rfl
  rw [nI_clamp (n := x) (by omega)]
  have e : Ex [40] S (cs S 40 0 (upd (cv S 40 0) x b)) := Ex.cs (by decide) Ex.rf
  have em : Fm [12] Sm (ms Sm 12 (upd (Sm 12) x b)) := Fm.put rfl rfl Fm.rf
  obtain ⟨h1, h2, h3⟩ := id hQ
  refine ⟨⟨h1.ex e rfl em rfl, h2.field hx8 (cs_s _ _ _ _) (cs_c (by decide)) (cs_c (by decide)) (ms_s _ _ _) (ms_n _ _ (by decide)) (ms_n _ _ (by decide)), h3⟩, h2.1 x hx8⟩
theorem xq_lose {S : CST} {Sm : MST} {a : Int32} (hQ : FR1 S Sm) : wp_X11_lose S a (fun S' r => wp_X12_lose Sm a (fun Sm' r' => FR1 S' Sm' ∧ r = r')) := by
  unfold wp_X11_lose
  have bad : (∀ x : Nat, x ≤ 3 → ¬ a = nI x) → wp_X12_lose Sm a (fun Sm' r' => FR1 S Sm' ∧ (-2 : Int32) = r') := fun hb => by
    unfold wp_X12_lose
    exact mr_in (k := 3) (by decide) (by omega) (fun _ => ⟨fun q => absurd rfl q, fun _ => ⟨hQ, rfl⟩⟩) (fun x hx e => absurd e (hb x hx))
  refine ⟨fun c => bad (fun x hx e => (in_cases hx (by omega)).1 (by rw [← e]; exact c)), fun c => ⟨fun c8 => ?_, fun c8 => bad (fun x hx e => c8 (by rw [e]; exact (in_cases hx (by omega)).2.1))⟩⟩
  obtain ⟨x, rfl, hx⟩ := nI_ofc c
  have hx4 : x < 4 := Nat.not_le.mp (fun q => absurd c8 (Int32.not_lt.mpr (nI_le (a := 4) q (by omega))))
  refine xr_lengthOf hx4 (xr_renew hx4 (by decide) (by decide) (fun S' e h50 h60 => ?_))
  unfold wp_X12_lose
  refine mr_in (k := 3) (by decide) (by omega) (fun q => absurd rfl (q x (by omega))) (fun _ _ _ => ⟨fun _ => ⟨vp_in_nI hx4 (by omega), vp_in_nI hx4 (by omega), ?_⟩, fun q => absurd q (by decide)⟩)
  rintro _ rfl
  rw [nI_clamp (n := x) (by omega)]
  have em : Fm [13] Sm (ms Sm 13 (upd (Sm 13) x (-1))) := Fm.put rfl rfl Fm.rf
  obtain ⟨h1, h2, t1, t2, t3, t4, t5, t6, t7⟩ := id hQ
  refine ⟨⟨h1.ex e rfl em rfl, ⟨fun f hf => by rw [e.2 40 rfl, ms_n _ _ (by decide)]; exact h2.1 f hf, fun r hr => ?_⟩, by rw [e.2 200 rfl, ms_n _ _ (by decide)]; exact t1, by rw [ms_n _ _ (by decide)]; exact t2, by rw [e.2 202 rfl, ms_n _ _ (by decide)]; exact t3, by rw [e.2 203 rfl, ms_n _ _ (by decide)]; exact t4, by rw [e.2 204 rfl, ms_n _ _ (by decide)]; exact t5, by rw [e.2 205 rfl, ms_n _ _ (by decide)]; exact t6, fun t ht => by rw [e.2 210 rfl, ms_n _ _ (by decide)]; exact t7 t ht⟩, hQ.len hx4⟩
  rw [h50, ms_s]
  by_cases w : r = x
  · rw [w, upd_s, upd_s]
    exact ⟨rfl, fun n i hn hn2 hi => absurd hn.symm (nI_neg1 (by omega))⟩
  · rw [upd_n _ _ w, upd_n _ _ w]
    refine ⟨(h2.2 r hr).1, fun n i hn hn2 hi => ?_⟩
    rw [h60 _ (by omega), if_neg (by omega), ms_n _ _ (by decide)]
    exact (h2.2 r hr).2 n i hn hn2 hi
