/-! THE CLASS's run keeps the invariant -/
theorem gd_tailN {Z : CST} {i1 : Nat} {T : Nat × Nat} {Post : CST → Prop} (hT : Z.2 = T) (hi : i1 < 16) (hJ : J Z) (h221 : ¬ cv Z 221 i1 0 < 0) (hC : (cv Z 221 i1 0).toNatClampNeg < T.2) (hp : ∀ S' : CST, S'.2 = T → J S' → Post S') : cin Z 22 i1 ∧ (cin Z 22 i1 ∧ (((cv Z 221 i1 0) < 0) → (False)) ∧ ((¬ ((cv Z 221 i1 0) < 0)) → (cin Z 32 (((cv Z 221 i1 0) : Int32).toNatClampNeg) ∧ ((((cv Z 321 (((cv Z 221 i1 0) : Int32).toNatClampNeg) 0) < (cv Z 222 i1 0)) → (cin Z 22 i1 ∧ (∀ S26 : CST, S26 = cs Z 221 i1 (fun _ => (-1)) → (cin S26 22 i1 ∧ (∀ S28 : CST, S28 = cs S26 222 i1 (fun _ => 0) → (Post S28)))))) ∧ ((¬ ((cv Z 321 (((cv Z 221 i1 0) : Int32).toNatClampNeg) 0) < (cv Z 222 i1 0))) → (cin Z 22 i1 ∧ (∀ S30 : CST, S30 = cs Z 221 i1 (fun _ => (-1)) → (cin S30 22 i1 ∧ (∀ S32 : CST, S32 = cs S30 222 i1 (fun _ => 0) → (Post S32)))))))))) := by
  have fin : ∀ S1 : CST, S1 = cs Z 221 i1 (fun _ => (-1)) → cin S1 22 i1 ∧ (∀ S2 : CST, S2 = cs S1 222 i1 (fun _ => 0) → Post S2) := by
    rintro _ rfl
    refine ⟨cin_22 hi, ?_⟩
    rintro _ rfl
    exact hp _ hT (J_cs (J.code hJ hi (Or.inl (by decide)) (fun c => absurd (by decide) c)) rfl)
  exact ⟨cin_22 hi, cin_22 hi, fun c => absurd c h221, fun _ => ⟨cin_32 hT hC, fun _ => ⟨cin_22 hi, fin⟩, fun _ => ⟨cin_22 hi, fin⟩⟩⟩
theorem gd_tailP {Z : CST} {i1 : Nat} {a4 x : Int32} {T : Nat × Nat} {Post : CST → Prop} (hT : Z.2 = T) (hi : i1 < 16) (hJ : J Z) (h221 : ¬ cv Z 221 i1 0 < 0) (hC : (cv Z 221 i1 0).toNatClampNeg < T.2) (hx0 : ¬ x < 0) (hx : x.toNatClampNeg < T.2) (hm : cv Z 320 x.toNatClampNeg 0 = 0) (hp : ∀ S' : CST, S'.2 = T → J S' → Post S') : cin Z 22 i1 ∧ (cin Z 22 i1 ∧ (((cv Z 221 i1 0) < 0) → (False)) ∧ ((¬ ((cv Z 221 i1 0) < 0)) → (cin Z 32 (((cv Z 221 i1 0) : Int32).toNatClampNeg) ∧ ((((cv Z 321 (((cv Z 221 i1 0) : Int32).toNatClampNeg) 0) < (cv Z 222 i1 0)) → (cin Z 22 i1 ∧ (∀ S83 : CST, S83 = cs Z 221 i1 (fun _ => x) → (cin S83 32 ((x : Int32).toNatClampNeg) ∧ (wp_X1_startOf S83 ((x : Int32).toNatClampNeg) (a4 + 1) (fun r85 => cin S83 22 i1 ∧ (∀ S87 : CST, S87 = cs S83 222 i1 (fun _ => r85) → (Post S87)))))))) ∧ ((¬ ((cv Z 321 (((cv Z 221 i1 0) : Int32).toNatClampNeg) 0) < (cv Z 222 i1 0))) → (cin Z 22 i1 ∧ (∀ S89 : CST, S89 = cs Z 221 i1 (fun _ => x) → (cin S89 22 i1 ∧ (∀ S91 : CST, S91 = cs S89 222 i1 (fun _ => 0) → (Post S91)))))))))) := by
  have hJ1 : J (cs Z 221 i1 (fun _ => x)) := J.code hJ hi (Or.inr (by rw [hT]; exact hx)) (fun _ _ => Or.inl hm)
  refine ⟨cin_22 hi, cin_22 hi, fun c => absurd c h221, fun _ => ⟨cin_32 hT hC, fun _ => ⟨cin_22 hi, ?_⟩, fun _ => ⟨cin_22 hi, ?_⟩⟩⟩
  · rintro _ rfl
    refine ⟨cin_32 (T := T) hT hx, sp_X1_startOf (T := T) hT hx ((hJ1.2.2.2.2.1 _ (by show _ < Z.2.2; rw [hT]; exact hx)).1) (fun r => ⟨cin_22 hi, ?_⟩)⟩
    rintro _ rfl
    exact hp _ hT (J_cs hJ1 rfl)
  · rintro _ rfl
    refine ⟨cin_22 hi, ?_⟩
    rintro _ rfl
    exact hp _ hT (J_cs hJ1 rfl)
theorem gd_thr {Z : CST} {i1 y c t : Nat} (hJ : J Z) (hi : i1 < 16) (hy : y = (cv Z 220 i1 0).toNatClampNeg) (hyP : y < Z.2.1) (hc : c = (cv Z 221 i1 0).toNatClampNeg) (h220 : ¬ cv Z 220 i1 0 < 0) (h221 : ¬ cv Z 221 i1 0 < 0) (h280 : ¬ cv Z 280 y 0 = 0) (he : cv Z 283 y 0 = cv Z 320 c 0) (ht : t < 11) (hg : GdC Z c t) (hv : ¬ cv Z 310 y t = 0) : ∀ M : Nat, cv Z 283 y 0 = nI M → M ≤ 12 → M ≤ vC Z y := by
  intro M hM hM12
  obtain ⟨M0, m1, m2, m3, m4, m5, m6⟩ := hJ.2.2.2.2.2.1 y hyP
  obtain rfl : M0 = M := nI_inj (m1.symm.trans hM) (by omega) (by omega)
  obtain ⟨n1, n2, g, n3, n4⟩ := m4 h280
  have hlat : cv Z 281 y 0 = cv Z 221 i1 0 := by
    rcases hJ.2.2.2.2.2.2.1 i1 hi h220 h221 with q | q | q
    · rw [← hc, ← he, m1] at q
      exact absurd (nI_inj (b := 0) q (by omega) (by omega)) (by omega)
    · rw [← hc, ← hy, ← he] at q
      omega
    · rw [← hy] at q; exact q
  have hgt : g t = false := by
    cases q : g t with
    | false => rfl
    | true => exact absurd (by rw [hlat, ← hc]; exact hg) (n3 t ht q).2
  have hlt : sN (fun t => if g t = true then 1 else 0) 11 < vC Z y := by
    refine sN_lt 11 (fun u hu => ?_) t ht ?_
    · show (if g u = true then 1 else 0) ≤ (if cv Z 310 y u = 0 then 0 else 1)
      by_cases q : g u = true
      · rw [if_pos q, if_neg (n3 u hu q).1]; exact Nat.le_refl _
      · rw [if_neg q]; exact Nat.zero_le _
    · show (if g t = true then 1 else 0) < (if cv Z 310 y t = 0 then 0 else 1)
      rw [hgt, if_neg hv, if_neg (by decide)]; exact Nat.lt_succ_self 0
  omega
theorem GdC.ex {L : List Nat} {S S' : CST} {c t : Nat} (h : GdC S c t) (e : Ex L S S') (hL : (L.contains 330 || L.contains 339) = false) : GdC S' c t := by
  have h1 : L.contains 330 = false := by cases hc : L.contains 330 <;> simp_all
  have h2 : L.contains 339 = false := by cases hc : L.contains 339 <;> simp_all
  unfold GdC
  simp only [e.2 330 h1, e.2 339 h2]
  exact h
theorem sp_X7_guard {S : CST} {i1 : Nat} {a2 a3 a4 : Int32} {T : Nat × Nat} {Post : CST → Prop} (hT : S.2 = T) (hi : i1 < 16) (hJ : J S) (hF : FrV S i1 T) (h221 : ¬ cv S 221 i1 0 < 0) (hC : (cv S 221 i1 0).toNatClampNeg < T.2) (hth : ∃ t : Nat, t < 11 ∧ a2 = nI t ∧ GdC S (cv S 221 i1 0).toNatClampNeg t) (hp : ∀ S' : CST, S'.2 = T → J S' → Post S') : wp_X7_guard S i1 a2 a3 a4 Post := by
  obtain ⟨t, ht, hta, hg⟩ := hth
  obtain ⟨y, hy⟩ : ∃ z, z = (cv S 220 i1 0).toNatClampNeg := ⟨_, rfl⟩
  have hyT : y < T.1 := by rw [hy]; exact hF.2
  have hyS : y < S.2.1 := by rw [hT]; exact hyT
  have hpl := (hJ.pr hyS).1
  have hpm : ¬ cv S 249 y 0 < 0 → cv S 320 (cv S 249 y 0).toNatClampNeg 0 = 0 := by
    obtain ⟨M, -, -, -, -, -, m6⟩ := hJ.2.2.2.2.2.1 y hyS
    exact m6
  -- the midst: counted, marked, perhaps thrown away
  have mid : ∀ (S12 : CST), S12 = cs S 204 0 (fun _ => cv S 204 0 0 + 1) → ∀ (S15 : CST), S15 = cs S12 284 y (fun _ => cv S12 284 y 0 + 1) → S15.2 = T ∧ J S15 ∧ Ex [204, 284] S S15 := by
    intro S12 e12 S15 e15
    refine ⟨by rw [e15, e12]; exact hT, by rw [e15, e12]; exact J_cs (J_cs hJ rfl) rfl, by rw [e15, e12]; exact Ex.cs (by decide) (Ex.cs (by decide) Ex.rf)⟩
  unfold wp_X7_guard
  rw [← hy]
  refine ⟨fun _ => ⟨cin_22 hi, fun c => absurd c hF.1, fun _ => ⟨cin_24 hT hyT, cin_22 hi, fun c => absurd c hF.1, fun _ => ⟨cin_24 hT hyT, fun cn => ?_, fun cn => ?_⟩⟩⟩, fun _ => hp S hT hJ⟩
  · intro S12 e12
    refine ⟨cin_28 (T := T) (by rw [e12]; exact hT) hyT, cin_28 (T := T) (by rw [e12]; exact hT) hyT, fun S15 e15 => ?_⟩
    obtain ⟨hT15, hJ15, hE15⟩ := mid S12 e12 S15 e15
    refine ⟨cin_28 hT15 hyT, sp_X5_markVarying hT15 hyT (fun S17 hT17 e17 hm hmt => ?_)⟩
    have hJ17 : J S17 := hJ15.mark e17 hm
    have e221 : cv S17 221 = cv S 221 := (e17.2 221 rfl).trans (hE15.2 221 rfl)
    have e220 : cv S17 220 = cv S 220 := (e17.2 220 rfl).trans (hE15.2 220 rfl)
    have e320 : cv S17 320 = cv S 320 := (e17.2 320 rfl).trans (hE15.2 320 rfl)
    have h221' : ¬ cv S17 221 i1 0 < 0 := by rw [e221]; exact h221
    have hC' : (cv S17 221 i1 0).toNatClampNeg < T.2 := by rw [e221]; exact hC
    have hg17 : GdC S17 (cv S17 221 i1 0).toNatClampNeg t := by rw [e221]; exact (hg.ex hE15 rfl).ex e17 rfl
    refine ⟨cin_28 hT17 hyT, fun _ => gd_tailN hT17 hi hJ17 h221' hC' hp, fun c280 => ⟨cin_28 hT17 hyT, cin_22 hi, fun c => absurd c h221', fun _ => ⟨cin_32 hT17 hC', fun _ => gd_tailN hT17 hi hJ17 h221' hC' hp, fun cm => ⟨cin_28 hT17 hyT, sp_X5_throwAway hT17 hyT (fun S52 hT52 e52 ho hz => ?_)⟩⟩⟩⟩
    have hJ52 : J S52 := hJ17.throw e52 ho (gd_thr hJ17 hi (by rw [e220]; exact hy) (by rw [hT17]; exact hyT) rfl (by rw [e220]; exact hF.1) h221' c280 cm ht hg17 (hmt t ht hta)) hz
    have e320b : cv S52 320 = cv S 320 := (e52.2 320 rfl).trans e320
    exact gd_tailN hT52 hi hJ52 (by rw [e52.2 221 rfl]; exact h221') (by rw [e52.2 221 rfl]; exact hC') hp
  · intro S12 e12
    refine ⟨cin_28 (T := T) (by rw [e12]; exact hT) hyT, cin_28 (T := T) (by rw [e12]; exact hT) hyT, fun S15 e15 => ?_⟩
    obtain ⟨hT15, hJ15, hE15⟩ := mid S12 e12 S15 e15
    refine ⟨cin_28 hT15 hyT, sp_X5_markVarying hT15 hyT (fun S17 hT17 e17 hm hmt => ?_)⟩
    have hJ17 : J S17 := hJ15.mark e17 hm
    have e221 : cv S17 221 = cv S 221 := (e17.2 221 rfl).trans (hE15.2 221 rfl)
    have e220 : cv S17 220 = cv S 220 := (e17.2 220 rfl).trans (hE15.2 220 rfl)
    have e320 : cv S17 320 = cv S 320 := (e17.2 320 rfl).trans (hE15.2 320 rfl)
    have h221' : ¬ cv S17 221 i1 0 < 0 := by rw [e221]; exact h221
    have hC' : (cv S17 221 i1 0).toNatClampNeg < T.2 := by rw [e221]; exact hC
    have hg17 : GdC S17 (cv S17 221 i1 0).toNatClampNeg t := by rw [e221]; exact (hg.ex hE15 rfl).ex e17 rfl
    refine ⟨cin_28 hT17 hyT, fun _ => gd_tailP hT17 hi hJ17 h221' hC' cn (by rw [← hT]; exact vid_lt hpl cn) (by rw [e320]; exact hpm cn) hp, fun c280 => ⟨cin_28 hT17 hyT, cin_22 hi, fun c => absurd c h221', fun _ => ⟨cin_32 hT17 hC', fun _ => gd_tailP hT17 hi hJ17 h221' hC' cn (by rw [← hT]; exact vid_lt hpl cn) (by rw [e320]; exact hpm cn) hp, fun cm => ⟨cin_28 hT17 hyT, sp_X5_throwAway hT17 hyT (fun S52 hT52 e52 ho hz => ?_)⟩⟩⟩⟩
    have hJ52 : J S52 := hJ17.throw e52 ho (gd_thr hJ17 hi (by rw [e220]; exact hy) (by rw [hT17]; exact hyT) rfl (by rw [e220]; exact hF.1) h221' c280 cm ht hg17 (hmt t ht hta)) hz
    have e320b : cv S52 320 = cv S 320 := (e52.2 320 rfl).trans e320
    exact gd_tailP hT52 hi hJ52 (by rw [e52.2 221 rfl]; exact h221') (by rw [e52.2 221 rfl]; exact hC') cn (by rw [← hT]; exact vid_lt hpl cn) (by rw [e320b]; exact hpm cn) hp
