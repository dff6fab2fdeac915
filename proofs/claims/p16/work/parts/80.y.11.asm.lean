/-! WHAT IS ASSUMED, AND WHAT IS A TARGET, in class and reference -/
/-- some INSTRUCTION that is not DEAD has this op and X -/
def Us (n : Nat) (op : Nat → Nat) (xs dp : Nat → Int32) (o : Nat) (x : Int32) : Prop := ∃ i : Nat, i < n ∧ ¬ dp i = -1 ∧ op i = o ∧ xs i = x
noncomputable def pB (p : Prop) : Bool := @decide p (Classical.propDecidable p)
theorem pB_t {p : Prop} (h : p) : pB p = true := @decide_eq_true p (Classical.propDecidable p) h
theorem pB_f {p : Prop} (h : ¬ p) : pB p = false := @decide_eq_false p (Classical.propDecidable p) h
theorem of_pB {p : Prop} (h : pB p = true) : p := @of_decide_eq_true p (Classical.propDecidable p) h
theorem bI_t {p : Prop} (h : p) : bI (pB p) = 1 := by rw [pB_t h]; rfl
theorem bI_f {p : Prop} (h : ¬ p) : bI (pB p) = 0 := by rw [pB_f h]; rfl
def asP (lk vr : Nat → Int32) (ax n : Nat) (op : Nat → Nat) (xs dp : Nat → Int32) (t : Nat) : Prop := ¬ lk t = 0 ∧ vr t = 0 ∧ (t < 3 → t < ax ∧ Us n op xs dp 1 (nI t) ∧ ¬ Us n op xs dp 2 (nI t)) ∧ (¬ t < 3 → Us n op xs dp 13 (nI (t - 3)) ∧ ¬ Us n op xs dp 14 (nI (t - 3)))
noncomputable def asB (lk vr : Nat → Int32) (ax n : Nat) (op : Nat → Nat) (xs dp : Nat → Int32) (t : Nat) : Bool := pB (asP lk vr ax n op xs dp t)
def tgP (n : Nat) (op : Nat → Nat) (xs dp : Nat → Int32) (i : Nat) : Prop := i = 0 ∨ Us n op xs dp 9 (nI i) ∨ Us n op xs dp 10 (nI i)
noncomputable def tgB (n : Nat) (op : Nat → Nat) (xs dp : Nat → Int32) (i : Nat) : Bool := pB (tgP n op xs dp i)
theorem xg_uses_3 {S : CST} {y n o : Nat} {x : Int32} {op : Nat → Nat} {xs dp : Nat → Int32} {K0 K1 : Prop} {Post : Int32 → Prop} (hP : PrC S y n op xs dp) (ho : o < 20) (h1 : Us n op xs dp o x → K1) (h0 : ¬ Us n op xs dp o x → K0) : ∀ (k j : Nat), j + k = n → (∀ i : Nat, i < j → ¬ (¬ dp i = -1 ∧ op i = o ∧ xs i = x)) → wl_X9_uses_3 S K0 K1 Post (k + 1) y (nI o) x (nI j) := by
  obtain ⟨hy, hl, hn60, hp⟩ := hP
  have c24 : cin S 24 y := cin_24 rfl hy
  intro k
  induction k with
  | zero =>
    intro j hj hz
    unfold wl_X9_uses_3
    obtain rfl : j = n := by omega
    rw [hl]
    exact ⟨c24, fun _ => h0 (fun ⟨i, hi, q⟩ => hz i hi q), fun c => absurd (nI_le (Nat.le_refl _) (by omega)) c⟩
  | succ k ih =>
    intro j hj hz
    have hjn : j < n := by omega
    obtain ⟨p1, p2, p3, p4⟩ := hp j hjn
    have go : ¬ (¬ dp j = -1 ∧ op j = o ∧ xs j = x) → wl_X9_uses_3 S K0 K1 Post (k + 1) y (nI o) x (nI (j + 1)) := fun q => ih (j + 1) (by omega) (fun i hi => by
      by_cases w : i = j
      · rw [w]; exact q
      · exact hz i (by omega))
    unfold wl_X9_uses_3
    rw [hl, nI_1]
    refine ⟨c24, fun c => absurd c (nI_ge hjn (by omega)), fun _ => ⟨c24, xp_X8_opAt hy hl hn60 hjn ?_⟩⟩
    rw [p2]
    refine ⟨fun c => go (fun q => c (by rw [q.2.1])), fun c => ⟨c24, xp_X8_xAt hy hl hn60 hjn ?_⟩⟩
    have eo : op j = o := nI_inj c (by omega) (by omega)
    rw [p3]
    refine ⟨fun c2 => go (fun q => c2 q.2.2), fun c2 => ⟨c24, xp_X8_isDead hy hl hn60 hjn (fun d => ⟨fun _ => go (fun q => q.1 (p4.symm.trans d)), fun q => absurd q (by decide)⟩) (fun d => ⟨fun q => absurd rfl q, fun _ => h1 ⟨j, hjn, fun w => d (p4.trans w), eo, c2⟩⟩)⟩⟩
theorem xg_uses {S : CST} {y n o : Nat} {x : Int32} {op : Nat → Nat} {xs dp : Nat → Int32} {Post : Int32 → Prop} (hP : PrC S y n op xs dp) (ho : o < 20) (h1 : Us n op xs dp o x → Post 1) (h0 : ¬ Us n op xs dp o x → Post 0) : wp_X9_uses S y (nI o) x Post := by
  unfold wp_X9_uses
  exact ⟨n + 1, xg_uses_3 hP ho h1 h0 n 0 (by omega) (fun i hi => absurd hi (by omega))⟩
theorem xg_wasAlways {S : CST} {y t c : Nat} {Post : Int32 → Prop} (hy : y < cnP S) (ht : t < 11) (hc : cv S 282 y 0 = nI c) (hc1 : 1 ≤ c) (hc2 : c < 2 ^ 31) (h1 : ¬ cv S 300 y t = 0 → cv S 310 y t = 0 → Post 1) (h0 : (cv S 300 y t = 0 ∨ ¬ cv S 310 y t = 0) → Post 0) : wp_X5_wasAlways S y (nI t) Post := by
  unfold wp_X5_wasAlways
  rw [hc, nI_clamp (n := t) (by omega)]
  exact ⟨cin_28 rfl hy, fun q => absurd (show nI c ≤ nI 0 from q) (nI_ge hc1 (by omega)), fun _ => ⟨fun q => absurd q (nI_nn t (by omega)), fun _ => ⟨fun q => absurd q (nI_ge (b := 11) ht (by omega)), fun _ => ⟨cin_28 rfl hy, cin_30 rfl hy, vp_in_nI ht (by omega), fun q => h0 (Or.inl q), fun q => ⟨cin_28 rfl hy, cin_31 rfl hy, vp_in_nI ht (by omega), fun q2 => h0 (Or.inr q2), fun q2 => h1 q q2⟩⟩⟩⟩⟩
theorem xg_assume_2 {S0 : CST} {y n ax c : Nat} {lk vr : Nat → Int32} {op : Nat → Nat} {xs dp : Nat → Int32} {K Post : CST → Prop} (hP : PrC S0 y n op xs dp) (hax : cv S0 241 y 0 = nI ax) (hax3 : ax ≤ 3) (hc : cv S0 282 y 0 = nI c) (hc1 : 1 ≤ c) (hc2 : c < 2 ^ 31) (hlk : ∀ t : Nat, t < 11 → cv S0 300 y t = lk t) (hvr : ∀ t : Nat, t < 11 → cv S0 310 y t = vr t)
    (h : ∀ S' : CST, Ex [190] S0 S' → (∀ t : Nat, t < 11 → cv S' 190 0 t = bI (asB lk vr ax n op xs dp t)) → K S') : ∀ (k j : Nat) (S : CST), j + k = 11 → Ex [190] S0 S → (∀ t : Nat, t < j → cv S 190 0 t = bI (asB lk vr ax n op xs dp t)) → wl_X9_assume_2 K Post (k + 1) S y (nI j) := by
  intro k
  induction k with
  | zero =>
    intro j S hj hE hz
    unfold wl_X9_assume_2
    obtain rfl : j = 11 := by omega
    exact ⟨fun _ => h S hE hz, fun q => absurd (show (11 : Int32) ≤ nI 11 by decide) q⟩
  | succ k ih =>
    intro j S hj hE hz
    have hPS := hP.ex hE rfl
    have hy := hPS.1
    have hj11 : j < 11 := by omega
    have c24 : cin S 24 y := cin_24 rfl hy
    have c28 : cin S 28 y := cin_28 rfl hy
    have set : ∀ b : Int32, b = bI (asB lk vr ax n op xs dp j) → vp_in (nI j) 11 ∧ ∀ S9 : CST, S9 = cs S 190 0 (upd (cv S 190 0) j b) → wl_X9_assume_2 K Post (k + 1) S9 y (nI (j + 1)) := fun b hb => ⟨vp_in_nI hj11 (by omega), fun S9 e9 => ih (j + 1) S9 (by omega) (by rw [e9]; exact Ex.cs (by decide) hE) (fun t ht => by
      rw [e9, cs_s]
      by_cases w : t = j
      · rw [w, upd_s, hb]
      · rw [upd_n _ _ w]; exact hz t (by omega))⟩
    have no : ¬ asP lk vr ax n op xs dp j → vp_in (nI j) 11 ∧ ∀ S9 : CST, S9 = cs S 190 0 (upd (cv S 190 0) j 0) → wl_X9_assume_2 K Post (k + 1) S9 y (nI (j + 1)) := fun q => set 0 (bI_f q).symm
    have yes : asP lk vr ax n op xs dp j → vp_in (nI j) 11 ∧ ∀ S9 : CST, S9 = cs S 190 0 (upd (cv S 190 0) j 1) → wl_X9_assume_2 K Post (k + 1) S9 y (nI (j + 1)) := fun q => set 1 (bI_t q).symm
    have e300 : cv S 300 y j = lk j := by rw [hE.2 300 rfl]; exact hlk j hj11
    have e310 : cv S 310 y j = vr j := by rw [hE.2 310 rfl]; exact hvr j hj11
    have e282 : cv S 282 y 0 = nI c := by rw [hE.2 282 rfl]; exact hc
    unfold wl_X9_assume_2
    rw [hE.2 241 rfl, hax, nI_1, nI_clamp (n := j) (by omega), vn_1, vn_0]
    refine ⟨fun q => absurd q (nI_ge (b := 11) hj11 (by omega)), fun _ => ⟨fun q3 => ⟨c24, c28, ?_⟩, fun q3 => ⟨c24, fun qa => no (fun w => ?_), fun qa => ⟨c24, c28, ?_⟩⟩⟩⟩
    · have j3 : 3 ≤ j := Nat.not_lt.mp (fun q => nI_ge (b := 3) q (by omega) q3)
      rw [show nI j - 3 = nI (j - 3) from nI_sub (b := 3) j3]
      refine xg_wasAlways hy hj11 e282 hc1 hc2 (fun a b => ⟨fun q => absurd q (by decide), fun _ => ?_⟩) (fun a => ⟨fun _ => no (fun w => ?_), fun q => absurd rfl q⟩)
      · refine xg_uses (o := 13) hPS (by decide) (fun u1 => ⟨fun q => absurd q (by decide), fun _ => ?_⟩) (fun u1 => ⟨fun _ => no (fun w => u1 (w.2.2.2 (by omega)).1), fun q => absurd rfl q⟩)
        exact xg_uses (o := 14) hPS (by decide) (fun u2 => ⟨fun _ => no (fun w => (w.2.2.2 (by omega)).2 u2), fun q => absurd q (by decide)⟩) (fun u2 => ⟨fun q => absurd rfl q, fun _ => yes ⟨by rw [← e300]; exact a, by rw [← e310]; exact b, fun q => absurd q (by omega), fun _ => ⟨u1, u2⟩⟩⟩)
      · rcases a with a | a
        · exact w.1 (by rw [← e300]; exact a)
        · exact a (by rw [e310]; exact w.2.1)
    · have j3 : j < 3 := Nat.not_le.mp (fun q => q3 (nI_le (a := 3) q (by omega)))
      have := (w.2.2.1 j3).1
      exact nI_ge this (by omega) qa
    · have j3 : j < 3 := Nat.not_le.mp (fun q => q3 (nI_le (a := 3) q (by omega)))
      have ja : j < ax := Nat.not_le.mp (fun q => qa (nI_le q (by omega)))
      refine xg_wasAlways hy hj11 e282 hc1 hc2 (fun a b => ⟨fun q => absurd q (by decide), fun _ => ?_⟩) (fun a => ⟨fun _ => no (fun w => ?_), fun q => absurd rfl q⟩)
      · refine xg_uses (o := 1) hPS (by decide) (fun u1 => ⟨fun q => absurd q (by decide), fun _ => ?_⟩) (fun u1 => ⟨fun _ => no (fun w => u1 (w.2.2.1 j3).2.1), fun q => absurd rfl q⟩)
        exact xg_uses (o := 2) hPS (by decide) (fun u2 => ⟨fun _ => no (fun w => (w.2.2.1 j3).2.2 u2), fun q => absurd q (by decide)⟩) (fun u2 => ⟨fun q => absurd rfl q, fun _ => yes ⟨by rw [← e300]; exact a, by rw [← e310]; exact b, fun _ => ⟨ja, u1, u2⟩, fun q => absurd j3 q⟩⟩)
      · rcases a with a | a
        · exact w.1 (by rw [← e300]; exact a)
        · exact a (by rw [e310]; exact w.2.1)
theorem xg_ft_23 {S0 : CST} {y n : Nat} {op : Nat → Nat} {xs dp : Nat → Int32} {K Post : CST → Prop} (hP : PrC S0 y n op xs dp) (h : ∀ S' : CST, Ex [180] S0 S' → (∀ i : Nat, 0 < i → i < 60 → cv S' 180 0 i = bI (tgB n op xs dp i)) → K S') : ∀ (k j : Nat) (S : CST), j + k = n → Ex [180] S0 S → (∀ i : Nat, i < 60 → (cv S 180 0 i = 1 ∧ ∃ t : Nat, t < j ∧ ¬ dp t = -1 ∧ (op t = 9 ∨ op t = 10) ∧ xs t = nI i) ∨ (cv S 180 0 i = 0 ∧ ¬ ∃ t : Nat, t < j ∧ ¬ dp t = -1 ∧ (op t = 9 ∨ op t = 10) ∧ xs t = nI i)) → wl_X9_findTargets_23 K Post (k + 1) S y (nI j) := by
  have hn60 := hP.2.2.1
  intro k
  induction k with
  | zero =>
    intro j S hj hE hz
    have hPS := hP.ex hE rfl
    unfold wl_X9_findTargets_23
    obtain rfl : j = n := by omega
    rw [hPS.2.1]
    refine ⟨cin_24 rfl hPS.1, fun _ => h S hE (fun i hi0 hi => ?_), fun c => absurd (nI_le (Nat.le_refl _) (by omega)) c⟩
    have e : tgP j op xs dp i ↔ ∃ t : Nat, t < j ∧ ¬ dp t = -1 ∧ (op t = 9 ∨ op t = 10) ∧ xs t = nI i := ⟨fun w => by
      rcases w with w | ⟨t, a, b, c, d⟩ | ⟨t, a, b, c, d⟩
      · omega
      · exact ⟨t, a, b, Or.inl c, d⟩
      · exact ⟨t, a, b, Or.inr c, d⟩, fun ⟨t, a, b, c, d⟩ => c.elim (fun c => Or.inr (Or.inl ⟨t, a, b, c, d⟩)) (fun c => Or.inr (Or.inr ⟨t, a, b, c, d⟩))⟩
    rcases hz i hi with ⟨a, b⟩ | ⟨a, b⟩
    · rw [a]; exact (bI_t (e.mpr b)).symm
    · rw [a]; exact (bI_f (fun w => b (e.mp w))).symm
  | succ k ih =>
    intro j S hj hE hz
    have hPS := hP.ex hE rfl
    obtain ⟨hy, hl, _, hp⟩ := id hPS
    have hjn : j < n := by omega
    obtain ⟨p1, p2, p3, p4⟩ := hp j hjn
    have c24 : cin S 24 y := cin_24 rfl hy
    have skip : (∀ i : Nat, i < 60 → ¬ (¬ dp j = -1 ∧ (op j = 9 ∨ op j = 10) ∧ xs j = nI i)) → wl_X9_findTargets_23 K Post (k + 1) S y (nI (j + 1)) := fun q => ih (j + 1) S (by omega) hE (fun i hi => by
      rcases hz i hi with ⟨a, t, b, c⟩ | ⟨a, b⟩
      · exact Or.inl ⟨a, t, by omega, c⟩
      · refine Or.inr ⟨a, fun ⟨t, c, d⟩ => ?_⟩
        by_cases w : t = j
        · rw [w] at d; exact q i hi d
        · exact b ⟨t, by omega, d⟩)
    have jump : (op j = 9 ∨ op j = 10) → wp_X8_isDead S y (nI j) (fun r9 => ((¬ ((r9 : Int32) = 0)) → (wl_X9_findTargets_23 K Post (k + 1) S y (nI (j + 1)))) ∧ (((r9 : Int32) = 0) → ((((xs j : Int32) < 0) → (wl_X9_findTargets_23 K Post (k + 1) S y (nI (j + 1)))) ∧ ((¬ ((xs j : Int32) < 0)) → (((60 ≤ xs j) → (wl_X9_findTargets_23 K Post (k + 1) S y (nI (j + 1)))) ∧ ((¬ (60 ≤ xs j)) → (vp_in (xs j) 60 ∧ (∀ S15 : CST, S15 = cs S 180 0 (upd (cv S 180 0) (xs j : Int32).toNatClampNeg 1) → (wl_X9_findTargets_23 K Post (k + 1) S15 y (nI (j + 1))))))))))) := fun ho => by
      refine xp_X8_isDead hy hl hn60 hjn (fun d => ⟨fun _ => skip (fun i hi q => q.1 (p4.symm.trans d)), fun q => absurd q (by decide)⟩) (fun d => ⟨fun q => absurd rfl q, fun _ => ⟨fun c => skip (fun i hi q => nI_nn i (by omega) (by rw [← q.2.2]; exact c)), fun c => ⟨fun c2 => skip (fun i hi q => nI_ge (b := 60) hi (by omega) (by rw [← q.2.2]; exact c2)), fun c2 => ?_⟩⟩⟩)
      obtain ⟨x, ex, hx⟩ := nI_ofc c
      have hx60 : x < 60 := Nat.not_le.mp (fun q => c2 (by rw [ex]; exact nI_le (a := 60) q (by omega)))
      rw [ex, nI_clamp (n := x) (by omega)]
      refine ⟨vp_in_nI hx60 (by omega), fun S15 e15 => ih (j + 1) S15 (by omega) (by rw [e15]; exact Ex.cs (by decide) hE) (fun i hi => ?_)⟩
      rw [e15, cs_s]
      by_cases w : i = x
      · rw [w, upd_s]
        exact Or.inl ⟨rfl, j, by omega, fun q => d (p4.trans q), ho, ex⟩
      · rw [upd_n _ _ w]
        rcases hz i hi with ⟨a, t, b, c⟩ | ⟨a, b⟩
        · exact Or.inl ⟨a, t, by omega, c⟩
        · refine Or.inr ⟨a, fun ⟨t, c, d⟩ => ?_⟩
          by_cases w2 : t = j
          · rw [w2] at d; exact w (nI_inj (d.2.2.symm.trans ex) (by omega) (by omega))
          · exact b ⟨t, by omega, d⟩
    unfold wl_X9_findTargets_23
    rw [hl, nI_1, vn_1]
    refine ⟨c24, fun c => absurd c (nI_ge hjn (by omega)), fun _ => ⟨c24, xp_X8_opAt hy hl hn60 hjn ⟨c24, xp_X8_xAt hy hl hn60 hjn ?_⟩⟩⟩
    rw [p2, p3]
    refine ⟨fun c => ⟨c24, jump (Or.inl (nI_inj (b := 9) c (by omega) (by omega)))⟩, fun c => ⟨fun c2 => skip (fun i hi q => ?_), fun c2 => ⟨c24, jump (Or.inr (nI_inj (b := 10) c2 (by omega) (by omega)))⟩⟩⟩
    rcases q.2.1 with w | w
    · exact c (by rw [w]; rfl)
    · exact c2 (by rw [w]; rfl)
theorem xg_ft_2 {S0 : CST} {y : Nat} {K : CST → Nat → Prop} {Post : CST → Prop} (h : ∀ S' : CST, Ex [180] S0 S' → (∀ i : Nat, i < 60 → cv S' 180 0 i = 0) → K S' y) : ∀ (k r : Nat) (S : CST), r + k = 60 → Ex [180] S0 S → (∀ q : Nat, q < r → cv S 180 0 q = 0) → wl_X9_findTargets_2 K Post (k + 1) S y (nI r) := by
  intro k
  induction k with
  | zero =>
    intro r S hr hE hz
    unfold wl_X9_findTargets_2
    obtain rfl : r = 60 := by omega
    exact ⟨fun _ => h S hE hz, fun c => absurd (show (60 : Int32) ≤ nI 60 by decide) c⟩
  | succ k ih =>
    intro r S hr hE hz
    unfold wl_X9_findTargets_2
    rw [nI_1, nI_clamp (n := r) (by omega), vn_0]
    refine ⟨fun c => absurd c (nI_ge (b := 60) (by omega) (by omega)), fun _ => ⟨vp_in_nI (by omega) (by omega), fun S12 e12 => ih (r + 1) S12 (by omega) (by rw [e12]; exact Ex.cs (by decide) hE) (fun q hq => ?_)⟩⟩
    rw [e12, cs_s]
    by_cases w : q = r
    · rw [w, upd_s]
    · rw [upd_n _ _ w]; exact hz q (by omega)
theorem xg_findTargets {S : CST} {y n : Nat} {op : Nat → Nat} {xs dp : Nat → Int32} {Post : CST → Prop} (hP : PrC S y n op xs dp) (h : ∀ S' : CST, Ex [180] S S' → (∀ i : Nat, 0 < i → i < 60 → cv S' 180 0 i = bI (tgB n op xs dp i)) → Post S') : wp_X9_findTargets S y Post := by
  unfold wp_X9_findTargets
  exact ⟨61, xg_ft_2 (S0 := S) (fun S21 hE hz => ⟨n + 1, xg_ft_23 hP h n 0 S21 (by omega) hE (fun i hi => Or.inr ⟨hz i hi, fun ⟨t, a, _⟩ => absurd a (by omega)⟩)⟩) 60 0 S (by omega) Ex.rf (fun q hq => absurd hq (by omega))⟩
theorem xg_assume {S : CST} {y n ax c : Nat} {lk vr : Nat → Int32} {op : Nat → Nat} {xs dp : Nat → Int32} {Post : CST → Prop} (hP : PrC S y n op xs dp) (hax : cv S 241 y 0 = nI ax) (hax3 : ax ≤ 3) (hc : cv S 282 y 0 = nI c) (hc1 : 1 ≤ c) (hc2 : c < 2 ^ 31) (hlk : ∀ t : Nat, t < 11 → cv S 300 y t = lk t) (hvr : ∀ t : Nat, t < 11 → cv S 310 y t = vr t)
    (h : ∀ S' : CST, Ex [190] S S' → (∀ t : Nat, t < 11 → cv S' 190 0 t = bI (asB lk vr ax n op xs dp t)) → Post S') : wp_X9_assume S y Post := by
  unfold wp_X9_assume
  exact ⟨12, xg_assume_2 hP hax hax3 hc hc1 hc2 hlk hvr h 11 0 S (by omega) Ex.rf (fun t ht => absurd ht (by omega))⟩
/-! .. in the reference -/
theorem mg_has_6 {S : MST} {m n o : Nat} {x : Int32} {op : Nat → Nat} {xs dp : Nat → Int32} {K Post : Int32 → Prop} (hP : PrM S m n op xs dp) (hdp : ∀ i : Nat, i < n → dp i = -1 ∨ ∃ d : Nat, d ≤ 8 ∧ dp i = nI d) (ho : o < 20) (h1 : Us n op xs dp o x → K 1) (h0 : ¬ Us n op xs dp o x → K 0) : ∀ (k j : Nat) (r : Int32), j + k = n → (r = 1 ∧ Us n op xs dp o x ∨ r = 0 ∧ ∀ i : Nat, i < j → ¬ (¬ dp i = -1 ∧ op i = o ∧ xs i = x)) → wl_X12_has_6 S K Post (k + 1) (nI m) (nI o) x r (nI j) := by
  obtain ⟨hm, hl, hn60, hp⟩ := hP
  have v8 : vp_in (nI m) 8 := vp_in_nI hm (by omega)
  intro k
  induction k with
  | zero =>
    intro j r hj hz
    unfold wl_X12_has_6
    obtain rfl : j = n := by omega
    rw [nI_clamp (n := m) (by omega), hl]
    refine ⟨v8, fun _ => ?_, fun c => absurd (nI_le (Nat.le_refl _) (by omega)) c⟩
    rcases hz with ⟨rfl, w⟩ | ⟨rfl, w⟩
    · exact h1 w
    · exact h0 (fun ⟨i, hi, q⟩ => w i hi q)
  | succ k ih =>
    intro j r hj hz
    have hjn : j < n := by omega
    obtain ⟨p1, p2, p3, p4⟩ := hp j hjn
    have v480 : vp_in (nI (60 * m + j)) 480 := vp_in_nI (by omega) (by omega)
    unfold wl_X12_has_6
    rw [nI_clamp (n := m) (by omega), hl, nI_1, ix60, nI_clamp (n := 60 * m + j) (by omega), p2, p3, p4]
    refine ⟨v8, fun c => absurd c (nI_ge hjn (by omega)), fun _ => ⟨fun c => ?_, fun c => ?_⟩⟩
    · rcases hz with ⟨_, w⟩ | ⟨e, _⟩
      · exact ih (j + 1) 1 (by omega) (Or.inl ⟨rfl, w⟩)
      · exact absurd e c
    · have hz := (hz.resolve_left (fun w => by rw [w.1] at c; exact absurd c (by decide))).2
      have go : ¬ (¬ dp j = -1 ∧ op j = o ∧ xs j = x) → wl_X12_has_6 S K Post (k + 1) (nI m) (nI o) x 0 (nI (j + 1)) := fun q => ih (j + 1) 0 (by omega) (Or.inr ⟨rfl, fun i hi => by
        by_cases w : i = j
        · rw [w]; exact q
        · exact hz i (by omega)⟩)
      refine ⟨v480, fun c1 => go (fun q => ?_), fun c1 => ⟨v480, fun c2 => go (fun q => c2 (by rw [q.2.1])), fun c2 => ⟨v480, fun c3 => go (fun q => c3 q.2.2), fun c3 => ih (j + 1) 1 (by omega) (Or.inl ⟨rfl, j, hjn, fun w => c1 (by rw [w]; decide), nI_inj c2 (by omega) (by omega), c3⟩)⟩⟩⟩
      obtain ⟨d, hd8, hd⟩ := (hdp j hjn).resolve_left q.1
      rw [hd] at c1
      exact nI_nn d (by omega) c1
theorem mg_has {S : MST} {m n o : Nat} {x : Int32} {op : Nat → Nat} {xs dp : Nat → Int32} {Post : Int32 → Prop} (hP : PrM S m n op xs dp) (hdp : ∀ i : Nat, i < n → dp i = -1 ∨ ∃ d : Nat, d ≤ 8 ∧ dp i = nI d) (ho : o < 20) (h1 : Us n op xs dp o x → Post 1) (h0 : ¬ Us n op xs dp o x → Post 0) : wp_X12_has S (nI m) (nI o) x Post := by
  unfold wp_X12_has
  exact ⟨n + 1, mg_has_6 hP hdp ho (fun q => ⟨Or.inr rfl, h1 q⟩) (fun q => ⟨Or.inl rfl, h0 q⟩) n 0 0 (by omega) (Or.inr ⟨rfl, fun i hi => absurd hi (by omega)⟩)⟩
theorem mg_isTarget {S : MST} {m n i : Nat} {op : Nat → Nat} {xs dp : Nat → Int32} {Post : Int32 → Prop} (hP : PrM S m n op xs dp) (hdp : ∀ i : Nat, i < n → dp i = -1 ∨ ∃ d : Nat, d ≤ 8 ∧ dp i = nI d) (h1 : tgP n op xs dp i → Post 1) (h0 : (¬ i = 0 → ¬ tgP n op xs dp i) → Post 0) : wp_X12_isTarget S (nI m) (nI i) Post := by
  unfold wp_X12_isTarget
  refine mg_has (o := 9) hP hdp (by decide) (fun q => ⟨fun _ => h1 (Or.inr (Or.inl q)), fun w => absurd w (by decide)⟩) (fun q => ⟨fun w => absurd rfl w, fun _ => mg_has (o := 10) hP hdp (by decide) (fun q2 => ⟨fun w => absurd w (by decide), fun _ => h1 (Or.inr (Or.inr q2))⟩) (fun q2 => ⟨fun _ => h0 (fun n0 w => w.elim n0 (fun w => w.elim q q2)), fun w => absurd rfl w⟩)⟩)
theorem mg_assumes_2 {S0 : MST} {m n ax : Nat} {lk vr : Nat → Int32} {op : Nat → Nat} {xs dp : Nat → Int32} {K Post : MST → Prop} (hP : PrM S0 m n op xs dp) (hdp : ∀ i : Nat, i < n → dp i = -1 ∨ ∃ d : Nat, d ≤ 8 ∧ dp i = nI d) (hax : S0 1 m = nI ax) (hax3 : ax ≤ 3) (hlk : ∀ t : Nat, t < 11 → S0 21 (11 * m + t) = lk t) (hvr : ∀ t : Nat, t < 11 → S0 22 (11 * m + t) = vr t)
    (h : ∀ S' : MST, Fm [30] S0 S' → (∀ t : Nat, t < 11 → S' 30 t = bI (asB lk vr ax n op xs dp t)) → K S') : ∀ (k j : Nat) (S : MST), j + k = 11 → Fm [30] S0 S → (∀ t : Nat, t < j → S 30 t = bI (asB lk vr ax n op xs dp t)) → wl_X12_assumes_2 K Post (k + 1) S (nI m) (nI j) := by
  have hm := hP.1
  intro k
  induction k with
  | zero =>
    intro j S hj hE hz
    unfold wl_X12_assumes_2
    obtain rfl : j = 11 := by omega
    exact ⟨fun _ => h S hE hz, fun q => absurd (show (11 : Int32) ≤ nI 11 by decide) q⟩
  | succ k ih =>
    intro j S hj hE hz
    have hPS := hP.fm hE rfl
    have hj11 : j < 11 := by omega
    have v8 : vp_in (nI m) 8 := vp_in_nI hm (by omega)
    have v88 : vp_in (nI (11 * m + j)) 88 := vp_in_nI (by omega) (by omega)
    have set : ∀ b : Int32, b = bI (asB lk vr ax n op xs dp j) → vp_in (nI j) 11 ∧ ∀ S9 : MST, S9 = ms S 30 (upd (S 30) j b) → wl_X12_assumes_2 K Post (k + 1) S9 (nI m) (nI (j + 1)) := fun b hb => ⟨vp_in_nI hj11 (by omega), fun S9 e9 => ih (j + 1) S9 (by omega) (Fm.put e9 rfl hE) (fun t ht => by
      rw [e9, ms_s]
      by_cases w : t = j
      · rw [w, upd_s, hb]
      · rw [upd_n _ _ w]; exact hz t (by omega))⟩
    have no : ¬ asP lk vr ax n op xs dp j → vp_in (nI j) 11 ∧ ∀ S9 : MST, S9 = ms S 30 (upd (S 30) j 0) → wl_X12_assumes_2 K Post (k + 1) S9 (nI m) (nI (j + 1)) := fun q => set 0 (bI_f q).symm
    have yes : asP lk vr ax n op xs dp j → vp_in (nI j) 11 ∧ ∀ S9 : MST, S9 = ms S 30 (upd (S 30) j 1) → wl_X12_assumes_2 K Post (k + 1) S9 (nI m) (nI (j + 1)) := fun q => set 1 (bI_t q).symm
    have e21 : S 21 (11 * m + j) = lk j := by rw [hE 21 rfl]; exact hlk j hj11
    have e22 : S 22 (11 * m + j) = vr j := by rw [hE 22 rfl]; exact hvr j hj11
    unfold wl_X12_assumes_2
    rw [nI_clamp (n := m) (by omega), hE 1 rfl, hax, nI_1, nI_clamp (n := j) (by omega), ix11, nI_clamp (n := 11 * m + j) (by omega), e21, e22, vn_1, vn_0]
    refine ⟨fun q => absurd q (nI_ge (b := 11) hj11 (by omega)), fun _ => ⟨fun q3 => ?_, fun q3 => ⟨v8, fun qa => no (fun w => ?_), fun qa => ?_⟩⟩⟩
    · have j3 : 3 ≤ j := Nat.not_lt.mp (fun q => nI_ge (b := 3) q (by omega) q3)
      rw [show nI j - 3 = nI (j - 3) from nI_sub (b := 3) j3]
      refine mg_has (o := 13) hPS hdp (by decide) (fun u1 => ⟨fun q => absurd q (by decide), fun _ => ?_⟩) (fun u1 => ⟨fun _ => no (fun w => u1 (w.2.2.2 (by omega)).1), fun q => absurd rfl q⟩)
      exact mg_has (o := 14) hPS hdp (by decide) (fun u2 => ⟨fun _ => no (fun w => (w.2.2.2 (by omega)).2 u2), fun q => absurd q (by decide)⟩) (fun u2 => ⟨fun q => absurd rfl q, fun _ => ⟨v88, fun c => no (fun w => c w.2.1), fun c => ⟨v88, fun c2 => no (fun w => w.1 c2), fun c2 => yes ⟨c2, c, fun q => absurd q (by omega), fun _ => ⟨u1, u2⟩⟩⟩⟩⟩)
    · have j3 : j < 3 := Nat.not_le.mp (fun q => q3 (nI_le (a := 3) q (by omega)))
      have := (w.2.2.1 j3).1
      exact nI_ge this (by omega) qa
    · have j3 : j < 3 := Nat.not_le.mp (fun q => q3 (nI_le (a := 3) q (by omega)))
      have ja : j < ax := Nat.not_le.mp (fun q => qa (nI_le q (by omega)))
      refine mg_has (o := 1) hPS hdp (by decide) (fun u1 => ⟨fun q => absurd q (by decide), fun _ => ?_⟩) (fun u1 => ⟨fun _ => no (fun w => u1 (w.2.2.1 j3).2.1), fun q => absurd rfl q⟩)
      exact mg_has (o := 2) hPS hdp (by decide) (fun u2 => ⟨fun _ => no (fun w => (w.2.2.1 j3).2.2 u2), fun q => absurd q (by decide)⟩) (fun u2 => ⟨fun q => absurd rfl q, fun _ => ⟨v88, fun c => no (fun w => c w.2.1), fun c => ⟨v88, fun c2 => no (fun w => w.1 c2), fun c2 => yes ⟨c2, c, fun _ => ⟨ja, u1, u2⟩, fun q => absurd j3 q⟩⟩⟩⟩)
theorem mg_assumes {S : MST} {m n ax : Nat} {lk vr : Nat → Int32} {op : Nat → Nat} {xs dp : Nat → Int32} {Post : MST → Prop} (hP : PrM S m n op xs dp) (hdp : ∀ i : Nat, i < n → dp i = -1 ∨ ∃ d : Nat, d ≤ 8 ∧ dp i = nI d) (hax : S 1 m = nI ax) (hax3 : ax ≤ 3) (hlk : ∀ t : Nat, t < 11 → S 21 (11 * m + t) = lk t) (hvr : ∀ t : Nat, t < 11 → S 22 (11 * m + t) = vr t)
    (h : ∀ S' : MST, Fm [30] S S' → (∀ t : Nat, t < 11 → S' 30 t = bI (asB lk vr ax n op xs dp t)) → Post S') : wp_X12_assumes S (nI m) Post := by
  unfold wp_X12_assumes
  exact ⟨12, mg_assumes_2 hP hdp hax hax3 hlk hvr h 11 0 S (by omega) Fm.rf (fun t ht => absurd ht (by omega))⟩
