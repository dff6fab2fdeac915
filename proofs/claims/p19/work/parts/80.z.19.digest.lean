/-! BOTH between calls: the digest -/
/-- mixing in f j, f (j + 1) .., k of them -/
def mxF (f : Nat → Int32) : Nat → Nat → Int64 → Int64
  | 0, _, x => x
  | k + 1, j, x => mxF f k (j + 1) ((31 * x) + (f j : Int32).toInt64)
theorem mxF_congr {f g : Nat → Int32} : ∀ (k j : Nat) (x : Int64), (∀ t : Nat, j ≤ t → t < j + k → f t = g t) → mxF f k j x = mxF g k j x := by
  intro k
  induction k with
  | zero => intro j x _; rfl
  | succ k ih =>
    intro j x h
    show mxF f k (j + 1) ((31 * x) + (f j : Int32).toInt64) = mxF g k (j + 1) ((31 * x) + (g j : Int32).toInt64)
    rw [h j (Nat.le_refl _) (by omega)]
    exact ih (j + 1) _ (fun t a b => h t (by omega) (by omega))
theorem mxF_add {f : Nat → Int32} {b : Nat} : ∀ (a j : Nat) (x : Int64), mxF f (a + b) j x = mxF f b (j + a) (mxF f a j x) := by
  intro a
  induction a with
  | zero => intro j x; rw [Nat.zero_add]; rfl
  | succ a ih =>
    intro j x
    rw [show a + 1 + b = (a + b) + 1 by omega]
    show mxF f (a + b) (j + 1) ((31 * x) + (f j : Int32).toInt64) = mxF f b (j + (a + 1)) (mxF f a (j + 1) ((31 * x) + (f j : Int32).toInt64))
    rw [ih, show j + 1 + a = j + (a + 1) by omega]
/-- mixing in rows of five -/
def ptF (g : Nat → Nat → Int32) : Nat → Nat → Int64 → Int64
  | 0, _, x => x
  | k + 1, p, x => ptF g k (p + 1) (mxF (g p) 5 0 x)
theorem ptF_eq {f : Nat → Int32} {g : Nat → Nat → Int32} : ∀ (k p : Nat) (x : Int64), (∀ t q : Nat, p ≤ t → t < p + k → q < 5 → f (5 * t + q) = g t q) → mxF f (5 * k) (5 * p) x = ptF g k p x := by
  intro k
  induction k with
  | zero => intro p x _; rfl
  | succ k ih =>
    intro p x h
    rw [show 5 * (k + 1) = 5 + 5 * k by omega, mxF_add, show 5 * p + 5 = 5 * (p + 1) by omega, ih (p + 1) _ (fun t q a b c => h t q (by omega) (by omega) c)]
    show ptF g k (p + 1) (mxF f 5 (5 * p) x) = ptF g k (p + 1) (mxF (g p) 5 0 x)
    have e : mxF f 5 (5 * p) x = mxF (fun q => f (5 * p + q)) 5 0 x := rfl
    rw [e, mxF_congr 5 0 x (fun t _ b => h p t (Nat.le_refl _) (by omega) (by omega))]
/-- the ROWS: length and items -/
def rwF (len : Nat → Int32) (it : Nat → Int32) : Nat → Nat → Int64 → Int64
  | 0, _, x => x
  | k + 1, r, x => rwF len it k (r + 1) (mxF (fun i => it (20 * r + i)) (len r).toNatClampNeg 0 ((31 * x) + (len r : Int32).toInt64))
/-- what is told of METHOD y -/
def ofV (Sm : MST) (y w : Nat) : Int32 := if w = 0 then (if Sm 15 y = 0 then 0 else 1) else if w = 1 then Sm 16 y else if w = 2 then Sm 17 y else if w = 3 then Sm 18 y else if w = 4 then Sm 19 y else (if Sm 17 y = 0 then 0 else Sm 23 (12 * y + ((Sm 17 y).toNatClampNeg - 1)))
/-- .. and of its latest CODE -/
def cdV (Sm : MST) (y p q : Nat) : Int32 := Sm (25 + q) (640 * (12 * y + ((Sm 17 y).toNatClampNeg - 1)) + p)
def meF (Sm : MST) : Nat → Nat → Int64 → Int64
  | 0, _, x => x
  | k + 1, y, x => meF Sm k (y + 1) (ptF (cdV Sm y) (ofV Sm y 5).toNatClampNeg 0 (mxF (ofV Sm y) 6 0 x))
def dgV (Sm : MST) (P : Nat) : Int64 := meF Sm P 0 (mxF (Sm 50) 4 0 ((31 * rwF (Sm 13) (Sm 14) 4 0 (mxF (Sm 12) 8 0 17)) + (Sm 49 0 : Int32).toInt64))
/-! .. in the class -/
theorem xd_2 {S : CST} {f : Nat → Int32} {K Post : Int64 → Prop} (h : ∀ t : Nat, t < 8 → cv S 40 0 t = f t) : ∀ (k j : Nat) (x : Int64), j + k = 8 → K (mxF f k j x) → wl_X2_mixedInto_2 S K Post (k + 1) x (nI j) := by
  intro k
  induction k with
  | zero =>
    intro j x hj hK
    unfold wl_X2_mixedInto_2
    obtain rfl : j = 8 := by omega
    exact ⟨fun _ => hK, fun c => absurd (show (8 : Int32) ≤ nI 8 by decide) c⟩
  | succ k ih =>
    intro j x hj hK
    unfold wl_X2_mixedInto_2
    rw [nI_1]
    refine ⟨fun c => absurd c (nI_ge (a := j) (b := 8) (by omega) (by omega)), fun _ => xr_fval (by omega) (ih (j + 1) _ (by omega) ?_)⟩
    rw [h j (by omega)]
    exact hK
theorem xd_50 {S : CST} {f : Nat → Int32} {r n : Nat} {K : Int64 → Int32 → Prop} {Post : Int64 → Prop} (hr : r < 4) (hl : cv S 50 0 r = nI n) (hn : n ≤ 20) (h : ∀ i : Nat, i < n → cv S 60 0 (20 * r + i) = f i) : ∀ (k j : Nat) (x : Int64), j + k = n → K (mxF f k j x) (nI r) → wl_X2_mixedInto_50 S K Post (k + 1) x (nI r) (nI j) := by
  intro k
  induction k with
  | zero =>
    intro j x hj hK
    unfold wl_X2_mixedInto_50
    refine xr_lengthOf hr ?_
    rw [hl]
    exact ⟨fun _ => hK, fun c => absurd (nI_le (by omega) (by omega)) c⟩
  | succ k ih =>
    intro j x hj hK
    unfold wl_X2_mixedInto_50
    refine xr_lengthOf hr ?_
    rw [hl, nI_1]
    refine ⟨fun c => absurd c (nI_ge (by omega) (by omega)), fun _ => xr_itemOf hr hl hn (by omega) (ih (j + 1) _ (by omega) ?_)⟩
    rw [h j (by omega)]
    exact hK
theorem xd_29 {S : CST} {Sm : MST} {K Post : Int64 → Prop} (hRw : rowN Sm) (hD : DaR S Sm) : ∀ (k j : Nat) (x : Int64), j + k = 4 → K (rwF (Sm 13) (Sm 14) k j x) → wl_X2_mixedInto_29 S K Post (k + 1) x (nI j) := by
  intro k
  induction k with
  | zero =>
    intro j x hj hK
    unfold wl_X2_mixedInto_29
    obtain rfl : j = 4 := by omega
    exact ⟨fun _ => hK, fun c => absurd (show (4 : Int32) ≤ nI 4 by decide) c⟩
  | succ k ih =>
    intro j x hj hK
    unfold wl_X2_mixedInto_29
    refine ⟨fun c => absurd c (nI_ge (a := j) (b := 4) (by omega) (by omega)), fun _ => xr_lengthOf (by omega) ?_⟩
    obtain ⟨d1, d2⟩ := hD.2 j (by omega)
    rw [d1]
    have hK' : K (rwF (Sm 13) (Sm 14) k (j + 1) (mxF (fun i => Sm 14 (20 * j + i)) (Sm 13 j).toNatClampNeg 0 ((31 * x) + (Sm 13 j : Int32).toInt64))) := hK
    rcases hRw j (by omega) with w | ⟨n, hn, w⟩
    · refine ⟨1, ?_⟩
      unfold wl_X2_mixedInto_50
      refine xr_lengthOf (by omega) ?_
      rw [d1, w]
      rw [w, show (-1 : Int32).toNatClampNeg = 0 by decide] at hK'
      refine ⟨fun _ => ?_, fun c => absurd (by decide) c⟩
      rw [nI_1]
      exact ih (j + 1) _ (by omega) hK'
    · refine ⟨n + 1, xd_50 (f := fun i => Sm 14 (20 * j + i)) (by omega) (d1.trans w) hn (fun i hi => d2 n i w hn hi) n 0 _ (by omega) ?_⟩
      rw [nI_1]
      refine ih (j + 1) _ (by omega) ?_
      rw [w] at hK' ⊢
      rw [nI_clamp (by omega)] at hK'
      exact hK'
theorem xd_14 {S : CST} {f : Nat → Int32} {K Post : Int64 → Prop} (h : ∀ t : Nat, t < 4 → cv S 210 0 t = f t) : ∀ (k j : Nat) (x : Int64), j + k = 4 → K (mxF f k j x) → wl_X10_mixedInto_14 S K Post (k + 1) x (nI j) := by
  intro k
  induction k with
  | zero =>
    intro j x hj hK
    unfold wl_X10_mixedInto_14
    obtain rfl : j = 4 := by omega
    exact ⟨fun _ => hK, fun c => absurd (show (4 : Int32) ≤ nI 4 by decide) c⟩
  | succ k ih =>
    intro j x hj hK
    unfold wl_X10_mixedInto_14
    rw [nI_1, nI_clamp (n := j) (by omega), h j (by omega)]
    exact ⟨fun c => absurd c (nI_ge (a := j) (b := 4) (by omega) (by omega)), fun _ => ⟨vp_in_nI (by omega) (by omega), ih (j + 1) _ (by omega) hK⟩⟩
/-- a METHOD's code number, in both -/
theorem FR1.numb {S : CST} {Sm : MST} {y k : Nat} (hk12 : k < 12) (h : Sm 17 y = nI (k + 1)) : (Sm 17 y).toNatClampNeg - 1 = k ∧ ¬ Sm 17 y = 0 := by
  rw [h, nI_clamp (by omega)]
  exact ⟨by omega, fun q => absurd (nI_inj (b := 0) q (by omega) (by omega)) (by omega)⟩
theorem xd_tellOf {S : CST} {Sm : MST} {y w : Nat} {Post : Int32 → Prop} (hJ : J S) (hM : MI Sm (cnP S)) (hQ : FR1 S Sm) (hy : y < cnP S) (hw : w < 6) (h : Post (ofV Sm y w)) : wp_X11_tellOf S y (nI w) Post := by
  obtain ⟨a1, a2, a3, a4, a5, a6, a7, a8, a9⟩ := hQ.1.2.2.2.1 y hy
  have c28 : cin S 28 y := cin_28 rfl hy
  have c24 : cin S 24 y := cin_24 rfl hy
  unfold wp_X11_tellOf
  rcases (show w = 0 ∨ w = 1 ∨ w = 2 ∨ w = 3 ∨ w = 4 ∨ w = 5 by omega) with rfl | rfl | rfl | rfl | rfl | rfl
  · have h' : Post (if Sm 15 y = 0 then 0 else 1) := h
    refine ⟨c24, fun c => absurd c (by decide), fun _ => ⟨c28, fun z => ?_, fun z => ?_⟩, fun c => absurd c (by decide), fun c => absurd c (by decide), fun c => absurd c (by decide), fun c => absurd c (by decide), fun c => absurd c (by decide), fun c => absurd c (by decide), fun c => absurd c (by decide)⟩
    · rw [a1] at z; rw [if_pos z] at h'; exact h'
    · rw [a1] at z; rw [if_neg z] at h'; exact h'
  · exact ⟨c24, fun c => absurd c (by decide), fun c => absurd c (by decide), fun _ => ⟨c28, by rw [a2]; exact h⟩, fun c => absurd c (by decide), fun c => absurd c (by decide), fun c => absurd c (by decide), fun c => absurd c (by decide), fun c => absurd c (by decide), fun c => absurd c (by decide)⟩
  · exact ⟨c24, fun c => absurd c (by decide), fun c => absurd c (by decide), fun c => absurd c (by decide), fun _ => ⟨c28, by rw [a3]; exact h⟩, fun c => absurd c (by decide), fun c => absurd c (by decide), fun c => absurd c (by decide), fun c => absurd c (by decide), fun c => absurd c (by decide)⟩
  · exact ⟨c24, fun c => absurd c (by decide), fun c => absurd c (by decide), fun c => absurd c (by decide), fun c => absurd c (by decide), fun _ => ⟨c28, by rw [a4]; exact h⟩, fun c => absurd c (by decide), fun c => absurd c (by decide), fun c => absurd c (by decide), fun c => absurd c (by decide)⟩
  · exact ⟨c24, fun c => absurd c (by decide), fun c => absurd c (by decide), fun c => absurd c (by decide), fun c => absurd c (by decide), fun c => absurd c (by decide), fun _ => ⟨c28, by rw [a5]; exact h⟩, fun c => absurd c (by decide), fun c => absurd c (by decide), fun c => absurd c (by decide)⟩
  · have h' : Post (if Sm 17 y = 0 then 0 else Sm 23 (12 * y + ((Sm 17 y).toNatClampNeg - 1))) := h
    have hJc := hJ.c31
    refine ⟨c24, fun c => absurd c (by decide), fun c => absurd c (by decide), fun c => absurd c (by decide), fun c => absurd c (by decide), fun c => absurd c (by decide), fun c => absurd c (by decide), fun _ => ⟨c28, fun z => ?_, fun z => ⟨c28, fun q => absurd q z, fun _ => ?_⟩⟩, fun c => absurd c (by decide), fun c => absurd c (by decide)⟩
    · rcases hQ.latest hM hy with ⟨w1, w2⟩ | ⟨k, c, N, hh, n, P, as, val, st, k12, e17, e281, hcc, hx⟩
      · rw [if_pos w1] at h'; exact h'
      · rw [e281] at z; exact absurd z (nI_nn c (by omega))
    · rcases hQ.latest hM hy with ⟨w1, w2⟩ | ⟨k, c, N, hh, n, P, as, val, st, k12, e17, e281, hcc, hx⟩
      · exact absurd w2 z
      · obtain ⟨n1, n2⟩ := FR1.numb (S := S) k12 e17
        rw [if_neg n2, n1, hx.2.2.2.2.2.2.2.1] at h'
        have hN := hx.2.2.2.1
        rw [e281, nI_clamp (n := c) (by omega)]
        exact ⟨cin_32 rfl hcc, xr_parts hcc hx.2.2.2.2.2.2.1.2.2.1 (by omega) h'⟩
theorem xd_mw2 {S : CST} {Sm : MST} {y : Nat} {K : Int64 → Nat → Prop} {Post : Int64 → Prop} (hJ : J S) (hM : MI Sm (cnP S)) (hQ : FR1 S Sm) (hy : y < cnP S) : ∀ (k j : Nat) (x : Int64), j + k = 6 → K (mxF (ofV Sm y) k j x) y → wl_X11_mixedWith_2 S K Post (k + 1) x y (nI j) := by
  intro k
  induction k with
  | zero =>
    intro j x hj hK
    unfold wl_X11_mixedWith_2
    obtain rfl : j = 6 := by omega
    exact ⟨fun _ => hK, fun c => absurd (show (5 : Int32) < nI 6 by decide) c⟩
  | succ k ih =>
    intro j x hj hK
    unfold wl_X11_mixedWith_2
    rw [nI_1]
    exact ⟨fun c => absurd c (Int32.not_lt.mpr (nI_le (b := 5) (by omega) (by omega))), fun _ => xd_tellOf hJ hM hQ hy (by omega) (ih (j + 1) _ (by omega) hK)⟩
theorem xd_code {S : CST} {c m : Nat} {K Post : Int64 → Prop} (hc : c < cnC S) (h339 : cv S 339 c 0 = nI m) (hm : m < 2 ^ 31) : ∀ (k j : Nat) (x : Int64), j + k = m → K (mxF (cv S 330 c) k j x) → wl_X1_mixedInto_2 S K Post (k + 1) c x (nI j) := by
  intro k
  induction k with
  | zero =>
    intro j x hj hK
    unfold wl_X1_mixedInto_2
    rw [h339]
    exact ⟨cin_32 rfl hc, cin_33 rfl hc, nI_nn _ hm, fun _ => hK, fun q => absurd (nI_le (by omega) (by omega)) q⟩
  | succ k ih =>
    intro j x hj hK
    unfold wl_X1_mixedInto_2
    rw [h339, nI_1, nI_clamp (n := j) (by omega), nI_clamp (n := m) hm]
    exact ⟨cin_32 rfl hc, cin_33 rfl hc, nI_nn _ hm, fun q => absurd q (nI_ge (by omega) (by omega)), fun _ => ⟨cin_32 rfl hc, cin_33 rfl hc, vp_in_nI (by omega) (by omega), ih (j + 1) _ (by omega) hK⟩⟩
theorem xd_mixedWith {S : CST} {Sm : MST} {y : Nat} {x : Int64} {Post : Int64 → Prop} (hJ : J S) (hM : MI Sm (cnP S)) (hQ : FR1 S Sm) (hy : y < cnP S) (h : Post (ptF (cdV Sm y) (ofV Sm y 5).toNatClampNeg 0 (mxF (ofV Sm y) 6 0 x))) : wp_X11_mixedWith S x y Post := by
  have hJc := hJ.c31
  have c28 : cin S 28 y := cin_28 rfl hy
  have c24 : cin S 24 y := cin_24 rfl hy
  have e5 : ofV Sm y 5 = (if Sm 17 y = 0 then 0 else Sm 23 (12 * y + ((Sm 17 y).toNatClampNeg - 1))) := rfl
  refine ⟨7, xd_mw2 hJ hM hQ hy 6 0 x (by omega) ?_⟩
  rcases hQ.latest hM hy with ⟨w1, w2⟩ | ⟨k, c, N, hh, n, P, as, val, st, k12, e17, e281, hcc, hx⟩
  · rw [e5, if_pos w1, show (0 : Int32).toNatClampNeg = 0 by decide] at h
    exact ⟨c24, c28, fun _ => h, fun q => absurd w2 q⟩
  · obtain ⟨n1, n2⟩ := FR1.numb (S := S) k12 e17
    have hN := hx.2.2.2.1
    obtain ⟨x1, x2, x3, x4, x5, x6, ⟨c1, c2, c3, c4, c5, c6⟩, m1, m2, m3⟩ := hx
    rw [e5, if_neg n2, n1, m1, nI_clamp (n := N) (by omega)] at h
    have nn : ¬ nI c < 0 := nI_nn c (by omega)
    rw [e281, nI_clamp (n := c) (by omega)]
    refine ⟨c24, c28, fun q => absurd q nn, fun _ => ⟨c24, c28, fun q => absurd q nn, fun _ => ⟨cin_32 rfl hcc, 5 * N + 1, xd_code hcc c3 (by omega) (5 * N) 0 _ (by omega) ?_⟩⟩⟩
    have key := ptF_eq (f := cv S 330 c) (g := cdV Sm y) N 0 (mxF (ofV Sm y) 6 0 x) (fun t q _ ht hq => by
      obtain ⟨r0, r1, r2, r3, r4⟩ := c5 t (by omega)
      obtain ⟨s0, s1, s2, s3, s4⟩ := m2 t (by omega)
      unfold cdV
      rw [n1]
      rcases (show q = 0 ∨ q = 1 ∨ q = 2 ∨ q = 3 ∨ q = 4 by omega) with rfl | rfl | rfl | rfl | rfl
      · exact r0.trans s0.symm
      · exact r1.trans s1.symm
      · exact r2.trans s2.symm
      · exact r3.trans s3.symm
      · exact r4.trans s4.symm)
    rw [show 5 * 0 = 0 from rfl] at key
    rw [key]; exact h
theorem xd_25 {S : CST} {Sm : MST} {K Post : Int64 → Prop} (hJ : J S) (hM : MI Sm (cnP S)) (hQ : FR1 S Sm) : ∀ (k j : Nat) (x : Int64), j + k = cnP S → K (meF Sm k j x) → wl_X11_digest_25 S K Post (k + 1) x (nI j) := by
  have h11 := hJ.2.1
  have hP8 := hJ.1
  intro k
  induction k with
  | zero =>
    intro j x hj hK
    unfold wl_X11_digest_25
    rw [h11]
    exact ⟨fun _ => hK, fun q => absurd (nI_le (by omega) (by omega)) q⟩
  | succ k ih =>
    intro j x hj hK
    unfold wl_X11_digest_25
    rw [h11, nI_1]
    refine ⟨fun q => absurd q (nI_ge (by omega) (by omega)), fun _ => xp_X0_at (BK.of hJ hQ.1.1) (fun y hy e => ⟨fun q => absurd q (nI_nn y (by omega)), fun _ => ?_⟩) (fun q => absurd rfl (q j (by omega)))⟩
    obtain rfl : j = y := nI_inj e (by omega) (by omega)
    rw [nI_clamp (by omega)]
    exact xd_mixedWith hJ hM hQ hy (ih (j + 1) _ (by omega) hK)
theorem xd_digest {S : CST} {Sm : MST} {Post : Int64 → Prop} (hJ : J S) (hM : MI Sm (cnP S)) (hQ : FR1 S Sm) (h : Post (dgV Sm (cnP S))) : wp_X11_digest S Post := by
  obtain ⟨t1, t2, t3, t4, t5, t6, t7⟩ := hQ.2.2
  refine ⟨9, xd_2 (f := Sm 12) hQ.2.1.1 8 0 17 (by omega) ⟨5, xd_29 hM.2.1 hQ.2.1 4 0 _ (by omega) ⟨5, ?_⟩⟩⟩
  rw [t6]
  exact xd_14 (f := Sm 50) t7 4 0 _ (by omega) ⟨cnP S + 1, xd_25 hJ hM hQ (cnP S) 0 _ (by omega) h⟩
/-! .. in the reference -/
theorem md_6 {Sm : MST} {K Post : Int64 → Prop} : ∀ (k j : Nat) (x : Int64), j + k = 8 → K (mxF (Sm 12) k j x) → wl_X12_digest_6 Sm K Post (k + 1) x (nI j) := by
  intro k
  induction k with
  | zero =>
    intro j x hj hK
    unfold wl_X12_digest_6
    obtain rfl : j = 8 := by omega
    exact ⟨fun _ => hK, fun c => absurd (show (8 : Int32) ≤ nI 8 by decide) c⟩
  | succ k ih =>
    intro j x hj hK
    unfold wl_X12_digest_6
    rw [nI_1, nI_clamp (n := j) (by omega)]
    exact ⟨fun c => absurd c (nI_ge (a := j) (b := 8) (by omega) (by omega)), fun _ => ⟨vp_in_nI (by omega) (by omega), ih (j + 1) _ (by omega) hK⟩⟩
theorem md_113 {Sm : MST} {K Post : Int64 → Prop} : ∀ (k j : Nat) (x : Int64), j + k = 4 → K (mxF (Sm 50) k j x) → wl_X12_digest_113 Sm K Post (k + 1) x (nI j) := by
  intro k
  induction k with
  | zero =>
    intro j x hj hK
    unfold wl_X12_digest_113
    obtain rfl : j = 4 := by omega
    exact ⟨fun _ => hK, fun c => absurd (show (4 : Int32) ≤ nI 4 by decide) c⟩
  | succ k ih =>
    intro j x hj hK
    unfold wl_X12_digest_113
    rw [nI_1, nI_clamp (n := j) (by omega)]
    exact ⟨fun c => absurd c (nI_ge (a := j) (b := 4) (by omega) (by omega)), fun _ => ⟨vp_in_nI (by omega) (by omega), ih (j + 1) _ (by omega) hK⟩⟩
theorem md_56 {Sm : MST} {r n : Nat} {K : Int64 → Int32 → Prop} {Post : Int64 → Prop} (hr : r < 4) (hl : Sm 13 r = nI n) (hn : n ≤ 20) : ∀ (k j : Nat) (x : Int64), j + k = n → K (mxF (fun i => Sm 14 (20 * r + i)) k j x) (nI r) → wl_X12_digest_56 Sm K Post (k + 1) x (nI r) (nI j) := by
  intro k
  induction k with
  | zero =>
    intro j x hj hK
    unfold wl_X12_digest_56
    rw [nI_clamp (n := r) (by omega), hl]
    exact ⟨vp_in_nI hr (by omega), fun _ => hK, fun c => absurd (nI_le (by omega) (by omega)) c⟩
  | succ k ih =>
    intro j x hj hK
    unfold wl_X12_digest_56
    rw [nI_clamp (n := r) (by omega), hl, nI_1, ix20, nI_clamp (n := 20 * r + j) (by omega)]
    exact ⟨vp_in_nI hr (by omega), fun c => absurd c (nI_ge (by omega) (by omega)), fun _ => ⟨vp_in_nI (by omega) (by omega), ih (j + 1) _ (by omega) hK⟩⟩
theorem md_34 {Sm : MST} {K Post : Int64 → Prop} (hRw : rowN Sm) : ∀ (k j : Nat) (x : Int64), j + k = 4 → K (rwF (Sm 13) (Sm 14) k j x) → wl_X12_digest_34 Sm K Post (k + 1) x (nI j) := by
  intro k
  induction k with
  | zero =>
    intro j x hj hK
    unfold wl_X12_digest_34
    obtain rfl : j = 4 := by omega
    exact ⟨fun _ => hK, fun c => absurd (show (4 : Int32) ≤ nI 4 by decide) c⟩
  | succ k ih =>
    intro j x hj hK
    unfold wl_X12_digest_34
    rw [nI_clamp (n := j) (by omega)]
    refine ⟨fun c => absurd c (nI_ge (a := j) (b := 4) (by omega) (by omega)), fun _ => ⟨vp_in_nI (by omega) (by omega), ?_⟩⟩
    have hK' : K (rwF (Sm 13) (Sm 14) k (j + 1) (mxF (fun i => Sm 14 (20 * j + i)) (Sm 13 j).toNatClampNeg 0 ((31 * x) + (Sm 13 j : Int32).toInt64))) := hK
    rcases hRw j (by omega) with w | ⟨n, hn, w⟩
    · refine ⟨1, ?_⟩
      unfold wl_X12_digest_56
      rw [nI_clamp (n := j) (by omega), w]
      rw [w, show (-1 : Int32).toNatClampNeg = 0 by decide] at hK'
      refine ⟨vp_in_nI (by omega) (by omega), fun _ => ?_, fun c => absurd (by decide) c⟩
      rw [nI_1]
      exact ih (j + 1) _ (by omega) hK'
    · refine ⟨n + 1, md_56 (by omega) w hn n 0 _ (by omega) ?_⟩
      rw [nI_1]
      refine ih (j + 1) _ (by omega) ?_
      rw [w] at hK' ⊢
      rw [nI_clamp (by omega)] at hK'
      exact hK'
theorem md_of {S : CST} {Sm : MST} {y w : Nat} {Post : Int32 → Prop} (hM : MI Sm (cnP S)) (hQ : FR1 S Sm) (hy : y < cnP S) (hw : w < 6) (h : Post (ofV Sm y w)) : wp_X12_of Sm (nI y) (nI w) Post := by
  have hM8 := hM.1.2.1
  have hM0 := hM.1.1
  have hc : (nI y).toNatClampNeg = y := nI_clamp (by omega)
  have v8 : vp_in (nI y) 8 := vp_in_nI (by omega) (by omega)
  unfold wp_X12_of
  refine mono_isMethod hM0 hM8 hy ⟨fun _ => ?_, fun q => absurd q (by decide)⟩
  rw [hc]
  rcases (show w = 0 ∨ w = 1 ∨ w = 2 ∨ w = 3 ∨ w = 4 ∨ w = 5 by omega) with rfl | rfl | rfl | rfl | rfl | rfl
  · have h' : Post (if Sm 15 y = 0 then 0 else 1) := h
    refine ⟨fun c => absurd c (by decide), fun _ => ⟨v8, fun z => ?_, fun z => ?_⟩, fun c => absurd c (by decide), fun c => absurd c (by decide), fun c => absurd c (by decide), fun c => absurd c (by decide), fun c => absurd c (by decide), fun c => absurd c (by decide), fun c => absurd c (by decide)⟩
    · rw [if_pos z] at h'; exact h'
    · rw [if_neg z] at h'; exact h'
  · exact ⟨fun c => absurd c (by decide), fun c => absurd c (by decide), fun _ => ⟨v8, h⟩, fun c => absurd c (by decide), fun c => absurd c (by decide), fun c => absurd c (by decide), fun c => absurd c (by decide), fun c => absurd c (by decide), fun c => absurd c (by decide)⟩
  · exact ⟨fun c => absurd c (by decide), fun c => absurd c (by decide), fun c => absurd c (by decide), fun _ => ⟨v8, h⟩, fun c => absurd c (by decide), fun c => absurd c (by decide), fun c => absurd c (by decide), fun c => absurd c (by decide), fun c => absurd c (by decide)⟩
  · exact ⟨fun c => absurd c (by decide), fun c => absurd c (by decide), fun c => absurd c (by decide), fun c => absurd c (by decide), fun _ => ⟨v8, h⟩, fun c => absurd c (by decide), fun c => absurd c (by decide), fun c => absurd c (by decide), fun c => absurd c (by decide)⟩
  · exact ⟨fun c => absurd c (by decide), fun c => absurd c (by decide), fun c => absurd c (by decide), fun c => absurd c (by decide), fun c => absurd c (by decide), fun _ => ⟨v8, h⟩, fun c => absurd c (by decide), fun c => absurd c (by decide), fun c => absurd c (by decide)⟩
  · have h' : Post (if Sm 17 y = 0 then 0 else Sm 23 (12 * y + ((Sm 17 y).toNatClampNeg - 1))) := h
    refine ⟨fun c => absurd c (by decide), fun c => absurd c (by decide), fun c => absurd c (by decide), fun c => absurd c (by decide), fun c => absurd c (by decide), fun c => absurd c (by decide), fun _ => mq_partsOf hM hQ hy (fun w1 _ => ?_) (fun k c N hh n P as val st k12 e17 e281 hcc hx => ?_), fun c => absurd c (by decide), fun c => absurd c (by decide)⟩
    · rw [if_pos w1] at h'; exact h'
    · obtain ⟨n1, n2⟩ := FR1.numb (S := S) k12 e17
      rw [if_neg n2, n1, hx.2.2.2.2.2.2.2.1] at h'
      exact h'
theorem md_151 {S : CST} {Sm : MST} {y : Nat} {K : Int64 → Int32 → Prop} {Post : Int64 → Prop} (hM : MI Sm (cnP S)) (hQ : FR1 S Sm) (hy : y < cnP S) : ∀ (k j : Nat) (x : Int64), j + k = 6 → K (mxF (ofV Sm y) k j x) (nI y) → wl_X12_digest_151 Sm K Post (k + 1) x (nI y) (nI j) := by
  intro k
  induction k with
  | zero =>
    intro j x hj hK
    unfold wl_X12_digest_151
    obtain rfl : j = 6 := by omega
    exact ⟨fun _ => hK, fun c => absurd (show (6 : Int32) ≤ nI 6 by decide) c⟩
  | succ k ih =>
    intro j x hj hK
    unfold wl_X12_digest_151
    rw [nI_1]
    exact ⟨fun c => absurd c (nI_ge (a := j) (b := 6) (by omega) (by omega)), fun _ => md_of hM hQ hy (by omega) (ih (j + 1) _ (by omega) hK)⟩
theorem md_part {S : CST} {Sm : MST} {y k c N h0 n p q : Nat} {P : Nat → T5} {as : Nat → Bool} {val : Nat → Int32} {st : Nat → Nat} {Post : Int32 → Prop} (hJ : J S) (hM : MI Sm (cnP S)) (hQ : FR1 S Sm) (hy : y < cnP S) (k12 : k < 12) (e17 : Sm 17 y = nI (k + 1)) (e281 : cv S 281 y 0 = nI c) (hcc : c < cnC S) (hx : CdX S Sm y k c N h0 n P as val st) (hp : p < N) (hq : q < 5) (h : Post (cdV Sm y p q)) : wp_X12_part_ Sm (nI y) (nI p) (nI q) Post := by
  have hM8 := hM.1.2.1
  have hM0 := hM.1.1
  have hJc := hJ.c31
  have hN := hx.2.2.2.1
  have m1 := hx.2.2.2.2.2.2.2.1
  obtain ⟨n1, n2⟩ := FR1.numb (S := S) k12 e17
  unfold cdV at h
  rw [n1] at h
  unfold wp_X12_part_
  refine mono_isMethod hM0 hM8 hy ⟨fun q => absurd q (by decide), fun _ => mq_partsOf hM hQ hy (fun w1 _ => absurd w1 n2) (fun k' c' N' hh' n' P' as' val' st' k12' e17' e281' hcc' hx' => ?_)⟩
  have e1 : k + 1 = k' + 1 := nI_inj (e17.symm.trans e17') (by omega) (by omega)
  obtain rfl : k = k' := by omega
  have hN' := hx'.2.2.2.1
  obtain rfl : N' = N := nI_inj (hx'.2.2.2.2.2.2.2.1.symm.trans m1) (by omega) (by omega)
  refine sp_in0 (n := N') (by omega) rfl (fun w => absurd rfl (z_out (B := N') (by omega) w p hp)) (fun p' hp' e => ⟨fun _ => mq_codeNow (by omega) e17 ?_, fun q => absurd q (by decide)⟩)
  rw [ix640, nI_clamp (n := 640 * (12 * y + k) + p) (by omega)]
  have vP : vp_in (nI (640 * (12 * y + k) + p)) 61440 := vp_in_nI (by omega) (by omega)
  rcases (show q = 0 ∨ q = 1 ∨ q = 2 ∨ q = 3 ∨ q = 4 by omega) with rfl | rfl | rfl | rfl | rfl
  · exact ⟨fun c => absurd c (by decide), fun _ => ⟨vP, h⟩, fun c => absurd c (by decide), fun c => absurd c (by decide), fun c => absurd c (by decide), fun c => absurd c (by decide)⟩
  · exact ⟨fun c => absurd c (by decide), fun c => absurd c (by decide), fun _ => ⟨vP, h⟩, fun c => absurd c (by decide), fun c => absurd c (by decide), fun c => absurd c (by decide)⟩
  · exact ⟨fun c => absurd c (by decide), fun c => absurd c (by decide), fun c => absurd c (by decide), fun _ => ⟨vP, h⟩, fun c => absurd c (by decide), fun c => absurd c (by decide)⟩
  · exact ⟨fun c => absurd c (by decide), fun c => absurd c (by decide), fun c => absurd c (by decide), fun c => absurd c (by decide), fun _ => ⟨vP, h⟩, fun c => absurd c (by decide)⟩
  · exact ⟨fun c => absurd c (by decide), fun c => absurd c (by decide), fun c => absurd c (by decide), fun c => absurd c (by decide), fun c => absurd c (by decide), fun _ => ⟨vP, h⟩⟩
theorem md_182 {S : CST} {Sm : MST} {y : Nat} {x : Int64} {K : Int64 → Int32 → Prop} {Post : Int64 → Prop} (hJ : J S) (hM : MI Sm (cnP S)) (hQ : FR1 S Sm) (hy : y < cnP S) (hK : K (ptF (cdV Sm y) (ofV Sm y 5).toNatClampNeg 0 x) (nI y)) : ∃ n_182, wl_X12_digest_182 Sm K Post n_182 x (nI y) (nI 0) := by
  have hJc := hJ.c31
  have e5 : ofV Sm y 5 = (if Sm 17 y = 0 then 0 else Sm 23 (12 * y + ((Sm 17 y).toNatClampNeg - 1))) := rfl
  rcases hQ.latest hM hy with ⟨w1, w2⟩ | ⟨k, c, N, hh, n, P, as, val, st, k12, e17, e281, hcc, hx⟩
  · refine ⟨1, ?_⟩
    rw [e5, if_pos w1, show (0 : Int32).toNatClampNeg = 0 by decide] at hK
    unfold wl_X12_digest_182
    refine mq_partsOf hM hQ hy (fun _ _ => ⟨fun _ => hK, fun q => absurd (by decide) q⟩) (fun k c N hh n P as val st k12 e17 e281 hcc hx => ?_)
    rw [e281] at w2
    exact absurd w2 (nI_nn c (by omega))
  · obtain ⟨n1, n2⟩ := FR1.numb (S := S) k12 e17
    have hN := hx.2.2.2.1
    have m1 := hx.2.2.2.2.2.2.2.1
    rw [e5, if_neg n2, n1, m1, nI_clamp (n := N) (by omega)] at hK
    -- how many there are
    have pof : ∀ {Q : Int32 → Prop}, Q (nI N) → wp_X12_partsOf Sm (nI y) Q := fun hq => mq_partsOf hM hQ hy (fun w1 _ => absurd w1 n2) (fun k' c' N' hh' n' P' as' val' st' k12' e17' e281' hcc' hx' => by
      have e1 : k + 1 = k' + 1 := nI_inj (e17.symm.trans e17') (by omega) (by omega)
      obtain rfl : k = k' := by omega
      rw [hx'.2.2.2.2.2.2.2.1.symm.trans m1]
      exact hq)
    -- the five of PART p
    have five : ∀ (p : Nat) (K' : Int64 → Int32 → Int32 → Prop) (u j : Nat) (x : Int64), p < N → j + u = 5 → K' (mxF (cdV Sm y p) u j x) (nI y) (nI p) → wl_X12_digest_195 Sm K' Post (u + 1) x (nI y) (nI p) (nI j) := by
      intro p K' u
      induction u with
      | zero =>
        intro j x hp hj hK'
        unfold wl_X12_digest_195
        obtain rfl : j = 5 := by omega
        exact ⟨fun _ => hK', fun c => absurd (show (5 : Int32) ≤ nI 5 by decide) c⟩
      | succ u ih =>
        intro j x hp hj hK'
        unfold wl_X12_digest_195
        rw [nI_1]
        exact ⟨fun c => absurd c (nI_ge (a := j) (b := 5) (by omega) (by omega)), fun _ => md_part hJ hM hQ hy k12 e17 e281 hcc hx hp (by omega) (ih (j + 1) _ hp (by omega) hK')⟩
    have all : ∀ (u p : Nat) (x : Int64), p + u = N → K (ptF (cdV Sm y) u p x) (nI y) → wl_X12_digest_182 Sm K Post (u + 1) x (nI y) (nI p) := by
      intro u
      induction u with
      | zero =>
        intro p x hp hK'
        unfold wl_X12_digest_182
        exact pof ⟨fun _ => hK', fun q => absurd (nI_le (by omega) (by omega)) q⟩
      | succ u ih =>
        intro p x hp hK'
        unfold wl_X12_digest_182
        refine pof ⟨fun q => absurd q (nI_ge (by omega) (by omega)), fun _ => ⟨6, five p _ 5 0 x (by omega) (by omega) ?_⟩⟩
        rw [nI_1]
        exact ih (p + 1) _ (by omega) hK'
    exact ⟨N + 1, all N 0 x (by omega) hK⟩
theorem md_140 {S : CST} {Sm : MST} {K Post : Int64 → Prop} (hJ : J S) (hM : MI Sm (cnP S)) (hQ : FR1 S Sm) : ∀ (k j : Nat) (x : Int64), j + k = cnP S → K (meF Sm k j x) → wl_X12_digest_140 Sm K Post (k + 1) x (nI j) := by
  have hM8 := hM.1.2.1
  have hM0 := hM.1.1
  intro k
  induction k with
  | zero =>
    intro j x hj hK
    unfold wl_X12_digest_140
    rw [hM0]
    exact ⟨fun _ => hK, fun q => absurd (nI_le (by omega) (by omega)) q⟩
  | succ k ih =>
    intro j x hj hK
    unfold wl_X12_digest_140
    rw [hM0]
    refine ⟨fun q => absurd q (nI_ge (by omega) (by omega)), fun _ => ⟨7, md_151 hM hQ (by omega) 6 0 x (by omega) (md_182 hJ hM hQ (by omega) ?_)⟩⟩
    rw [nI_1]
    exact ih (j + 1) _ (by omega) hK
theorem md_digest {S : CST} {Sm : MST} {Post : Int64 → Prop} (hJ : J S) (hM : MI Sm (cnP S)) (hQ : FR1 S Sm) (h : Post (dgV Sm (cnP S))) : wp_X12_digest Sm Post :=
  ⟨9, md_6 8 0 17 (by omega) ⟨5, md_34 hM.2.1 4 0 _ (by omega) ⟨5, md_113 4 0 _ (by omega) ⟨cnP S + 1, md_140 hJ hM hQ (cnP S) 0 _ (by omega) h⟩⟩⟩⟩
theorem zq_digest {S : CST} {Sm : MST} (hJ : J S) (hM : MI Sm (cnP S)) (hQ : FR1 S Sm) : wp_X11_digest S (fun r => wp_X12_digest Sm (fun r' => r = r')) := xd_digest hJ hM hQ (md_digest hJ hM hQ rfl)
/-- a long compared with itself -/
theorem lg_self (x : Int64) : lg_cmp x x = 0 := (lg_cmp_eq x x).2 rfl
