/-! class and reference hold the same METHODS -/
def PRy (S : CST) (Sm : MST) (y : Nat) : Prop := cv S 20 0 y = nI y ∧ cv S 240 y 0 = nI y ∧ cv S 241 y 0 = Sm 1 y ∧ cv S 242 y 0 = Sm 2 y ∧ cv S 247 y 0 = Sm 3 y ∧
  (∀ n i : Nat, cv S 247 y 0 = nI n → n ≤ 60 → i < n → cv S 250 y i = Sm 4 (60 * y + i) ∧ cv S 260 y i = Sm 5 (60 * y + i)) ∧
  ((cv S 248 y 0 = -1 ∧ Sm 6 y = 0) ∨ (Sm 6 y = 1 ∧ cv S 248 y 0 = Sm 8 y ∧ (∃ b : Nat, b ≤ 8 ∧ Sm 8 y = nI b) ∧ ∀ j : Nat, j < 60 → cv S 270 y j = Sm 7 (60 * y + j)))
def PR (S : CST) (Sm : MST) : Prop := (∀ y : Nat, y < cnP S → PRy S Sm y) ∧ cv S 103 0 0 = Sm 9 0
theorem PRy.same {S S' : CST} {Sm Sm' : MST} {y : Nat} (h : PRy S Sm y) (h20 : cv S' 20 0 y = cv S 20 0 y) (hc : ∀ k : Nat, k = 240 ∨ k = 241 ∨ k = 242 ∨ k = 247 ∨ k = 248 ∨ k = 250 ∨ k = 260 ∨ k = 270 → cv S' k y = cv S k y)
    (hm : ∀ k : Nat, k = 1 ∨ k = 2 ∨ k = 3 ∨ k = 6 ∨ k = 8 → Sm' k y = Sm k y) (hm2 : ∀ k j : Nat, k = 4 ∨ k = 5 ∨ k = 7 → j < 60 → Sm' k (60 * y + j) = Sm k (60 * y + j)) : PRy S' Sm' y := by
  obtain ⟨a1, a2, a3, a4, a5, a6, a7⟩ := h
  unfold PRy
  rw [h20, hc 240 (by omega), hc 241 (by omega), hc 242 (by omega), hc 247 (by omega), hc 248 (by omega), hc 250 (by omega), hc 260 (by omega), hc 270 (by omega), hm 1 (by omega), hm 2 (by omega), hm 3 (by omega), hm 6 (by omega), hm 8 (by omega)]
  refine ⟨a1, a2, a3, a4, a5, fun n i e hn hi => ?_, a7.elim Or.inl (fun ⟨b1, b2, b3, b4⟩ => Or.inr ⟨b1, b2, b3, fun j hj => by rw [hm2 7 j (by omega) hj]; exact b4 j hj⟩)⟩
  rw [hm2 4 i (by omega) (by omega), hm2 5 i (by omega) (by omega)]
  exact a6 n i e hn hi
/-- what leaves the METHODS alone -/
def npr (L : List Nat) : Bool := L.all fun k => !([20, 103, 240, 241, 242, 247, 248, 250, 260, 270].contains k)
theorem npr_of {L : List Nat} (h : npr L = true) {k : Nat} (hk : [20, 103, 240, 241, 242, 247, 248, 250, 260, 270].contains k = true) : L.contains k = false := by
  cases hc : L.contains k with
  | false => rfl
  | true =>
    have := List.all_eq_true.mp h k (by simpa using hc)
    rw [hk] at this
    cases this
theorem PR.frame {L Lm : List Nat} {S S' : CST} {Sm Sm' : MST} (h : PR S Sm) (f : Fc L S S') (hP : cnP S' = cnP S) (hL : npr L = true) (fm : Fm Lm Sm Sm') (hLm : (Lm.all fun k => Nat.ble 10 k) = true) : PR S' Sm' := by
  have hm : ∀ k : Nat, k < 10 → Sm' k = Sm k := fun k hk => fm k (by
    cases hc : Lm.contains k with
    | false => rfl
    | true =>
      have := List.all_eq_true.mp hLm k (by simpa using hc)
      have := Nat.le_of_ble_eq_true this
      omega)
  refine ⟨fun y hy => ?_, ?_⟩
  · rw [hP] at hy
    refine (h.1 y hy).same ?_ (fun k hk => ?_) (fun k hk => by rw [hm k (by omega)]) (fun k j hk _ => by rw [hm k (by omega)])
    · rw [f.2.2 20 0 (npr_of hL rfl) (fun q => absurd q (by decide)) (fun q => absurd q (by decide))]
    · refine f.2.2 k y (npr_of hL ?_) (fun _ _ => hy) (fun q => by omega)
      rcases hk with rfl | rfl | rfl | rfl | rfl | rfl | rfl | rfl <;> rfl
  · rw [f.2.2 103 0 (npr_of hL rfl) (fun q => absurd q (by decide)) (fun q => absurd q (by decide)), hm 9 (by decide)]
    exact h.2
theorem BK.of {S : CST} {Sm : MST} (hJ : J S) (h : PR S Sm) : BK S := ⟨hJ.1, hJ.2.1, fun j hj => (h.1 j hj).1⟩
/-- what holds of both behind a call -/
def FR (c : Prop) (S : CST) (Sm : MST) : Prop := MI Sm (cnP S) ∧ PR S Sm ∧ c
/-- of a METHOD: what both hold of it -/
theorem PR.nums {S : CST} {Sm : MST} {y : Nat} (hM : MI Sm (cnP S)) (h : PR S Sm) (hy : y < cnP S) : ∃ ax l n : Nat, Sm 1 y = nI ax ∧ ax ≤ 3 ∧ Sm 2 y = nI l ∧ l ≤ 6 ∧ Sm 3 y = nI n ∧ n ≤ 60 ∧ cv S 247 y 0 = nI n ∧ cv S 242 y 0 = nI l ∧ ∀ i : Nat, i < n → ∃ o : Nat, o < 20 ∧ Sm 4 (60 * y + i) = nI o ∧ cv S 250 y i = nI o ∧ cv S 260 y i = Sm 5 (60 * y + i) := by
  obtain ⟨ax, l, n, h1, h2, h3, h4, h5, h6, h7, h8⟩ := hM.1.2.2.1 y hy
  obtain ⟨a1, a2, a3, a4, a5, a6, a7⟩ := h.1 y hy
  refine ⟨ax, l, n, h1, h2, h3, h5, h6, h7, a5.trans h6, a4.trans h3, fun i hi => ?_⟩
  obtain ⟨o, ho, e⟩ := h8 i hi
  obtain ⟨b1, b2⟩ := a6 n i (a5.trans h6) h7 hi
  exact ⟨o, ho, e, b1.trans e, b2⟩
theorem xp_X11_look {S : CST} {Sm : MST} {a : Int32} {Post : CST → Int32 → Prop} (hJ : J S) (hM : MI Sm (cnP S)) (hR : PR S Sm) (hb : (∀ z : Nat, z < cnP S → ¬ a = nI z) → Post S (-2)) (hs : ∀ y : Nat, y < cnP S → a = nI y → Sm 6 y = 1 → Post S (-3))
    (h : ∀ (y l n : Nat) (S' : CST) (r : Int32), y < cnP S → a = nI y → Sm 6 y = 0 → Sm 2 y = nI l → l ≤ 6 → Sm 3 y = nI n → n ≤ 60 → GoC S y n (lkR (cnP S) l n (Sm 1) (fun i => (Sm 4 (60 * y + i)).toNatClampNeg) (fun i => Sm 5 (60 * y + i))) S' r → Post S' r) : wp_X11_look S a Post := by
  have hB := BK.of hJ hR
  have hM8 := hJ.1
  unfold wp_X11_look
  refine xp_X0_at hB (fun y hy e => ⟨fun q => absurd q (nI_nn y (by omega)), fun _ => ?_⟩) (fun hno => ⟨fun _ => hb hno, fun q => absurd (by decide) q⟩)
  rw [nI_clamp (by omega)]
  obtain ⟨ax, l, n, q1, q2, q3, q4, q5, q6, q7, q8, q9⟩ := hR.nums hM hy
  obtain ⟨a1, a2, a3, a4, a5, a6, a7⟩ := hR.1 y hy
  refine ⟨cin_24 rfl hy, xp_X8_isRight hy (fun c => ⟨fun _ => ⟨cin_24 rfl hy, ?_⟩, fun q => absurd rfl q⟩) (fun c => ⟨fun q => absurd q (by decide), fun _ => ?_⟩)⟩
  · have h6 : Sm 6 y = 0 := by
      rcases a7 with ⟨_, w⟩ | ⟨_, w2, ⟨b, hb8, w3⟩, _⟩
      · exact w
      · rw [w2, w3] at c; exact absurd c (nI_neg1 (by omega))
    refine xp_X6_goOver (n := n) (l := l) (ag := Sm 1) (op := fun i => (Sm 4 (60 * y + i)).toNatClampNeg) (xs := fun i => Sm 5 (60 * y + i)) hJ hB hy c q7 q6 q8 q4 (fun i hi => ?_) (fun z hz => ?_) (fun S' r hg => h y l n S' r hy e h6 q3 q4 q5 q6 hg)
    · obtain ⟨o, ho, e1, e2, e3⟩ := q9 i hi
      have : (Sm 4 (60 * y + i)).toNatClampNeg = o := by rw [e1]; exact nI_clamp (by omega)
      show (Sm 4 (60 * y + i)).toNatClampNeg < 20 ∧ cv S 250 y i = nI (Sm 4 (60 * y + i)).toNatClampNeg ∧ cv S 260 y i = Sm 5 (60 * y + i)
      rw [this]
      exact ⟨ho, e2, e3⟩
    · obtain ⟨az, lz, nz, z1, z2, _⟩ := hR.nums hM hz
      exact ⟨(hR.1 z hz).2.2.1, az, z2, z1⟩
  · rcases a7 with ⟨w, _⟩ | ⟨w, _⟩
    · exact absurd w c
    · exact hs y hy e w
theorem lkR_same {M l l' n n' : Nat} {ag : Nat → Int32} {op : Nat → Nat} {xs : Nat → Int32} (h1 : l = l') (h2 : n = n') : lkR M l n ag op xs = lkR M l' n' ag op xs := by rw [h1, h2]
theorem zr_look {S : CST} {Sm : MST} {a : Int32} (hJ : J S) (hM : MI Sm (cnP S)) (hR : PR S Sm) : wp_X11_look S a (fun S' r => J S' ∧ wp_X12_look Sm a (fun Sm' r' => FR (r = r') S' Sm')) := by
  have hM8 := hJ.1
  have hP := hM.1
  refine an_X11_look (jm_look (Post := fun S' r => cnP S' = cnP S ∧ J S') hJ (fun S' r a b => ⟨a, b⟩))
    (xp_X11_look (Post := fun S' r => wp_X12_look Sm a (fun Sm' r' => Fm [6, 7, 8, 9, 10] Sm Sm' → cnP S' = cnP S → Fc [72, 80, 90, 103, 110, 248, 249, 270] S S' → PR S' Sm' ∧ r = r')) hJ hM hR (fun hno => ?_) (fun y hy e h6 => ?_) (fun y l n S' r hy e h6 hl hl6 hn hn60 hg => ?_))
    (fun S' r f hp hq => ⟨hp.2, an_X12_look (mi_look (Post := fun S' r => MI S' (cnP S)) hM (fun S' r h => h)) hq (fun Sm' r' fm hm hQ => ⟨by rw [hp.1]; exact hm, hQ fm hp.1 f⟩)⟩)
  · exact sq_look hP (fun _ _ _ _ => ⟨hR, rfl⟩) (fun m hm e _ => absurd e (hno m hm)) (fun m _ _ _ _ _ _ hm e => absurd e (hno m hm))
  · refine sq_look hP (fun q => absurd e (q y hy)) (fun _ _ _ _ _ _ _ => ⟨hR, rfl⟩) (fun m _ _ _ _ _ _ hm e2 h6' => ?_)
    have : m = y := nI_inj (e2.symm.trans e) (by omega) (by omega)
    rw [this, h6] at h6'
    exact absurd h6' (by decide)
  · refine sq_look hP (fun q => absurd e (q y hy)) (fun m hm e2 h6' => ?_) (fun m l' n' op xs Sm' r' hm e2 h6' hl' hl6' hn' hn60' hop hxs hops hg' => ?_)
    · have : m = y := nI_inj (e2.symm.trans e) (by omega) (by omega)
      rw [this, h6] at h6'
      exact absurd rfl h6'
    · obtain rfl : m = y := nI_inj (e2.symm.trans e) (by omega) (by omega)
      obtain rfl : n' = n := nI_inj (hn'.symm.trans hn) (by omega) (by omega)
      obtain rfl : l' = l := nI_inj (hl'.symm.trans hl) (by omega) (by omega)
      rw [← hop, ← hxs] at hg
      generalize lkR (cnP S) l' n' (Sm 1) op xs = R at hg hg'
      obtain ⟨c1, c2, c3, c4⟩ := hg
      obtain ⟨d1, d2, d3, d4⟩ := hg'
      intro fm hPP f
      have hf : ∀ k i : Nat, [72, 80, 90, 103, 110, 248, 249, 270].contains k = false → k < 320 → i < cnP S → cv S' k i = cv S k i := fun k i hk hk2 hi => f.2.2 k i hk (fun _ _ => hi) (fun q => by omega)
      have h20 : ∀ y : Nat, cv S' 20 0 y = cv S 20 0 y := fun y => by rw [f.2.2 20 0 rfl (fun q => absurd q (by decide)) (fun q => absurd q (by decide))]
      refine ⟨⟨fun y hyP => ?_, c3.trans d3.symm⟩, ?_⟩
      · rw [hPP] at hyP
        by_cases hym : y = m
        · subst hym
          obtain ⟨a1, a2, a3, a4, a5, a6, a7⟩ := hR.1 y hyP
          unfold PRy
          rw [h20, hf 240 y rfl (by decide) hyP, hf 241 y rfl (by decide) hyP, hf 242 y rfl (by decide) hyP, hf 247 y rfl (by decide) hyP, hf 250 y rfl (by decide) hyP, hf 260 y rfl (by decide) hyP, fm 1 rfl, fm 2 rfl, fm 3 rfl, fm 4 rfl, fm 5 rfl]
          refine ⟨a1, a2, a3, a4, a5, a6, ?_⟩
          rcases c4 with ⟨z, _, b, hb, v, _⟩ | ⟨z, v, _⟩
          · rcases d4 with ⟨_, _, b', hb', v8, v6, _⟩ | ⟨z', _⟩
            · obtain rfl := hb.eq hb'
              refine Or.inr ⟨by rw [v6, upd_s], by rw [v, v8, upd_s], ⟨b, hb.1, by rw [v8, upd_s]⟩, fun j hj => by rw [c1 j hj, d1 j hj]⟩
            · exact absurd z z'
          · rcases d4 with ⟨z', _⟩ | ⟨_, v8, v6, _⟩
            · exact absurd z' z
            · refine Or.inl ⟨?_, by rw [v6]; exact h6⟩
              rw [v]
              rcases a7 with ⟨w, _⟩ | ⟨w, _⟩
              · exact w
              · rw [h6] at w; exact absurd w (by decide)
        · refine (hR.1 y hyP).same (h20 y) (fun k hk => ?_) (fun k hk => ?_) (fun k j hk hj => ?_)
          · rcases hk with rfl | rfl | rfl | rfl | rfl | rfl | rfl | rfl
            · exact hf _ _ rfl (by decide) hyP
            · exact hf _ _ rfl (by decide) hyP
            · exact hf _ _ rfl (by decide) hyP
            · exact hf _ _ rfl (by decide) hyP
            · exact (c2 y hym hyP).2
            · exact hf _ _ rfl (by decide) hyP
            · exact hf _ _ rfl (by decide) hyP
            · exact (c2 y hym hyP).1
          · rcases hk with rfl | rfl | rfl | rfl | rfl
            · rw [fm 1 rfl]
            · rw [fm 2 rfl]
            · rw [fm 3 rfl]
            · rcases d4 with ⟨_, _, _, _, _, v6, _⟩ | ⟨_, _, v6, _⟩
              · rw [v6, upd_n _ _ hym]
              · rw [v6]
            · rcases d4 with ⟨_, _, _, _, v8, _, _⟩ | ⟨_, v8, _, _⟩
              · rw [v8, upd_n _ _ hym]
              · rw [v8]
          · rcases hk with rfl | rfl | rfl
            · rw [fm 4 rfl]
            · rw [fm 5 rfl]
            · exact d2 _ (by omega)
      · rcases c4 with ⟨z, _, b, hb, _, hr⟩ | ⟨z, _, hr⟩
        · rcases d4 with ⟨_, _, b', hb', _, _, hr'⟩ | ⟨z', _⟩
          · obtain rfl := hb.eq hb'
            rw [hr, hr']
          · exact absurd z z'
        · rcases d4 with ⟨z', _⟩ | ⟨_, _, _, hr'⟩
          · exact absurd z' z
          · rw [hr, hr']
theorem sq_write {S : MST} {M : Nat} {a o x : Int32} {Post : MST → Int32 → Prop} (hM : S 0 0 = nI M) (hM8 : M ≤ 8) (hT : toldM S M) (hb : (∀ m o' : Nat, m < M → a = nI m → o' < 20 → ¬ o = nI o') → Post S (-2)) (hs : ∀ m o' : Nat, m < M → a = nI m → o' < 20 → o = nI o' → ¬ S 6 m = 0 → Post S (-3)) (hf : ∀ m o' : Nat, m < M → a = nI m → o' < 20 → o = nI o' → S 6 m = 0 → S 3 m = nI 60 → Post S (-4))
    (hw : ∀ (m n o' : Nat), m < M → a = nI m → S 6 m = 0 → S 3 m = nI n → n < 60 → o = nI o' → o' < 20 → Post (wrS S m n o x) (nI n)) : wp_X12_write S a o x Post := by
  have t0 : (0 : Int64).toInt = 0 := by decide
  have t19 : (19 : Int64).toInt = 19 := by decide
  unfold wp_X12_write
  refine sp_isMethod hM hM8 (fun q => ⟨fun _ => hb (fun m o' hm e _ _ => z_out (by omega) q m hm e), fun q => absurd rfl q⟩) (fun m hm e => ⟨fun q => absurd q (by decide), fun _ => ?_⟩)
  refine sp_inL (fun q => ⟨fun q => absurd rfl q, fun _ => hb (fun m o' _ _ ho e => z_out (B := 20) (by omega) (by rw [t0, t19] at q; omega) o' ho e)⟩) (fun h1 h2 => ⟨fun _ => ?_, fun q => absurd q (by decide)⟩)
  rw [t0] at h1
  rw [t19] at h2
  obtain ⟨o', ho', eo⟩ := z_nat (M := 20) (a := o) (by omega) (by omega) (by omega)
  have hc : (nI m).toNatClampNeg = m := nI_clamp (by omega)
  have hv : vp_in (nI m) 8 := vp_in_nI (by omega) (by omega)
  obtain ⟨_, _, n, _, _, _, _, _, hn, hn60, _⟩ := hT m hm
  rw [e, hc]
  refine ⟨hv, fun h6 => ⟨hv, fun hne => ?_, fun q => hf m o' hm e ho' eo h6 (by rw [q]; rfl)⟩, fun h6 => hs m o' hm e ho' eo h6⟩
  have hn59 : n < 60 := by
    rcases Nat.lt_or_ge n 60 with w | w
    · exact w
    · exact absurd (hn.trans (congrArg nI (show n = 60 by omega))) hne
  rw [hn, ix60]
  refine ⟨hv, vp_in_nI (by omega) (by omega), fun S10 e10 => ⟨hv, ?_⟩⟩
  have g10 : S10 3 m = nI n := by rw [e10, ms_n _ _ (show 3 ≠ 4 by decide)]; exact hn
  rw [g10, ix60]
  rw [nI_clamp (n := 60 * m + n) (by omega)] at e10 ⊢
  refine ⟨vp_in_nI (by omega) (by omega), fun S12 e12 => ⟨hv, hv, ?_⟩⟩
  have g12 : S12 3 m = nI n := by rw [e12, ms_n _ _ (show 3 ≠ 5 by decide)]; exact g10
  rw [g12, nI_1]
  refine fun S14 e14 => ⟨hv, ?_⟩
  have e2 : S14 = wrS S m n o x := by
    rw [e14, e12, show S10 5 = S 5 by rw [e10, ms_n _ _ (show 5 ≠ 4 by decide)], ms_n _ _ (show 3 ≠ 5 by decide), e10, ms_n _ _ (show 3 ≠ 4 by decide)]; rfl
  have e3 : S14 3 m = nI (n + 1) := by rw [e14, ms_s, upd_s]
  rw [e3, nI_m1 (by omega), e2]
  exact hw m n o' hm e h6 hn hn59 eo ho'
/-- an INSTRUCTION more of METHOD y in the class -/
def wrC (S : CST) (y n : Nat) (o x : Int32) : CST := cs (cs (cs S 250 y (upd (cv S 250 y) n o)) 260 y (upd (cv S 260 y) n x)) 247 y (fun _ => nI (n + 1))
theorem xp_X8_append {S : CST} {y n : Nat} {o x : Int32} {Post : CST → Int32 → Prop} (hy : y < cnP S) (hn : cv S 247 y 0 = nI n) (hn60 : n ≤ 60) (hf : n = 60 → Post S (-4)) (hw : n < 60 → Post (wrC S y n o x) (nI n)) : wp_X8_append S y o x Post := by
  have hi : y < S.2.1 := hy
  unfold wp_X8_append
  rw [hn]
  refine ⟨cin_24 rfl hi, fun c => ?_, fun c => hf ?_⟩
  · have hlt : n < 60 := Nat.not_le.mp (fun q => absurd c (Int32.not_lt.mpr (nI_le (a := 60) q (by omega))))
    refine ⟨cin_24 rfl hi, cin_24 rfl hi, cin_25 rfl hi, vp_in_nI hlt (by omega), fun S6 e6 => ?_⟩
    rw [nI_clamp (by omega)] at e6
    have hT6 : S6.2 = S.2 := by rw [e6]; rfl
    have v6 : cv S6 247 y 0 = nI n := by rw [e6, cs_n _ _ (fun w => absurd w.1 (by decide))]; exact hn
    rw [v6]
    refine ⟨cin_24 hT6 hi, cin_24 hT6 hi, cin_26 hT6 hi, vp_in_nI hlt (by omega), fun S10 e10 => ?_⟩
    rw [nI_clamp (by omega)] at e10
    have hT10 : S10.2 = S.2 := by rw [e10]; exact hT6
    have v10 : cv S10 247 y 0 = nI n := by rw [e10, cs_n _ _ (fun w => absurd w.1 (by decide))]; exact v6
    rw [v10, nI_1]
    refine ⟨cin_24 hT10 hi, cin_24 hT10 hi, fun S13 e13 => ?_⟩
    have hT13 : S13.2 = S.2 := by rw [e13]; exact hT10
    have v13 : cv S13 247 y 0 = nI (n + 1) := by rw [e13, cs_s]
    rw [v13, nI_m1 (by omega)]
    refine ⟨cin_24 hT13 hi, ?_⟩
    have e : S13 = wrC S y n o x := by
      rw [e13, e10, show cv S6 260 y = cv S 260 y by rw [e6]; exact cs_n S _ (fun w => absurd w.1 (by decide)), e6]; rfl
    rw [e]
    exact hw hlt
  · have : ¬ n < 60 := fun q => c (Int32.not_le.mp (nI_ge (b := 60) q (by omega)))
    omega
theorem xp_X11_write {S : CST} {a o x : Int32} {Post : CST → Int32 → Prop} (hB : BK S) (hL : ∀ y : Nat, y < cnP S → ∃ n : Nat, cv S 247 y 0 = nI n ∧ n ≤ 60) (hb : (∀ y o' : Nat, y < cnP S → a = nI y → o' < 20 → ¬ o = nI o') → Post S (-2)) (hs : ∀ y o' : Nat, y < cnP S → a = nI y → o' < 20 → o = nI o' → ¬ cv S 248 y 0 = -1 → Post S (-3)) (hf : ∀ y o' : Nat, y < cnP S → a = nI y → o' < 20 → o = nI o' → cv S 248 y 0 = -1 → cv S 247 y 0 = nI 60 → Post S (-4))
    (hw : ∀ y n o' : Nat, y < cnP S → a = nI y → cv S 248 y 0 = -1 → cv S 247 y 0 = nI n → n < 60 → o = nI o' → o' < 20 → Post (wrC S y n o x) (nI n)) : wp_X11_write S a o x Post := by
  have hM8 := hB.1
  unfold wp_X11_write
  refine xp_X0_at hB (fun y hy e => ⟨fun q => absurd q (nI_nn y (by omega)), fun _ => ⟨fun c => hb (fun _ o' _ _ ho w => nI_nn o' (by omega) (by rw [← w]; exact c)), fun c => ⟨fun c20 => ?_, fun c20 => hb (fun _ o' _ _ ho w => c20 (by rw [w]; exact Int32.not_le.mp (nI_ge (b := 20) ho (by omega))))⟩⟩⟩) (fun hno => ⟨fun _ => hb (fun y _ hy e _ _ => hno y hy e), fun q => absurd (by decide) q⟩)
  rw [nI_clamp (by omega)]
  obtain ⟨o', eo, ho'⟩ := nI_ofc c
  have ho : o' < 20 := Nat.not_le.mp (fun q => absurd c20 (Int32.not_lt.mpr (by rw [eo]; exact nI_le (a := 20) q (by omega))))
  obtain ⟨n, hn, hn60⟩ := hL y hy
  exact ⟨cin_24 rfl hy, xp_X8_isRight hy (fun h248 => ⟨fun _ => ⟨cin_24 rfl hy, xp_X8_append hy hn hn60 (fun e60 => hf y o' hy e ho eo h248 (by rw [hn, e60])) (fun hlt => hw y n o' hy e h248 hn hlt eo ho)⟩, fun q => absurd rfl q⟩) (fun h248 => ⟨fun q => absurd q (by decide), fun _ => hs y o' hy e ho eo h248⟩)⟩
theorem PR.right {S : CST} {Sm : MST} {y : Nat} (h : PRy S Sm y) : (cv S 248 y 0 = -1 ↔ Sm 6 y = 0) := by
  obtain ⟨_, _, _, _, _, _, a7⟩ := h
  rcases a7 with ⟨a, b⟩ | ⟨a, b, ⟨c, hc, e⟩, _⟩
  · exact ⟨fun _ => b, fun _ => a⟩
  · refine ⟨fun q => ?_, fun q => ?_⟩
    · rw [b, e] at q; exact absurd q (nI_neg1 (by omega))
    · rw [a] at q; exact absurd q (by decide)
theorem zr_write {S : CST} {Sm : MST} {a o x : Int32} (hJ : J S) (hM : MI Sm (cnP S)) (hR : PR S Sm) : wp_X11_write S a o x (fun S' r => J S' ∧ wp_X12_write Sm a o x (fun Sm' r' => FR (r = r') S' Sm')) := by
  have hM8 := hJ.1
  obtain ⟨hP0, hP8, hT, -⟩ := hM.1
  have inj : ∀ {y z : Nat}, y < cnP S → z < cnP S → a = nI y → a = nI z → y = z := fun h1 h2 e1 e2 => nI_inj (e1.symm.trans e2) (by omega) (by omega)
  have stay : ∀ c : Prop, c → (cnP S = cnP S → PR S Sm ∧ c) := fun c hc _ => ⟨hR, hc⟩
  refine an_X11_write (jm_write (Post := fun S' r => cnP S' = cnP S ∧ J S') hJ (fun S' r a b => ⟨a, b⟩))
    (xp_X11_write (Post := fun S' r => wp_X12_write Sm a o x (fun Sm' r' => PR S' Sm' ∧ r = r')) (BK.of hJ hR) hJ.2.2.2.1 (fun hno => ?_) (fun y o' hy e ho eo h6 => ?_) (fun y o' hy e ho eo h6 hn => ?_) (fun y n o' hy e h6 hn hlt eo ho => ?_))
    (fun S' r f hp hq => ⟨hp.2, an_X12_write (mi_write (Post := fun S' r => MI S' (cnP S)) hM (fun S' r h => h)) hq (fun Sm' r' fm hm hQ => ⟨by rw [hp.1]; exact hm, hQ⟩)⟩)
  · exact sq_write hP0 hP8 hT (fun _ => ⟨hR, rfl⟩) (fun m o' hm e ho eo _ => absurd eo (hno m o' hm e ho)) (fun m o' hm e ho eo _ _ => absurd eo (hno m o' hm e ho)) (fun m n o' hm e _ _ _ eo ho => absurd eo (hno m o' hm e ho))
  · have q6 : ¬ Sm 6 y = 0 := fun q => h6 ((PR.right (hR.1 y hy)).mpr q)
    exact sq_write hP0 hP8 hT (fun q => absurd eo (q y o' hy e ho)) (fun _ _ _ _ _ _ _ => ⟨hR, rfl⟩) (fun m _ hm e2 _ _ w _ => absurd (by rw [inj hm hy e2 e] at w; exact w) q6) (fun m _ _ hm e2 w _ _ _ _ => absurd (by rw [inj hm hy e2 e] at w; exact w) q6)
  · have q6 : Sm 6 y = 0 := (PR.right (hR.1 y hy)).mp h6
    have q3 : Sm 3 y = nI 60 := by rw [← (hR.1 y hy).2.2.2.2.1]; exact hn
    refine sq_write hP0 hP8 hT (fun q => absurd eo (q y o' hy e ho)) (fun m _ hm e2 _ _ w => absurd (by rw [inj hm hy e2 e]; exact q6) w) (fun _ _ _ _ _ _ _ _ => ⟨hR, rfl⟩) (fun m n _ hm e2 _ w hlt _ _ => ?_)
    rw [inj hm hy e2 e, q3] at w
    exact absurd (nI_inj w (by omega) (by omega)) (by omega)
  · have q6 : Sm 6 y = 0 := (PR.right (hR.1 y hy)).mp h6
    have q3 : Sm 3 y = nI n := by rw [← (hR.1 y hy).2.2.2.2.1]; exact hn
    refine sq_write hP0 hP8 hT (fun q => absurd eo (q y o' hy e ho)) (fun m _ hm e2 _ _ w => absurd (by rw [inj hm hy e2 e]; exact q6) w) (fun m _ hm e2 _ _ _ w => ?_) (fun m n' _ hm e2 _ w hlt' _ _ => ?_)
    · rw [inj hm hy e2 e, q3] at w
      exact absurd (nI_inj w (by omega) (by omega)) (by omega)
    · obtain rfl := inj hm hy e2 e
      obtain rfl : n' = n := nI_inj (w.symm.trans q3) (by omega) (by omega)
      refine ⟨⟨fun z hz => ?_, ?_⟩, rfl⟩
      · have hz : z < cnP S := hz
        by_cases hzm : z = m
        · subst hzm
          obtain ⟨a1, a2, a3, a4, a5, a6, a7⟩ := hR.1 z hz
          have g : ∀ k i : Nat, k ≠ 247 → k ≠ 250 → k ≠ 260 → cv (wrC S z n' o x) k i = cv S k i := fun k i h1 h2 h3 => by unfold wrC; rw [cs_n _ _ (fun w => h1 w.1), cs_n _ _ (fun w => h3 w.1), cs_n _ _ (fun w => h2 w.1)]
          have gm : ∀ q : Nat, q ≠ 3 → q ≠ 4 → q ≠ 5 → wrS Sm z n' o x q = Sm q := fun q x y z => by unfold wrS; rw [ms_n _ _ x, ms_n _ _ z, ms_n _ _ y]
          have c247 : cv (wrC S z n' o x) 247 z 0 = nI (n' + 1) := by unfold wrC; rw [cs_s]
          have c250 : cv (wrC S z n' o x) 250 z = upd (cv S 250 z) n' o := by unfold wrC; rw [cs_n _ _ (fun w => absurd w.1 (by decide)), cs_n _ _ (fun w => absurd w.1 (by decide)), cs_s]
          have c260 : cv (wrC S z n' o x) 260 z = upd (cv S 260 z) n' x := by unfold wrC; rw [cs_n _ _ (fun w => absurd w.1 (by decide)), cs_s]
          have m3 : wrS Sm z n' o x 3 = upd (Sm 3) z (nI (n' + 1)) := by unfold wrS; rw [ms_s]
          have m4 : wrS Sm z n' o x 4 = upd (Sm 4) (60 * z + n') o := by unfold wrS; rw [ms_n _ _ (show 4 ≠ 3 by decide), ms_n _ _ (show 4 ≠ 5 by decide), ms_s]
          have m5 : wrS Sm z n' o x 5 = upd (Sm 5) (60 * z + n') x := by unfold wrS; rw [ms_n _ _ (show 5 ≠ 3 by decide), ms_s]
          unfold PRy
          rw [g 20 0 (by decide) (by decide) (by decide), g 240 z (by decide) (by decide) (by decide), g 241 z (by decide) (by decide) (by decide), g 242 z (by decide) (by decide) (by decide), g 248 z (by decide) (by decide) (by decide), g 270 z (by decide) (by decide) (by decide), gm 1 (by decide) (by decide) (by decide), gm 2 (by decide) (by decide) (by decide), gm 6 (by decide) (by decide) (by decide), gm 7 (by decide) (by decide) (by decide), gm 8 (by decide) (by decide) (by decide), c247, m3, m4, m5, c250, c260]
          refine ⟨a1, a2, a3, a4, by rw [upd_s], fun n i en hn60 hi => ?_, a7⟩
          have : n' + 1 = n := nI_inj en (by omega) (by omega)
          by_cases w : i = n'
          · subst w; rw [upd_s, upd_s, upd_s, upd_s]; exact ⟨rfl, rfl⟩
          · rw [upd_n _ _ w, upd_n _ _ w, upd_n _ _ (by omega), upd_n _ _ (by omega)]
            exact a6 n' i hn (by omega) (by omega)
        · have g : ∀ k : Nat, cv (wrC S m n' o x) k z = cv S k z := fun k => by unfold wrC; rw [cs_n _ _ (fun w => hzm w.2), cs_n _ _ (fun w => hzm w.2), cs_n _ _ (fun w => hzm w.2)]
          refine (hR.1 z hz).same ?_ (fun k _ => g k) (fun k hk => ?_) (fun k j hk hj => ?_)
          · unfold wrC; rw [cs_n _ _ (fun w => absurd w.1 (by decide)), cs_n _ _ (fun w => absurd w.1 (by decide)), cs_n _ _ (fun w => absurd w.1 (by decide))]
          · unfold wrS
            by_cases k3 : k = 3
            · rw [k3, ms_s, upd_n _ _ hzm]
            · rw [ms_n _ _ k3, ms_n _ _ (by omega), ms_n _ _ (by omega)]
          · unfold wrS
            rcases hk with rfl | rfl | rfl
            · rw [ms_n _ _ (show 4 ≠ 3 by decide), ms_n _ _ (show 4 ≠ 5 by decide), ms_s, upd_n _ _ (by omega)]
            · rw [ms_n _ _ (show 5 ≠ 3 by decide), ms_s, upd_n _ _ (by omega)]
            · rw [ms_n _ _ (show 7 ≠ 3 by decide), ms_n _ _ (show 7 ≠ 5 by decide), ms_n _ _ (show 7 ≠ 4 by decide)]
      · unfold wrC wrS
        rw [cs_n _ _ (fun w => absurd w.1 (by decide)), cs_n _ _ (fun w => absurd w.1 (by decide)), cs_n _ _ (fun w => absurd w.1 (by decide)), ms_n _ _ (show 9 ≠ 3 by decide), ms_n _ _ (show 9 ≠ 5 by decide), ms_n _ _ (show 9 ≠ 4 by decide)]
        exact hR.2
