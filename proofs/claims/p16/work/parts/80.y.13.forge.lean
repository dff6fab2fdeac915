/-! PUTTING INTO CODE, whole: the class, the reference -/
abbrev LK7 : List Nat := [72, 80, 90, 160, 170, 180, 190]
abbrev LM8 : List Nat := [15, 17, 23, 24, 25, 26, 27, 28, 29, 30, 31, 32, 33, 34, 35, 36]
def g0 : GS := (0, fun _ => (0, 0, 0, 0, 0), fun _ => false, fun _ => 0)
/-- the head's GUARDS -/
def gHd (as : Nat → Bool) (val : Nat → Int32) : GS := gGuards as val 0 11 0 g0
theorem gHd_CD {as : Nat → Bool} {val : Nat → Int32} : CD as val (gN (gHd as val)) (gHd as val) := CD.head rfl
theorem gHd_11 {as : Nat → Bool} {val : Nat → Int32} : gN (gHd as val) ≤ 11 := by
  have h1 := pot_guards (as := as) (val := val) (i := 0) 11 0 g0
  have h2 : gC g0 = 0 := Nat.le_zero.mp (sN_const (c := 0) 8 (fun t _ => by
    show (if false = true then 1 else 0) ≤ 0
    rw [if_neg Bool.false_ne_true]; exact Nat.le_refl _))
  have h3 : pot g0 = 0 := by show gN g0 + gC g0 = 0; rw [h2]; rfl
  have h4 : gN (gHd as val) ≤ pot (gHd as val) := Nat.le_add_right _ _
  have h5 : pot (gHd as val) ≤ pot g0 + 11 := h1
  omega
/-- all of it -/
def gAll (as : Nat → Bool) (val : Nat → Int32) (tg : Nat → Bool) (n : Nat) (op : Nat → Nat) (xs dp : Nat → Int32) : GS := gRun as val tg op xs dp (gHd as val) n
/-- code c of the class -/
def CodC (S : CST) (c : Nat) (making : Int32) (h N n : Nat) (P : Nat → T5) (st : Nat → Nat) (lv : Nat → Prop) : Prop := cv S 320 c 0 = making ∧ cv S 321 c 0 = nI h ∧ cv S 339 c 0 = nI (5 * N) ∧ cv S 349 c 0 = nI n ∧ (∀ p : Nat, p < N → cv S 330 c (5 * p) = (P p).1 ∧ cv S 330 c (5 * p + 1) = (P p).2.1 ∧ cv S 330 c (5 * p + 2) = (P p).2.2.1 ∧ cv S 330 c (5 * p + 3) = (P p).2.2.2.1 ∧ cv S 330 c (5 * p + 4) = (P p).2.2.2.2) ∧ ∀ i : Nat, i < n → lv i → cv S 340 c i = nI (st i)
/-- code k of the reference -/
def CodM (S : MST) (k N n : Nat) (P : Nat → T5) (st : Nat → Nat) (lv : Nat → Prop) : Prop := S 23 k = nI N ∧ (∀ p : Nat, p < N → S 25 (640 * k + p) = (P p).1 ∧ S 26 (640 * k + p) = (P p).2.1 ∧ S 27 (640 * k + p) = (P p).2.2.1 ∧ S 28 (640 * k + p) = (P p).2.2.2.1 ∧ S 29 (640 * k + p) = (P p).2.2.2.2) ∧ ∀ i : Nat, i < n → lv i → S 24 (60 * k + i) = nI (if i = 0 then 0 else st i)
theorem xg_forge {S : CST} {y n ax c : Nat} {lk vr val : Nat → Int32} {op : Nat → Nat} {xs dp : Nat → Int32} {Post : CST → Nat → Prop} (hP : PrC S y n op xs dp) (hw : Wid S) (hroom : cnC S < 104) (hax : cv S 241 y 0 = nI ax) (hax3 : ax ≤ 3) (hc : cv S 282 y 0 = nI c) (hc1 : 1 ≤ c) (hc2 : c < 2 ^ 31) (hlk : ∀ t : Nat, t < 11 → cv S 300 y t = lk t) (hvr : ∀ t : Nat, t < 11 → cv S 310 y t = vr t) (hval : ∀ t : Nat, t < 11 → cv S 290 y t = val t)
    (hL : LkP (asB lk vr ax n op xs dp) (tgB n op xs dp) n op xs dp)
    (h : ∀ (S' : CST) (C : Nat), (∀ k i : Nat, ¬ (i = cnC S ∧ 320 ≤ k) → LK7.contains k = false → cv S' k i = cv S k i) → S'.2 = (cnP S, cnC S + 1) → C = cnC S →
      CodC S' C (cv S 283 y 0 + 1) (gN (gHd (asB lk vr ax n op xs dp) val)) (gN (gAll (asB lk vr ax n op xs dp) val (tgB n op xs dp) n op xs dp)) n (gP (gAll (asB lk vr ax n op xs dp) val (tgB n op xs dp) n op xs dp)) (gPos (asB lk vr ax n op xs dp) val (tgB n op xs dp) op xs dp (gHd (asB lk vr ax n op xs dp) val)) (fun i => ¬ dp i = -1) → Post S' C) : wp_X9_forge S y Post := by
  have hn1 := hL.1
  unfold wp_X9_forge
  refine xp_X3_clear (fun S3 hE3 h72 _ => xg_findTargets (hP.ex hE3 rfl) (fun S5 hE5 ht5 => ?_))
  have hE5' : Ex [72, 90, 180] S S5 := Ex.step hE5 (by decide) (Ex.step hE3 (by decide) Ex.rf)
  refine xg_assume (lk := lk) (vr := vr) (hP.ex hE5' rfl) (by rw [hE5'.2 241 rfl]; exact hax) hax3 (by rw [hE5'.2 282 rfl]; exact hc) hc1 hc2 (fun t ht => by rw [hE5'.2 300 rfl]; exact hlk t ht) (fun t ht => by rw [hE5'.2 310 rfl]; exact hvr t ht) (fun S7 hE7 ha7 => ?_)
  have hE7' : Ex [72, 90, 180, 190] S S7 := Ex.step hE7 (by decide) (Ex.step hE5' (by decide) Ex.rf)
  have hP7 := hP.ex hE7' rfl
  have hval7 : ∀ t : Nat, t < 11 → asB lk vr ax n op xs dp t = true → cv S7 290 y t = val t := fun t ht _ => by rw [hE7'.2 290 rfl]; exact hval t ht
  have hg0 : CGd S7 g0 := ⟨by rw [hE7.2 72 rfl, hE5.2 72 rfl]; exact h72, fun p hp => absurd (show p < 0 from hp) (by omega)⟩
  refine ⟨cin_24 rfl hP7.1, xh_addGuards (as := asB lk vr ax n op xs dp) (val := val) (t := 0) (k := 11) rfl hP7.1 ha7 hval7 Ex.rf hg0 (by decide) (fun S10 hE10 hc10 => ?_)⟩
  have hE10' : Ex LK7 S S10 := Ex.step hE10 (by decide) (Ex.step hE7' (by decide) Ex.rf)
  have hP10 := hP.ex hE10' rfl
  have hc10 : CGd S10 (gHd (asB lk vr ax n op xs dp) val) := hc10
  unfold wp_X3_parts
  rw [hc10.1]
  refine ⟨n + 1, xg_forge_37 (S0 := S10) (H := gHd (asB lk vr ax n op xs dp) val) (val := val) hP10 hL gHd_CD gHd_11 (fun t ht => by rw [hE10.2 190 rfl]; exact ha7 t ht) (fun t ht hat => by rw [hE10.2 290 rfl]; exact hval7 t ht hat) (fun i hi hi60 => by rw [hE10.2 180 rfl, hE7.2 180 rfl]; exact ht5 i hi hi60) (fun S15 hF => ?_) n 0 S10 (by omega) ⟨Ex.rf, fun _ => hc10, fun q => absurd q (by omega), fun i hi => absurd hi (by omega)⟩⟩
  obtain ⟨hE15, _, hcn, hst⟩ := hF
  have hcn := hcn (by omega)
  have hE15' : Ex LK7 S S15 := Ex.step hE15 (by decide) hE10'
  have p1 : cnP S15 = cnP S := congrArg Prod.fst hE15'.1
  have p2 : cnC S15 = cnC S := congrArg Prod.snd hE15'.1
  have hy15 : y < S15.2.1 := by show y < cnP S15; rw [p1]; exact hP.1
  have hw15 : Wid S15 := by
    unfold Wid
    rw [p1, p2, hE15'.2 20 rfl, hE15'.2 220 rfl, hE15'.2 221 rfl, hE15'.2 249 rfl, hE15'.2 281 rfl]
    exact hw
  have hpot := (gRun_inv (val := val) hL gHd_CD gHd_11 n (Nat.le_refl _)).1
  have hNp : gN (gRun (asB lk vr ax n op xs dp) val (tgB n op xs dp) op xs dp (gHd (asB lk vr ax n op xs dp) val) n) ≤ pot (gRun (asB lk vr ax n op xs dp) val (tgB n op xs dp) op xs dp (gHd (asB lk vr ax n op xs dp) val) n) := Nat.le_add_right _ _
  have hn60 := hP.2.2.1
  refine ⟨cin_24 rfl hy15, cin_28 rfl hy15, cin_24 rfl hy15, cin_24 rfl hy15, ?_⟩
  rw [hE15'.2 283 rfl, hE15'.2 247 rfl, hP.2.1]
  refine xp_X3_finish hw15 (by rw [p2]; exact hroom) hcn.1 (by omega) hn60 (fun S' C hFi => ?_)
  obtain ⟨f1, f2, f3, f4, f5, f6, f7, f8, f9⟩ := hFi
  refine h S' C (fun k i hk hk7 => ?_) (by rw [f1, p1, p2]) (f2.trans p2) ⟨f4, f5, f6, f7, fun p hp => ?_, fun i hi hli => ?_⟩
  · rw [f3 k i (by rw [p2]; exact hk), hE15'.2 k hk7]
  · have hp' : p < gN (gRun (asB lk vr ax n op xs dp) val (tgB n op xs dp) op xs dp (gHd (asB lk vr ax n op xs dp) val) n) := hp
    rw [f8 _ (by omega), f8 _ (by omega), f8 _ (by omega), f8 _ (by omega), f8 _ (by omega)]
    exact hcn.2.1 p hp
  · rw [f9 i hi]; exact hst i hi hli
theorem mg_mk_48 {S0 : MST} {c m : Nat} {own : Int32} {as : Nat → Bool} {val : Nat → Int32} {K : MST → Int32 → Prop} {Post : MST → Prop} (hc96 : c < 96) (hm : m < 8) (has : ∀ t : Nat, t < 11 → S0 30 t = bI (as t)) (hval : ∀ t : Nat, t < 11 → as t = true → S0 20 (11 * m + t) = val t) : ∀ (k f : Nat) (S : MST) (G : GS), f + k = 3 → Fm LM4 S0 S → RGd S c own G → gN G + k ≤ 640 → (∀ S' : MST, Fm LM4 S0 S' → RGd S' c own (gGuards as val own k f G) → K S' (nI m)) → wl_X12_makeCode_48 K Post (k + 1) S (nI m) (nI f) := by
  intro k
  induction k with
  | zero =>
    intro f S G hf hE hc _ h
    unfold wl_X12_makeCode_48
    obtain rfl : f = 3 := by omega
    exact ⟨fun _ => h S hE hc, fun w => absurd (show (3 : Int32) ≤ nI 3 by decide) w⟩
  | succ k ih =>
    intro f S G hf hE hc hN h
    unfold wl_X12_makeCode_48
    rw [nI_1, nI_clamp (n := f) (by omega), hE 30 rfl, has _ (by omega), ix11, nI_clamp (n := 11 * m + f) (by omega), hE 20 rfl]
    refine ⟨fun w => absurd w (nI_ge (b := 3) (by omega) (by omega)), fun _ => ⟨vp_in_nI (by omega) (by omega), fun w => ?_, fun w => ⟨vp_in_nI (by omega) (by omega), ?_⟩⟩⟩
    · have e : gGuard as val own f G = G := if_neg (by rw [bI_0 w]; exact Bool.false_ne_true)
      refine ih (f + 1) S G (by omega) hE hc (by omega) (fun S' a b => h S' a ?_)
      show RGd S' c own (gGuards as val own k (f + 1) (gGuard as val own f G))
      rw [e]; exact b
    · have e : gGuard as val own f G = gAdd (gdT val own f) G := if_pos (bI_1 w)
      have e2 : gdT val own f = (17, nI f, val f, 0, own) := if_pos (by omega)
      rw [hval f (by omega) (bI_1 w)]
      refine mh_part hE hc hc96 (by omega) (fun S' hE' hc' => ih (f + 1) S' _ (by omega) hE' hc' (by show gN G + 1 + k ≤ 640; omega) (fun S2 a b => h S2 a ?_))
      show RGd S2 c own (gGuards as val own k (f + 1) (gGuard as val own f G))
      rw [e, e2]; exact b
theorem mg_makeCode {S : MST} {m n ax k : Nat} {lk vr val : Nat → Int32} {op : Nat → Nat} {xs dp : Nat → Int32} {Post : MST → Prop} (hP : PrM S m n op xs dp) (hax : S 1 m = nI ax) (hax3 : ax ≤ 3) (hk : S 17 m = nI k) (hk12 : k < 12) (hlk : ∀ t : Nat, t < 11 → S 21 (11 * m + t) = lk t) (hvr : ∀ t : Nat, t < 11 → S 22 (11 * m + t) = vr t) (hval : ∀ t : Nat, t < 11 → S 20 (11 * m + t) = val t)
    (hL : LkP (asB lk vr ax n op xs dp) (tgB n op xs dp) n op xs dp) (hcall : ∀ i d : Nat, i < n → d ≤ 8 → dp i = nI d → op i = 11 → ∃ y ax : Nat, y < 8 ∧ xs i = nI y ∧ S 1 y = nI ax ∧ ax ≤ d ∧ dp (i + 1) = nI (d - ax + 1))
    (h : ∀ S' : MST, Fm LM8 S S' → S' 17 = upd (S 17) m (nI (k + 1)) → S' 15 = upd (S 15) m 1 → CodM S' (12 * m + k) (gN (gAll (asB lk vr ax n op xs dp) val (tgB n op xs dp) n op xs dp)) n (gP (gAll (asB lk vr ax n op xs dp) val (tgB n op xs dp) n op xs dp)) (gPos (asB lk vr ax n op xs dp) val (tgB n op xs dp) op xs dp (gHd (asB lk vr ax n op xs dp) val)) (fun i => ¬ dp i = -1) → Post S') : wp_X12_makeCode S (nI m) Post := by
  have hm := hP.1
  have hc96 : 12 * m + k < 96 := by omega
  have v8 : vp_in (nI m) 8 := vp_in_nI hm (by omega)
  have hdp : ∀ i : Nat, i < n → dp i = -1 ∨ ∃ d : Nat, d ≤ 8 ∧ dp i = nI d := fun i hi => (hL.2.2.2.2 i hi).imp id (fun ⟨d, a, b, _⟩ => ⟨d, b.2.1, a⟩)
  unfold wp_X12_makeCode
  refine mg_assumes (lk := lk) (vr := vr) hP hdp hax hax3 hlk hvr (fun S1 hE1 ha1 => ⟨v8, v8, fun S3 e3 => ⟨v8, fun S4 e4 => ?_⟩⟩)
  rw [nI_clamp (n := m) (by omega), hE1 17 rfl, hk, nI_1] at e3
  rw [nI_clamp (n := m) (by omega), vn_1] at e4
  have e17 : S4 17 = upd (S 17) m (nI (k + 1)) := by rw [e4, ms_n _ _ (by decide), e3, ms_s]
  refine sp_codeNow hm (k := k + 1) (by rw [e17, upd_s]) (by omega) (by omega) (fun S6 e6 => ?_)
  rw [show k + 1 - 1 = k by omega] at e6
  have g31 : S6 31 0 = nI (12 * m + k) := by rw [e6, ms_s]
  rw [g31, nI_clamp (n := 12 * m + k) (by omega)]
  refine ⟨vp_in_nI hc96 (by omega), fun S7 e7 S8 e8 => ?_⟩
  have hE8 : Fm LM8 S S8 := Fm.put e8 rfl (Fm.put e7 rfl (Fm.put e6 rfl (Fm.put e4 rfl (Fm.put e3 rfl (Fm.step hE1 (by decide) Fm.rf)))))
  have s17 : S8 17 = upd (S 17) m (nI (k + 1)) := by rw [e8, ms_n _ _ (by decide), e7, ms_n _ _ (by decide), e6, ms_n _ _ (by decide), e17]
  have s15 : S8 15 = upd (S 15) m 1 := by rw [e8, ms_n _ _ (by decide), e7, ms_n _ _ (by decide), e6, ms_n _ _ (by decide), e4, ms_s, e3, ms_n _ _ (by decide), hE1 15 rfl]
  have s30 : S8 30 = S1 30 := by rw [e8, ms_n _ _ (by decide), e7, ms_n _ _ (by decide), e6, ms_n _ _ (by decide), e4, ms_n _ _ (by decide), e3, ms_n _ _ (by decide)]
  have hr0 : RGd S8 (12 * m + k) 0 g0 := ⟨by rw [e8, ms_n _ _ (by decide), e7, ms_n _ _ (by decide)]; exact g31, by rw [e8, ms_s], by rw [e8, ms_n _ _ (by decide), e7, ms_s, upd_s]; rfl, fun p hp => absurd (show p < 0 from hp) (by omega)⟩
  have has8 : ∀ t : Nat, t < 11 → S8 30 t = bI (asB lk vr ax n op xs dp t) := fun t ht => by rw [s30]; exact ha1 t ht
  have hval8 : ∀ t : Nat, t < 11 → asB lk vr ax n op xs dp t = true → S8 20 (11 * m + t) = val t := fun t ht _ => by rw [hE8 20 rfl]; exact hval t ht
  have n3 : gN (gGuards (asB lk vr ax n op xs dp) val 0 3 0 g0) ≤ 3 := by
    have h1 := pot_guards (as := asB lk vr ax n op xs dp) (val := val) (i := 0) 3 0 g0
    have h2 : gC g0 = 0 := Nat.le_zero.mp (sN_const (c := 0) 8 (fun t _ => by
      show (if false = true then 1 else 0) ≤ 0
      rw [if_neg Bool.false_ne_true]; exact Nat.le_refl _))
    have h3 : pot g0 = 0 := by show gN g0 + gC g0 = 0; rw [h2]; rfl
    have h4 : gN (gGuards (asB lk vr ax n op xs dp) val 0 3 0 g0) ≤ pot (gGuards (asB lk vr ax n op xs dp) val 0 3 0 g0) := Nat.le_add_right _ _
    omega
  refine ⟨4, mg_mk_48 (as := asB lk vr ax n op xs dp) (val := val) hc96 hm has8 hval8 3 0 S8 g0 rfl Fm.rf hr0 (by decide) (fun S87 hE87 hc87 => ?_)⟩
  unfold wp_X12_fieldGuards
  refine ⟨9, mh_fg2 (as := asB lk vr ax n op xs dp) (val := val) hc96 hm has8 hval8 8 0 S87 _ rfl hE87 hc87 (by omega) (fun S9 hE9 hc9 => ?_)⟩
  have eH : gGuards (asB lk vr ax n op xs dp) val 0 8 (3 + 0) (gGuards (asB lk vr ax n op xs dp) val 0 3 0 g0) = gHd (asB lk vr ax n op xs dp) val := (gGuards_split 3 8 0 g0).symm
  rw [eH] at hc9
  refine mg_begins (as := asB lk vr ax n op xs dp) (val := val) hm has8 hval8 hE9 hc9 (fun S10 hE10 hc10 => ⟨n + 1, ?_⟩)
  have hE10' : Fm LM8 S S10 := Fm.step hE10 (by decide) hE8
  refine mg_mk_99 (S0 := S10) (as := asB lk vr ax n op xs dp) (val := val) (H := gHd (asB lk vr ax n op xs dp) val) hc96 (hP.fm hE10' rfl) hL gHd_CD gHd_11 (fun t ht => by rw [hE10 30 rfl]; exact has8 t ht) (fun t ht hat => by rw [hE10 20 rfl]; exact hval8 t ht hat) (fun i d hi hd8 hd ho => by rw [hE10' 1 rfl]; exact hcall i d hi hd8 hd ho) (fun S' hF => ?_) n 0 S10 (by omega) ⟨Fm.rf, ⟨0, hc10, fun q => absurd q (by rw [gOn_0]; exact Bool.false_ne_true)⟩, fun i hi => absurd hi (by omega)⟩
  obtain ⟨hE', ⟨own, hR, _⟩, hst⟩ := hF
  exact h S' (Fm.step hE' (by decide) hE10') (by rw [hE' 17 rfl, hE10 17 rfl]; exact s17) (by rw [hE' 15 rfl, hE10 15 rfl]; exact s15) ⟨hR.2.2.1, hR.2.2.2.1, hst⟩
