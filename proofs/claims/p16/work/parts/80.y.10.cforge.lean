/-! THE CLASS: all INSTRUCTIONS -/
/-- the draft alone -/
def CGd (S : CST) (G : GS) : Prop := cv S 72 0 0 = nI (gN G) ∧ ∀ p : Nat, p < gN G → cv S 80 0 (5 * p) = (gP G p).1 ∧ cv S 80 0 (5 * p + 1) = (gP G p).2.1 ∧ cv S 80 0 (5 * p + 2) = (gP G p).2.2.1 ∧ cv S 80 0 (5 * p + 3) = (gP G p).2.2.2.1 ∧ cv S 80 0 (5 * p + 4) = (gP G p).2.2.2.2
theorem CG.d {S : CST} {G : GS} (h : CG S G) : CGd S G := ⟨h.1, h.2.1⟩
theorem xh_add {S0 S : CST} {G : GS} {a1 a2 a3 a4 a5 : Int32} {Post : CST → Prop} (hE : Ex LK4 S0 S) (hc : CGd S G) (hN : gN G < 1511) (h : ∀ S' : CST, Ex LK4 S0 S' → CGd S' (gAdd (a1, a2, a3, a4, a5) G) → Post S') : wp_X3_add S a1 a2 a3 a4 a5 Post := by
  refine xp_X3_add hc.1 hN (fun S' hA => h S' (Ex.step hA.1 (by decide) hE) ?_)
  obtain ⟨e, n, old, c1, c2, c3, c4, c5⟩ := hA
  refine ⟨n, fun p hp => ?_⟩
  have hp : p < gN G + 1 := hp
  have eP : gP (gAdd (a1, a2, a3, a4, a5) G) p = if p = gN G then (a1, a2, a3, a4, a5) else gP G p := rfl
  rw [eP]
  by_cases w : p = gN G
  · rw [if_pos w, w]
    exact ⟨c1, c2, c3, c4, c5⟩
  · rw [if_neg w, old _ (by omega), old _ (by omega), old _ (by omega), old _ (by omega), old _ (by omega)]
    exact hc.2 p (by omega)
theorem xh_addGuards_7 {S0 : CST} {y : Nat} {i : Int32} {as : Nat → Bool} {val : Nat → Int32} {K Post : CST → Prop} (hy : y < cnP S0) (has : ∀ t : Nat, t < 11 → cv S0 190 0 t = bI (as t)) (hval : ∀ t : Nat, t < 11 → as t = true → cv S0 290 y t = val t) : ∀ (k t : Nat) (S : CST) (G : GS), t + k = 11 → Ex LK4 S0 S → CGd S G → gN G + k ≤ 1511 → (∀ S' : CST, Ex LK4 S0 S' → CGd S' (gGuards as val i k t G) → K S') → wl_X9_addGuards_7 K Post (k + 1) S y i (nI t) := by
  intro k
  induction k with
  | zero =>
    intro t S G ht hE hc _ h
    unfold wl_X9_addGuards_7
    obtain rfl : t = 11 := by omega
    exact ⟨fun _ => h S hE hc, fun c => absurd (show (11 : Int32) ≤ nI 11 by decide) c⟩
  | succ k ih =>
    intro t S G ht hE hc hN h
    have hyS : y < S.2.1 := by rw [show S.2.1 = S0.2.1 from congrArg Prod.fst hE.1]; exact hy
    unfold wl_X9_addGuards_7
    rw [nI_1, nI_clamp (n := t) (by omega), hE.2 190 rfl, has t (by omega)]
    refine ⟨fun c => absurd c (nI_ge (b := 11) (by omega) (by omega)), fun _ => ⟨vp_in_nI (by omega) (by omega), fun c => ?_, fun c => ?_⟩⟩
    · have e : gGuard as val i t G = G := if_neg (by rw [bI_0 c]; exact Bool.false_ne_true)
      refine ih (t + 1) S G (by omega) hE hc (by omega) (fun S' a b => h S' a ?_)
      show CGd S' (gGuards as val i k (t + 1) (gGuard as val i t G))
      rw [e]; exact b
    · have e : gGuard as val i t G = gAdd (gdT val i t) G := if_pos (bI_1 c)
      have vo : ∀ {P : Int32 → Prop}, P (val t) → wp_X5_valueOf S y (nI t) P := fun hp => by
        unfold wp_X5_valueOf
        rw [nI_clamp (n := t) (by omega), hE.2 290 rfl, hval t (by omega) (bI_1 c)]
        exact ⟨fun c => absurd c (nI_nn _ (by omega)), fun _ => ⟨fun c => absurd c (nI_ge (b := 11) (by omega) (by omega)), fun _ => ⟨cin_28 rfl hyS, cin_29 rfl hyS, vp_in_nI (by omega) (by omega), hp⟩⟩⟩
      have go : ∀ S' : CST, Ex LK4 S0 S' → CGd S' (gAdd (gdT val i t) G) → wl_X9_addGuards_7 K Post (k + 1) S' y i (nI (t + 1)) := fun S' a b => ih (t + 1) S' _ (by omega) a b (by show gN G + 1 + k ≤ 1511; omega) (fun S2 a2 b2 => h S2 a2 (by
        show CGd S2 (gGuards as val i k (t + 1) (gGuard as val i t G))
        rw [e]; exact b2))
      refine ⟨fun c3 => ⟨cin_28 rfl hyS, vo ?_⟩, fun c3 => ⟨cin_28 rfl hyS, vo ?_⟩⟩
      · have t3 : 3 ≤ t := Nat.not_lt.mp (fun q => nI_ge (b := 3) q (by omega) c3)
        rw [show nI t - 3 = nI (t - 3) from nI_sub (b := 3) t3]
        exact xh_add hE hc (by omega) (fun S' a b => go S' a (by rw [gdT_hi t3]; exact b))
      · have t3 : t < 3 := Nat.not_le.mp (fun q => c3 (nI_le (a := 3) q (by omega)))
        exact xh_add hE hc (by omega) (fun S' a b => go S' a (by rw [show gdT val i t = (17, nI t, val t, 0, i) from if_pos t3]; exact b))
theorem xh_addGuards {S0 S : CST} {y k t : Nat} {i : Int32} {as : Nat → Bool} {val : Nat → Int32} {G : GS} {Post : CST → Prop} (htk : t + k = 11) (hy : y < cnP S0) (has : ∀ t : Nat, t < 11 → cv S0 190 0 t = bI (as t)) (hval : ∀ t : Nat, t < 11 → as t = true → cv S0 290 y t = val t) (hE : Ex LK4 S0 S) (hc : CGd S G) (hN : gN G + k ≤ 1511) (h : ∀ S' : CST, Ex LK4 S0 S' → CGd S' (gGuards as val i k t G) → Post S') : wp_X9_addGuards S y (nI t) i Post := by
  unfold wp_X9_addGuards
  rw [if_neg (nI_nn t (by omega))]
  exact ⟨k + 1, xh_addGuards_7 hy has hval k t S G htk hE hc hN h⟩
/-- of LOCALS the ASSUMED ARGS alone are KNOWN -/
theorem xg_kaa_23 {S0 : CST} {y : Nat} {as : Nat → Bool} {val : Nat → Int32} {G : GS} {K Post : CST → Prop} (hy : y < cnP S0) (has : ∀ t : Nat, t < 11 → cv S0 190 0 t = bI (as t)) (hval : ∀ t : Nat, t < 11 → as t = true → cv S0 290 y t = val t) (h : ∀ S' : CST, Ex LK4 S0 S' → CG S' (gBegin as val G) → K S') :
    ∀ (k t : Nat) (S : CST), t + k = 3 → Ex LK4 S0 S → CG S (gN G, gP G, (fun r => if r < t then as r else false), val) → wl_X9_knowArgsAlone_23 K Post (k + 1) S y (nI t) := by
  intro k
  induction k with
  | zero =>
    intro t S ht hE hc
    unfold wl_X9_knowArgsAlone_23
    obtain rfl : t = 3 := by omega
    exact ⟨fun _ => h S hE hc, fun c => absurd (show (3 : Int32) ≤ nI 3 by decide) c⟩
  | succ k ih =>
    intro t S ht hE hc
    have hyS : y < S.2.1 := by rw [show S.2.1 = S0.2.1 from congrArg Prod.fst hE.1]; exact hy
    unfold wl_X9_knowArgsAlone_23
    rw [nI_1, nI_clamp (n := t) (by omega), hE.2 190 rfl, has t (by omega)]
    refine ⟨fun c => absurd c (nI_ge (b := 3) (by omega) (by omega)), fun _ => ⟨vp_in_nI (by omega) (by omega), fun c => ?_, fun c => ⟨cin_28 rfl hyS, ?_⟩⟩⟩
    · have e : (fun r => if r < t + 1 then as r else false) = (fun r => if r < t then as r else false) := funext fun r => by
        by_cases w : r = t
        · rw [if_pos (by omega), if_neg (by omega), w]; exact bI_0 c
        · by_cases w2 : r < t
          · rw [if_pos (by omega), if_pos w2]
          · rw [if_neg (by omega), if_neg w2]
      refine ih (t + 1) S (by omega) hE ?_
      rw [e]; exact hc
    · unfold wp_X5_valueOf
      rw [nI_clamp (n := t) (by omega), hE.2 290 rfl, hval t (by omega) (bI_1 c)]
      refine ⟨fun c => absurd c (nI_nn _ (by omega)), fun _ => ⟨fun c => absurd c (nI_ge (b := 11) (by omega) (by omega)), fun _ => ⟨cin_28 rfl hyS, cin_29 rfl hyS, vp_in_nI (by omega) (by omega), xg_know hE hc (by omega) (fun S' hE' hc' => ih (t + 1) S' (by omega) hE' ⟨hc'.1, hc'.2.1, fun r hr => ?_⟩)⟩⟩⟩
      obtain ⟨a, b⟩ := hc'.2.2 r hr
      have a : cv S' 160 0 r = bI (if r = t then true else (if r < t then as r else false)) := a
      have b : (if r = t then true else (if r < t then as r else false)) = true → cv S' 170 0 r = (if r = t then val t else val r) := b
      show cv S' 160 0 r = bI (if r < t + 1 then as r else false) ∧ ((if r < t + 1 then as r else false) = true → cv S' 170 0 r = val r)
      by_cases w : r = t
      · rw [if_pos w] at a b
        rw [if_pos (by omega), a, w]
        refine ⟨by rw [bI_1 c], fun _ => ?_⟩
        rw [w] at b
        rw [b rfl, if_pos rfl]
      · rw [if_neg w] at a b
        by_cases w2 : r < t
        · rw [if_pos w2] at a b
          rw [if_pos (by omega), a]
          exact ⟨rfl, fun q => by rw [b q, if_neg w]⟩
        · rw [if_neg w2] at a b
          rw [if_neg (by omega), a]
          exact ⟨rfl, fun q => absurd q Bool.false_ne_true⟩
theorem xg_kaa_2 {S0 : CST} {y : Nat} {G : GS} {K : CST → Nat → Prop} {Post : CST → Prop} (h : ∀ S' : CST, Ex LK4 S0 S' → CGd S' G → (∀ r : Nat, r < 15 → cv S' 160 0 r = 0) → K S' y) : ∀ (k r : Nat) (S : CST), r + k = 15 → Ex LK4 S0 S → CGd S G → (∀ q : Nat, q < r → cv S 160 0 q = 0) → wl_X9_knowArgsAlone_2 K Post (k + 1) S y (nI r) := by
  intro k
  induction k with
  | zero =>
    intro r S hr hE hc hz
    unfold wl_X9_knowArgsAlone_2
    obtain rfl : r = 15 := by omega
    exact ⟨fun _ => h S hE hc hz, fun c => absurd (show (15 : Int32) ≤ nI 15 by decide) c⟩
  | succ k ih =>
    intro r S hr hE hc hz
    unfold wl_X9_knowArgsAlone_2
    rw [nI_1, nI_clamp (n := r) (by omega), vn_0]
    refine ⟨fun c => absurd c (nI_ge (b := 15) (by omega) (by omega)), fun _ => ⟨vp_in_nI (by omega) (by omega), fun S12 e12 => ih (r + 1) S12 (by omega) (by rw [e12]; exact Ex.cs (by decide) hE) ?_ (fun q hq => ?_)⟩⟩
    · have n : ∀ k : Nat, k ≠ 160 → cv S12 k 0 = cv S k 0 := fun k a => by rw [e12, cs_n _ _ (fun w => a w.1)]
      exact ⟨by rw [n 72 (by decide)]; exact hc.1, fun p hp => by rw [n 80 (by decide)]; exact hc.2 p hp⟩
    · rw [e12, cs_s]
      by_cases w : q = r
      · rw [w, upd_s]
      · rw [upd_n _ _ w]; exact hz q (by omega)
theorem xg_knowArgs {S0 S : CST} {y : Nat} {as : Nat → Bool} {val : Nat → Int32} {G : GS} {Post : CST → Prop} (hy : y < cnP S0) (has : ∀ t : Nat, t < 11 → cv S0 190 0 t = bI (as t)) (hval : ∀ t : Nat, t < 11 → as t = true → cv S0 290 y t = val t) (hE : Ex LK4 S0 S) (hc : CGd S G) (h : ∀ S' : CST, Ex LK4 S0 S' → CG S' (gBegin as val G) → Post S') : wp_X9_knowArgsAlone S y Post := by
  unfold wp_X9_knowArgsAlone
  refine ⟨16, xg_kaa_2 (S0 := S0) (fun S21 hE21 hc21 hz => ⟨4, xg_kaa_23 hy has hval h 3 0 S21 (by omega) hE21 ⟨hc21.1, hc21.2, fun r hr => ?_⟩⟩) 15 0 S (by omega) hE hc (fun q hq => absurd hq (by omega))⟩
  show cv S21 160 0 r = bI (if r < 0 then as r else false) ∧ ((if r < 0 then as r else false) = true → cv S21 170 0 r = val r)
  rw [if_neg (by omega), hz r hr]
  exact ⟨rfl, fun q => absurd q Bool.false_ne_true⟩
abbrev LK5 : List Nat := [72, 80, 90, 160, 170]
theorem Ex.up {S0 S S' : CST} (h : Ex LK4 S S') (h0 : Ex LK5 S0 S) : Ex LK5 S0 S' := Ex.step h (by decide) h0
/-- the loop's state ahead of INSTRUCTION j -/
def FoC (S0 S : CST) (as : Nat → Bool) (val : Nat → Int32) (tg : Nat → Bool) (op : Nat → Nat) (xs dp : Nat → Int32) (H : GS) (j : Nat) : Prop :=
  Ex LK5 S0 S ∧ (j = 0 → CGd S H) ∧ (0 < j → CG S (gRun as val tg op xs dp H j)) ∧ ∀ i : Nat, i < j → ¬ dp i = -1 → cv S 90 0 i = nI (gPos as val tg op xs dp H i)
theorem xg_forge_37 {S0 : CST} {y n : Nat} {as : Nat → Bool} {val : Nat → Int32} {tg : Nat → Bool} {op : Nat → Nat} {xs dp : Nat → Int32} {H : GS} {hd : Int32} {K : CST → Nat → Int32 → Prop} {Post : CST → Nat → Prop} (hP : PrC S0 y n op xs dp) (hL : LkP as tg n op xs dp) (hH : CD as val (gN H) H) (hHN : gN H ≤ 11)
    (has : ∀ t : Nat, t < 11 → cv S0 190 0 t = bI (as t)) (hval : ∀ t : Nat, t < 11 → as t = true → cv S0 290 y t = val t) (htg : ∀ i : Nat, 0 < i → i < 60 → cv S0 180 0 i = bI (tg i)) (hK : ∀ S : CST, FoC S0 S as val tg op xs dp H n → K S y hd) :
    ∀ (k j : Nat) (S : CST), j + k = n → FoC S0 S as val tg op xs dp H j → wl_X9_forge_37 K Post (k + 1) S y hd (nI j) := by
  have hn60 := hP.2.2.1
  intro k
  induction k with
  | zero =>
    intro j S hj hF
    obtain rfl : j = n := by omega
    have hPS := hP.ex hF.1 rfl
    unfold wl_X9_forge_37
    rw [hPS.2.1]
    exact ⟨cin_24 rfl hPS.1, fun _ => hK S hF, fun c => absurd (nI_le (Nat.le_refl _) (by omega)) c⟩
  | succ k ih =>
    intro j S hj hF
    obtain ⟨hE, hF0, hF1, hFs⟩ := id hF
    have hPS := hP.ex hE rfl
    obtain ⟨hy, hl, _, hp⟩ := id hPS
    have hjn : j < n := by omega
    have hj60 : j < 60 := by omega
    have c24 : cin S 24 y := cin_24 rfl hy
    -- the INSTRUCTION itself, behind what is done at a TARGET
    have go : ∀ (d : Nat), dp j = nI d → InsOk as (op j) d (xs j) (dp (j + 1)) → (op j = 11 → j + 1 < n) → ∀ S2 : CST, Ex LK5 S0 S2 → cv S2 90 0 = cv S 90 0 → CG S2 (gTg as val (tg j) (gOn op dp j) (nI (j - 1)) (gRun as val tg op xs dp H j)) → wp_X3_begin S2 (nI j) (fun S34 => wp_X9_wantsTemplate S34 y (nI j) (fun S36 r36 => (((r36 : Int32) = 0) → (cin S36 24 y ∧ (wp_X8_opAt S36 y (nI j) (fun r39 => ((¬ ((r39 : Int32) = 11)) → wl_X9_forge_37 K Post (k + 1) S36 y hd (nI (j + 1))) ∧ (((r39 : Int32) = 11) → (cin S36 24 y ∧ (wp_X9_addGuards S36 y 3 (nI j) (fun S43 => wl_X9_forge_37 K Post (k + 1) S43 y hd (nI (j + 1)))))))))) ∧ ((¬ ((r36 : Int32) = 0)) → (wp_X3_addTemplate S36 y (nI j) (fun S46 => cin S46 24 y ∧ (wp_X8_opAt S46 y (nI j) (fun r48 => ((¬ ((r48 : Int32) = 11)) → wl_X9_forge_37 K Post (k + 1) S46 y hd (nI (j + 1))) ∧ (((r48 : Int32) = 11) → (cin S46 24 y ∧ (wp_X9_addGuards S46 y 3 (nI j) (fun S52 => wl_X9_forge_37 K Post (k + 1) S52 y hd (nI (j + 1))))))))))))) := by
      intro d hdj hI h11 S2 hE2 e90 hc2
      obtain ⟨i1, i2, i3⟩ := gRun_inv hL hH hHN j (by omega)
      have p2 := gTg_pot (as := as) (val := val) (tg := tg j) (on := gOn op dp j) (ip := nI (j - 1)) (G := gRun as val tg op xs dp H j)
      have hN : gN (gTg as val (tg j) (gOn op dp j) (nI (j - 1)) (gRun as val tg op xs dp H j)) ≤ 11 + 9 * j := by
        have : gN (gTg as val (tg j) (gOn op dp j) (nI (j - 1)) (gRun as val tg op xs dp H j)) ≤ pot (gTg as val (tg j) (gOn op dp j) (nI (j - 1)) (gRun as val tg op xs dp H j)) := Nat.le_add_right _ _
        omega
      refine xp_X3_begin hj60 ?_
      obtain ⟨S34, e34⟩ : ∃ z, z = cs S2 90 0 (upd (cv S2 90 0) j (cv S2 72 0 0)) := ⟨_, rfl⟩
      rw [← e34]
      have hE34 : Ex LK5 S0 S34 := by rw [e34]; exact Ex.cs (by decide) hE2
      have n34 : ∀ k : Nat, k ≠ 90 → cv S34 k 0 = cv S2 k 0 := fun k a => by rw [e34, cs_n _ _ (fun w => a w.1)]
      have hc34 : CG S34 (gTg as val (tg j) (gOn op dp j) (nI (j - 1)) (gRun as val tg op xs dp H j)) := ⟨by rw [n34 72 (by decide)]; exact hc2.1, fun p hp => by rw [n34 80 (by decide)]; exact hc2.2.1 p hp, fun r hr => by rw [n34 160 (by decide), n34 170 (by decide)]; exact hc2.2.2 r hr⟩
      have s34 : ∀ i : Nat, i < j + 1 → ¬ dp i = -1 → cv S34 90 0 i = nI (gPos as val tg op xs dp H i) := fun i hi hli => by
        rw [e34, cs_s]
        by_cases w : i = j
        · rw [w, upd_s, hc2.1]; rfl
        · rw [upd_n _ _ w, e90]; exact hFs i (by omega) hli
      refine xg_ins (S0 := S34) (val := val) (L := fun S' => wl_X9_forge_37 K Post (k + 1) S' y hd (nI (j + 1))) Ex.rf hc34 (hP.ex hE34 rfl) hjn hdj hI (fun q => ⟨h11 q, rfl⟩) (by omega) (fun t ht => by rw [hE34.2 190 rfl]; exact has t ht) (fun t ht hat => by rw [hE34.2 290 rfl]; exact hval t ht hat) (fun S' hE' hc' => ih (j + 1) S' (by omega) ⟨Ex.up hE' hE34, fun q => absurd q (by omega), fun _ => ?_, fun i hi hli => ?_⟩)
      · show CG S' (gStep as val tg op xs dp j (gRun as val tg op xs dp H j))
        rw [gStep_live hdj hI.2.1]; exact hc'
      · rw [hE'.2 90 rfl]; exact s34 i hi hli
    have kaa : ∀ (d : Nat) (G : GS) (S2 : CST), dp j = nI d → InsOk as (op j) d (xs j) (dp (j + 1)) → (op j = 11 → j + 1 < n) → Ex LK5 S0 S2 → cv S2 90 0 = cv S 90 0 → CGd S2 G → gTg as val (tg j) (gOn op dp j) (nI (j - 1)) (gRun as val tg op xs dp H j) = gBegin as val G → wp_X9_knowArgsAlone S2 y (fun S31 => wp_X3_begin S31 (nI j) (fun S34 => wp_X9_wantsTemplate S34 y (nI j) (fun S36 r36 => (((r36 : Int32) = 0) → (cin S36 24 y ∧ (wp_X8_opAt S36 y (nI j) (fun r39 => ((¬ ((r39 : Int32) = 11)) → wl_X9_forge_37 K Post (k + 1) S36 y hd (nI (j + 1))) ∧ (((r39 : Int32) = 11) → (cin S36 24 y ∧ (wp_X9_addGuards S36 y 3 (nI j) (fun S43 => wl_X9_forge_37 K Post (k + 1) S43 y hd (nI (j + 1)))))))))) ∧ ((¬ ((r36 : Int32) = 0)) → (wp_X3_addTemplate S36 y (nI j) (fun S46 => cin S46 24 y ∧ (wp_X8_opAt S46 y (nI j) (fun r48 => ((¬ ((r48 : Int32) = 11)) → wl_X9_forge_37 K Post (k + 1) S46 y hd (nI (j + 1))) ∧ (((r48 : Int32) = 11) → (cin S46 24 y ∧ (wp_X9_addGuards S46 y 3 (nI j) (fun S52 => wl_X9_forge_37 K Post (k + 1) S52 y hd (nI (j + 1)))))))))))))) := by
      intro d G S2 hdj hI h11 hE2 e90 hc2 eg
      refine xg_knowArgs (S0 := S2) (val := val) (hP.ex hE2 rfl).1 (fun t ht => by rw [hE2.2 190 rfl]; exact has t ht) (fun t ht hat => by rw [hE2.2 290 rfl]; exact hval t ht hat) Ex.rf hc2 (fun S31 hE31 hc31 => go d hdj hI h11 S31 (Ex.up hE31 hE2) (by rw [hE31.2 90 rfl]; exact e90) (by rw [eg]; exact hc31))
    unfold wl_X9_forge_37
    rw [hl, nI_1]
    refine ⟨c24, fun c => absurd c (nI_ge hjn (by omega)), fun _ => ⟨c24, xp_X8_isDead hy hl hn60 hjn (fun c => ⟨fun q => absurd q (by decide), fun _ => ?_⟩) (fun c => ⟨fun _ => ?_, fun q => absurd rfl q⟩)⟩⟩
    · have hdj : dp j = -1 := by rw [← (hp j hjn).2.2.2]; exact c
      refine ih (j + 1) S (by omega) ⟨hE, fun q => absurd q (by omega), fun _ => ?_, fun i hi hli => hFs i ?_ hli⟩
      · show CG S (gStep as val tg op xs dp j (gRun as val tg op xs dp H j))
        rw [gStep_dead hdj]
        refine hF1 ?_
        rcases Nat.eq_zero_or_pos j with w | w
        · rw [w, hL.2.2.2.1] at hdj; exact absurd hdj (nI_neg1 (by omega))
        · exact w
      · have : i ≠ j := fun w => hli (by rw [w]; exact hdj)
        omega
    · have hlive : ¬ dp j = -1 := by rw [← (hp j hjn).2.2.2]; exact c
      obtain ⟨d, hdj, hI, h11, hnx, htgj⟩ := (hL.2.2.2.2 j hjn).resolve_left hlive
      rw [nI_clamp (n := j) (by omega)]
      refine ⟨fun cz => ?_, fun cnz => ⟨vp_in_nI hj60 (by omega), fun ct => ?_, fun ct => ?_⟩⟩
      · have j0 : j = 0 := nI_inj (b := 0) cz (by omega) (by omega)
        subst j0
        refine ⟨fun _ => ⟨c24, kaa d H S hdj hI h11 hE rfl (hF0 rfl) ?_⟩, fun q => absurd (show nI 0 ≤ (0 : Int32) by decide) q⟩
        unfold gTg
        rw [hL.2.2.1, if_pos rfl, gOn_0, if_neg Bool.false_ne_true]
        rfl
      · have jp : 0 < j := by
          rcases Nat.eq_zero_or_pos j with w | w
          · rw [w] at cnz; exact absurd rfl cnz
          · exact w
        rw [hE.2 180 rfl, htg j jp hj60] at ct
        refine go d hdj hI h11 S hE rfl ?_
        unfold gTg
        rw [bI_0 ct, if_neg Bool.false_ne_true]
        exact hF1 jp
      · have jp : 0 < j := by
          rcases Nat.eq_zero_or_pos j with w | w
          · rw [w] at cnz; exact absurd rfl cnz
          · exact w
        rw [hE.2 180 rfl, htg j jp hj60] at ct
        have tt := bI_1 ct
        refine ⟨fun q => absurd (show nI j ≤ nI 0 from q) (nI_ge jp (by omega)), fun _ => ⟨c24, ?_⟩⟩
        rw [show nI j - 1 = nI (j - 1) from nI_m1 jp]
        have o20 := (hp (j - 1) (by omega)).1
        refine xp_X8_goesOnAt hy hl hn60 (by omega) (fun a b c => ⟨fun q => absurd q (by decide), fun _ => ?_⟩) (fun a => ⟨fun _ => ⟨c24, kaa d _ S hdj hI h11 hE rfl (hF1 jp).d ?_⟩, fun q => absurd rfl q⟩)
        · have on : gOn op dp j = true := decide_eq_true ⟨by omega, by rw [← (hp (j - 1) (by omega)).2.2.2]; exact a, fun w => b (by rw [(hp (j - 1) (by omega)).2.1, w]; rfl), fun w => c (by rw [(hp (j - 1) (by omega)).2.1, w]; rfl)⟩
          obtain ⟨i1, i2, i3⟩ := gRun_inv hL hH hHN j (by omega)
          have hN : gN (gRun as val tg op xs dp H j) ≤ pot (gRun as val tg op xs dp H j) := Nat.le_add_right _ _
          refine xg_lay8 (S0 := S) Ex.rf (hF1 jp) (by omega) (fun S81 hE81 hc81 => ?_)
          have hE81' := Ex.up hE81 hE
          refine ⟨cin_24 rfl (hP.ex hE81' rfl).1, kaa d _ S81 hdj hI h11 hE81' (hE81.2 90 rfl ▸ rfl) hc81.d ?_⟩
          unfold gTg
          rw [tt, if_pos rfl, on, if_pos rfl]
        · have on : gOn op dp j = false := decide_eq_false (fun w => by
            rcases a with a | a | a
            · exact w.2.1 (by rw [← (hp (j - 1) (by omega)).2.2.2]; exact a)
            · exact w.2.2.1 (nI_inj (b := 9) ((hp (j - 1) (by omega)).2.1.symm.trans a) (by omega) (by omega))
            · exact w.2.2.2 (nI_inj (b := 12) ((hp (j - 1) (by omega)).2.1.symm.trans a) (by omega) (by omega)))
          unfold gTg
          rw [tt, if_pos rfl, on, if_neg Bool.false_ne_true]
