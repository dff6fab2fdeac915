/-! THE CLASS puts into code as the one function says -/
abbrev LK4 : List Nat := [72, 80, 160, 170]
def bI (b : Bool) : Int32 := if b = true then 1 else 0
theorem bI_0 {b : Bool} (h : bI b = 0) : b = false := by cases b with | false => rfl | true => exact absurd h (by decide)
theorem bI_1 {b : Bool} (h : ¬ bI b = 0) : b = true := by cases b with | false => exact absurd rfl h | true => rfl
/-- the draft, and what is KNOWN -/
def CG (S : CST) (G : GS) : Prop := cv S 72 0 0 = nI (gN G) ∧ (∀ p : Nat, p < gN G → cv S 80 0 (5 * p) = (gP G p).1 ∧ cv S 80 0 (5 * p + 1) = (gP G p).2.1 ∧ cv S 80 0 (5 * p + 2) = (gP G p).2.2.1 ∧ cv S 80 0 (5 * p + 3) = (gP G p).2.2.2.1 ∧ cv S 80 0 (5 * p + 4) = (gP G p).2.2.2.2) ∧
  ∀ r : Nat, r < 15 → cv S 160 0 r = bI (gK G r) ∧ (gK G r = true → cv S 170 0 r = gW G r)
theorem xg_add {S0 S : CST} {G : GS} {a1 a2 a3 a4 a5 : Int32} {Post : CST → Prop} (hE : Ex LK4 S0 S) (hc : CG S G) (hN : gN G < 1511) (h : ∀ S' : CST, Ex LK4 S0 S' → CG S' (gAdd (a1, a2, a3, a4, a5) G) → Post S') : wp_X3_add S a1 a2 a3 a4 a5 Post := by
  refine xp_X3_add hc.1 hN (fun S' hA => h S' (Ex.step hA.1 (by decide) hE) ?_)
  obtain ⟨e, n, old, c1, c2, c3, c4, c5⟩ := hA
  refine ⟨n, fun p hp => ?_, fun r hr => by rw [e.2 160 rfl, e.2 170 rfl]; exact hc.2.2 r hr⟩
  have hp : p < gN G + 1 := hp
  have eP : gP (gAdd (a1, a2, a3, a4, a5) G) p = if p = gN G then (a1, a2, a3, a4, a5) else gP G p := rfl
  rw [eP]
  by_cases w : p = gN G
  · rw [if_pos w, w]
    exact ⟨c1, c2, c3, c4, c5⟩
  · rw [if_neg w, old _ (by omega), old _ (by omega), old _ (by omega), old _ (by omega), old _ (by omega)]
    exact hc.2.1 p (by omega)
theorem xg_know {S0 S : CST} {G : GS} {r : Nat} {v : Int32} {Post : CST → Prop} (hE : Ex LK4 S0 S) (hc : CG S G) (hr : r < 15) (h : ∀ S' : CST, Ex LK4 S0 S' → CG S' (gKnow r v G) → Post S') : wp_X9_know S (nI r) v Post := by
  unfold wp_X9_know
  rw [nI_clamp (n := r) (by omega), vn_1]
  refine ⟨fun c => absurd c (nI_nn r (by omega)), fun _ => ⟨fun c => absurd c (nI_ge (b := 15) hr (by omega)), fun _ => ⟨vp_in_nI hr (by omega), fun S5 e5 => ⟨vp_in_nI hr (by omega), fun S8 e8 => h S8 ?_ ?_⟩⟩⟩⟩
  · rw [e8, e5]; exact Ex.cs (by decide) (Ex.cs (by decide) hE)
  · have n : ∀ k : Nat, k ≠ 160 → k ≠ 170 → cv S8 k 0 = cv S k 0 := fun k a b => by rw [e8, cs_n _ _ (fun w => b w.1), e5, cs_n _ _ (fun w => a w.1)]
    have e1 : cv S8 160 0 = upd (cv S 160 0) r 1 := by rw [e8, cs_n _ _ (fun w => absurd w.1 (by decide)), e5, cs_s]
    have e2 : cv S8 170 0 = upd (cv S 170 0) r v := by rw [e8, cs_s, e5, cs_n _ _ (fun w => absurd w.1 (by decide))]
    refine ⟨by rw [n 72 (by decide) (by decide)]; exact hc.1, fun p hp => by rw [n 80 (by decide) (by decide)]; exact hc.2.1 p hp, fun q hq => ?_⟩
    rw [e1, e2]
    show upd (cv S 160 0) r 1 q = bI (if q = r then true else gK G q) ∧ ((if q = r then true else gK G q) = true → upd (cv S 170 0) r v q = (if q = r then v else gW G q))
    by_cases w : q = r
    · rw [if_pos w, if_pos w, w, upd_s, upd_s]; exact ⟨rfl, fun _ => rfl⟩
    · rw [if_neg w, if_neg w, upd_n _ _ w, upd_n _ _ w]; exact hc.2.2 q hq
theorem xg_forget {S0 S : CST} {G : GS} {r : Nat} {Post : CST → Prop} (hE : Ex LK4 S0 S) (hc : CG S G) (hr : r < 15) (h : ∀ S' : CST, Ex LK4 S0 S' → CG S' (gForget r G) → cv S' 170 0 = cv S 170 0 → Post S') : wp_X9_forget S (nI r) Post := by
  unfold wp_X9_forget
  rw [nI_clamp (n := r) (by omega), vn_0]
  refine ⟨fun c => absurd c (nI_nn r (by omega)), fun _ => ⟨fun c => absurd c (nI_ge (b := 15) hr (by omega)), fun _ => ⟨vp_in_nI hr (by omega), fun S5 e5 => h S5 ?_ ?_ ?_⟩⟩⟩
  · rw [e5]; exact Ex.cs (by decide) hE
  · have n : ∀ k : Nat, k ≠ 160 → cv S5 k 0 = cv S k 0 := fun k a => by rw [e5, cs_n _ _ (fun w => a w.1)]
    have e1 : cv S5 160 0 = upd (cv S 160 0) r 0 := by rw [e5, cs_s]
    refine ⟨by rw [n 72 (by decide)]; exact hc.1, fun p hp => by rw [n 80 (by decide)]; exact hc.2.1 p hp, fun q hq => ?_⟩
    rw [e1, n 170 (by decide)]
    show upd (cv S 160 0) r 0 q = bI (if q = r then false else gK G q) ∧ ((if q = r then false else gK G q) = true → cv S 170 0 q = gW G q)
    by_cases w : q = r
    · rw [if_pos w, w, upd_s]; exact ⟨rfl, fun c => absurd c Bool.false_ne_true⟩
    · rw [if_neg w, upd_n _ _ w]; exact hc.2.2 q hq
  · rw [e5, cs_n _ _ (fun w => absurd w.1 (by decide))]
theorem xg_isKnown {S : CST} {G : GS} {r : Nat} {Post : Int32 → Prop} (hc : CG S G) (hr : r < 15) (h : Post (bI (gK G r))) : wp_X9_isKnown S (nI r) Post := by
  unfold wp_X9_isKnown
  rw [nI_clamp (n := r) (by omega), (hc.2.2 r hr).1]
  refine ⟨fun c => absurd c (nI_nn r (by omega)), fun _ => ⟨fun c => absurd c (nI_ge (b := 15) hr (by omega)), fun _ => ⟨vp_in_nI hr (by omega), fun c => ?_, fun c => ?_⟩⟩⟩
  · rw [bI_0 c] at h; exact h
  · rw [bI_1 c] at h; exact h
theorem xg_worthOf {S : CST} {r : Nat} {Post : Int32 → Prop} (hr : r < 15) (h : Post (cv S 170 0 r)) : wp_X9_worthOf S (nI r) Post := by
  unfold wp_X9_worthOf
  rw [nI_clamp (n := r) (by omega)]
  exact ⟨fun c => absurd c (nI_nn r (by omega)), fun _ => ⟨fun c => absurd c (nI_ge (b := 15) hr (by omega)), fun _ => ⟨vp_in_nI hr (by omega), h⟩⟩⟩
theorem gN_lay {r : Nat} {i : Int32} {G : GS} : gN (gLay r i G) ≤ gN G + 1 := by
  unfold gLay
  split
  · exact Nat.le_refl _
  · omega
theorem xg_lay_7 {S0 : CST} {i : Int32} {K : CST → Prop} {Post : CST → Prop} : ∀ (k a b : Nat) (S : CST) (G : GS), a + k = b + 1 → b < 15 → Ex LK4 S0 S → CG S G → gN G + k ≤ 1511 → (∀ S' : CST, Ex LK4 S0 S' → CG S' (gLays i k a G) → K S') → wl_X9_lay_7 K Post (k + 1) S (nI b) i (nI a) := by
  intro k
  induction k with
  | zero =>
    intro a b S G hab hb hE hc _ h
    unfold wl_X9_lay_7
    exact ⟨fun _ => h S hE hc, fun c => absurd (Int32.not_le.mp (nI_ge (a := b) (b := a) (by omega) (by omega))) c⟩
  | succ k ih =>
    intro a b S G hab hb hE hc hN h
    unfold wl_X9_lay_7
    rw [nI_1, nI_clamp (n := a) (by omega), (hc.2.2 a (by omega)).1, vn_0]
    have va : vp_in (nI a) 15 := vp_in_nI (by omega) (by omega)
    refine ⟨fun c => absurd c (Int32.not_lt.mpr (nI_le (a := a) (b := b) (by omega) (by omega))), fun _ => ⟨fun c => absurd c (nI_ge (b := 15) (by omega) (by omega)), fun _ => ⟨va, fun c => ?_, fun c => ⟨va, ?_⟩⟩⟩⟩
    · have e : gLay a i G = G := if_neg (by rw [bI_0 c]; exact Bool.false_ne_true)
      refine ih (a + 1) b S G (by omega) hb hE hc (by omega) (fun S' hE' hc' => h S' hE' ?_)
      show CG S' (gLays i k (a + 1) (gLay a i G))
      rw [e]; exact hc'
    · have kt := bI_1 c
      have e : gLay a i G = gForget a (gAdd (0, nI a, gW G a, 0, i) G) := if_pos kt
      rw [(hc.2.2 a (by omega)).2 kt]
      refine xg_add hE hc (by omega) (fun S10 hE10 hc10 => ⟨va, fun S13 e13 => ?_⟩)
      refine ih (a + 1) b S13 (gLay a i G) (by omega) hb (by rw [e13]; exact Ex.cs (by decide) hE10) ?_ (by have := gN_lay (r := a) (i := i) (G := G); omega) (fun S' hE' hc' => h S' hE' hc')
      rw [e]
      have n : ∀ k : Nat, k ≠ 160 → cv S13 k 0 = cv S10 k 0 := fun k a => by rw [e13, cs_n _ _ (fun w => a w.1)]
      have e1 : cv S13 160 0 = upd (cv S10 160 0) a 0 := by rw [e13, cs_s]
      refine ⟨by rw [n 72 (by decide)]; exact hc10.1, fun p hp => by rw [n 80 (by decide)]; exact hc10.2.1 p hp, fun q hq => ?_⟩
      rw [e1, n 170 (by decide)]
      show upd (cv S10 160 0) a 0 q = bI (if q = a then false else gK G q) ∧ ((if q = a then false else gK G q) = true → cv S10 170 0 q = gW G q)
      by_cases w : q = a
      · rw [if_pos w, w, upd_s]; exact ⟨rfl, fun c => absurd c Bool.false_ne_true⟩
      · rw [if_neg w, upd_n _ _ w]; exact hc10.2.2 q hq
theorem xg_lay {S0 S : CST} {G : GS} {k a b : Nat} {i : Int32} {Post : CST → Prop} (hab : a + k = b + 1) (hb : b < 15) (hE : Ex LK4 S0 S) (hc : CG S G) (hN : gN G + k ≤ 1511) (h : ∀ S' : CST, Ex LK4 S0 S' → CG S' (gLays i k a G) → Post S') : wp_X9_lay S (nI a) (nI b) i Post := by
  unfold wp_X9_lay
  rw [if_neg (nI_nn a (by omega))]
  exact ⟨k + 1, xg_lay_7 k a b S G hab hb hE hc hN h⟩
theorem xg_lay1 {S0 S : CST} {G : GS} {a : Nat} {i : Int32} {Post : CST → Prop} (hb : a < 15) (hE : Ex LK4 S0 S) (hc : CG S G) (hN : gN G < 1511) (h : ∀ S' : CST, Ex LK4 S0 S' → CG S' (gLay a i G) → Post S') : wp_X9_lay S (nI a) (nI a) i Post :=
  xg_lay (k := 1) rfl hb hE hc hN h
/-- two, one behind the other -/
theorem xg_lay2 {S0 S : CST} {G : GS} {d : Nat} {i : Int32} {Post : CST → Prop} (hb : 6 + d < 15) (hE : Ex LK4 S0 S) (hc : CG S G) (hN : gN G + 2 ≤ 1511) (h : ∀ S' : CST, Ex LK4 S0 S' → CG S' (gLay (6 + d) i (gLay (5 + d) i G)) → Post S') : wp_X9_lay S (nI (5 + d)) (nI (6 + d)) i Post := by
  refine xg_lay (k := 2) (by omega) hb hE hc hN (fun S' hE' hc' => h S' hE' ?_)
  have e : gLays i 2 (5 + d) G = gLay (5 + d + 1) i (gLay (5 + d) i G) := rfl
  rw [e, show 5 + d + 1 = 6 + d by omega] at hc'
  exact hc'
theorem xg_lay8 {S0 S : CST} {G : GS} {i : Int32} {Post : CST → Prop} (hE : Ex LK4 S0 S) (hc : CG S G) (hN : gN G + 8 ≤ 1511) (h : ∀ S' : CST, Ex LK4 S0 S' → CG S' (gLays i 8 7 G) → Post S') : wp_X9_lay S 7 14 i Post :=
  xg_lay (a := 7) (b := 14) (k := 8) rfl (by decide) hE hc hN h
theorem xg_reckoned {o : Nat} {a b : Int32} {Post : Int32 → Prop} (h3 : 3 ≤ o) (h8 : o ≤ 8) (hb : o = 6 → ¬ b = 0) (h : Post (clc o a b)) : wp_X11_reckoned (nI o - 3 + 2) a b Post := by
  unfold wp_X11_reckoned
  rcases (show o = 3 ∨ o = 4 ∨ o = 5 ∨ o = 6 ∨ o = 7 ∨ o = 8 by omega) with rfl | rfl | rfl | rfl | rfl | rfl
  · exact ⟨fun c => absurd c (by decide), fun _ => h, fun c => absurd c (by decide), fun c => absurd c (by decide), fun c => absurd c (by decide), fun c => absurd c (by decide)⟩
  · exact ⟨fun c => absurd c (by decide), fun c => absurd c (by decide), fun _ => h, fun c => absurd c (by decide), fun c => absurd c (by decide), fun c => absurd c (by decide)⟩
  · exact ⟨fun c => absurd c (by decide), fun c => absurd c (by decide), fun c => absurd c (by decide), fun _ => h, fun c => absurd c (by decide), fun c => absurd c (by decide)⟩
  · exact ⟨fun c => absurd c (by decide), fun c => absurd c (by decide), fun c => absurd c (by decide), fun c => absurd c (by decide), fun _ => ⟨fun q => ⟨q, h⟩, fun q => absurd q (hb rfl)⟩, fun c => absurd c (by decide)⟩
  · have h' : Post (if a < b then 1 else 0) := h
    refine ⟨fun c => absurd c (by decide), fun c => absurd c (by decide), fun c => absurd c (by decide), fun c => absurd c (by decide), fun c => absurd c (by decide), fun _ => ⟨fun q => ?_, fun q => ?_⟩⟩
    · rw [if_neg (Int32.not_lt.mpr q)] at h'; exact h'
    · rw [if_pos (Int32.not_le.mp q)] at h'; exact h'
  · have h' : Post (if a = b then 1 else 0) := h
    refine ⟨fun _ => ⟨fun q => ?_, fun q => ?_⟩, fun c => absurd c (by decide), fun c => absurd c (by decide), fun c => absurd c (by decide), fun c => absurd c (by decide), fun c => absurd c (by decide)⟩
    · rw [if_neg q] at h'; exact h'
    · rw [if_pos q] at h'; exact h'
/-! one INSTRUCTION -/
theorem xg_isCopyKnown {S0 S : CST} {G : GS} {s r : Nat} {Post : CST → Int32 → Prop} (hE : Ex LK4 S0 S) (hc : CG S G) (hs : s < 15) (hr : r < 15) (h0 : gK G s = false → Post S 0) (h1 : gK G s = true → ∀ S' : CST, Ex LK4 S0 S' → CG S' (gKnow r (gW G s) G) → Post S' 1) : wp_X9_isCopyKnown S (nI s) (nI r) Post := by
  unfold wp_X9_isCopyKnown
  refine xg_isKnown hc hs ⟨fun c => h0 (bI_0 c), fun c => xg_worthOf hs ?_⟩
  rw [(hc.2.2 s hs).2 (bI_1 c)]
  exact xg_know hE hc hr (h1 (bI_1 c))
theorem xg_isStoredKnown {S0 S : CST} {G : GS} {l d : Nat} {i : Int32} {Post : CST → Int32 → Prop} (hE : Ex LK4 S0 S) (hc : CG S G) (hl : l < 7) (hd : d ≤ 8) (hd1 : 1 ≤ d) (hN : gN G < 1511) (h0 : gK G (6 + d) = false → ∀ S' : CST, Ex LK4 S0 S' → CG S' (gForget l G) → Post S' 0) (h1 : gK G (6 + d) = true → ∀ S' : CST, Ex LK4 S0 S' → CG S' (gForget (6 + d) (gKnow l (gW G (6 + d)) (gAdd (0, nI l, gW G (6 + d), 0, i) G))) → Post S' 1) : wp_X9_isStoredKnown S (nI l) (nI (6 + d)) i Post := by
  unfold wp_X9_isStoredKnown
  refine xg_isKnown hc (by omega) ⟨fun c => xg_forget hE hc (by omega) (fun S' a b _ => h0 (bI_0 c) S' a b), fun c => xg_worthOf (by omega) ?_⟩
  have kt := bI_1 c
  rw [(hc.2.2 (6 + d) (by omega)).2 kt]
  refine xg_add hE hc hN (fun S10 hE10 hc10 => xg_worthOf (by omega) ?_)
  rw [(hc10.2.2 (6 + d) (by omega)).2 kt]
  exact xg_know hE10 hc10 (by omega) (fun S14 hE14 hc14 => xg_forget hE14 hc14 (by omega) (fun S' a b _ => h1 kt S' a b))
theorem xg_isWaySure {S0 S : CST} {G : GS} {d : Nat} {x i : Int32} {Post : CST → Int32 → Prop} (hE : Ex LK4 S0 S) (hc : CG S G) (hd : d ≤ 8) (hd1 : 1 ≤ d) (hN : gN G + 9 ≤ 1511) (h0 : gK G (6 + d) = false → ∀ S' : CST, Ex LK4 S0 S' → CG S' (gLays i 8 7 G) → Post S' 0) (h1 : gK G (6 + d) = true → ∀ S' : CST, Ex LK4 S0 S' → CG S' (if gW G (6 + d) = 0 then gAdd (8, x, 0, 0, i) (gLays i 8 7 (gForget (6 + d) G)) else gForget (6 + d) G) → Post S' 1) : wp_X9_isWaySure S x (nI (6 + d)) i Post := by
  unfold wp_X9_isWaySure
  refine xg_isKnown hc (by omega) ⟨fun c => xg_forget hE hc (by omega) (fun S5 hE5 hc5 e170 => xg_worthOf (by omega) ?_), fun c => xg_lay8 hE hc (by omega) (h0 (bI_0 c))⟩
  have kt := bI_1 c
  rw [e170, (hc.2.2 (6 + d) (by omega)).2 kt]
  refine ⟨fun q => h1 kt S5 hE5 (by rw [if_neg q]; exact hc5), fun q => ?_⟩
  have hN5 : gN (gForget (6 + d) G) = gN G := rfl
  refine xg_lay8 hE5 hc5 (by omega) (fun S10 hE10 hc10 => xg_add hE10 hc10 ?_ (fun S13 hE13 hc13 => h1 kt S13 hE13 (by rw [if_pos q]; exact hc13)))
  have a : ∀ (k a : Nat) (G : GS), gN (gLays i k a G) ≤ gN G + k := by
    intro k
    induction k with
    | zero => intro a G; exact Nat.le_refl _
    | succ k ih => intro a G; have := ih (a + 1) (gLay a i G); have := gN_lay (r := a) (i := i) (G := G); show gN (gLays i k (a + 1) (gLay a i G)) ≤ _; omega
  have := a 8 7 (gForget (6 + d) G)
  omega
theorem xg_isFieldKnown {S0 S : CST} {G : GS} {y f d : Nat} {as : Nat → Bool} {val : Nat → Int32} {Post : CST → Int32 → Prop} (hE : Ex LK4 S0 S) (hc : CG S G) (hy : y < cnP S) (hf : f < 8) (hd : d ≤ 7) (has : ∀ t : Nat, t < 11 → cv S 190 0 t = bI (as t)) (hval : ∀ t : Nat, t < 11 → as t = true → cv S 290 y t = val t)
    (h0 : as (3 + f) = false → Post S 0) (h1 : as (3 + f) = true → ∀ S' : CST, Ex LK4 S0 S' → CG S' (gKnow (7 + d) (val (3 + f)) G) → Post S' 1) : wp_X9_isFieldKnown S y (nI f) (nI (7 + d)) Post := by
  unfold wp_X9_isFieldKnown
  rw [show (3 : Int32) + nI f = nI (3 + f) from nI_add 3 f, nI_clamp (n := 3 + f) (by omega), has _ (by omega)]
  refine ⟨fun c => absurd c (Int32.not_lt.mpr (nI_le (a := 3) (b := 3 + f) (by omega) (by omega))), fun _ => ⟨fun c => absurd c (nI_ge (b := 11) (by omega) (by omega)), fun _ => ⟨vp_in_nI (by omega) (by omega), fun c => h0 (bI_0 c), fun c => ⟨cin_28 rfl hy, ?_⟩⟩⟩⟩
  unfold wp_X5_valueOf
  rw [nI_clamp (n := 3 + f) (by omega), hval _ (by omega) (bI_1 c)]
  exact ⟨fun c => absurd c (nI_nn _ (by omega)), fun _ => ⟨fun c => absurd c (nI_ge (b := 11) (by omega) (by omega)), fun _ => ⟨cin_28 rfl hy, cin_29 rfl hy, vp_in_nI (by omega) (by omega), xg_know hE hc (by omega) (h1 (bI_1 c))⟩⟩⟩
theorem xg_isResultKnown {S0 S : CST} {G : GS} {o d : Nat} {i : Int32} {Post : CST → Int32 → Prop} (hE : Ex LK4 S0 S) (hc : CG S G) (h3 : 3 ≤ o) (h8 : o ≤ 8) (hd : d ≤ 8) (hd2 : 2 ≤ d) (hN : gN G + 2 ≤ 1511) (h0 : gBoth o d G = false → ∀ S' : CST, Ex LK4 S0 S' → CG S' (gLay (6 + d) i (gLay (5 + d) i G)) → Post S' 0) (h1 : gBoth o d G = true → ∀ S' : CST, Ex LK4 S0 S' → CG S' (gForget (6 + d) (gKnow (5 + d) (clc o (gW G (5 + d)) (gW G (6 + d))) G)) → Post S' 1) : wp_X9_isResultKnown S (nI o - 3 + 2) (nI (5 + d)) (nI (6 + d)) i Post := by
  have lay : gBoth o d G = false → wp_X9_lay S (nI (5 + d)) (nI (6 + d)) i (fun S' => Post S' 0) := fun q => xg_lay2 (by omega) hE hc hN (h0 q)
  have a0 : gK G (5 + d) = false → gBoth o d G = false := fun q => by unfold gBoth; rw [q]; rfl
  have b0 : gK G (6 + d) = false → gBoth o d G = false := fun q => by unfold gBoth; rw [q]; cases gK G (5 + d) <;> rfl
  have d5 : (nI o - 3 + 2 = 5) ↔ o = 6 := by
    rw [show nI o - 3 = nI (o - 3) from nI_sub (b := 3) h3, show nI (o - 3) + 2 = nI (o - 3 + 2) from nI_add _ 2]
    exact ⟨fun q => by have := nI_inj (b := 5) q (by omega) (by omega); omega, fun q => by rw [q]; rfl⟩
  have go : gK G (5 + d) = true → gK G (6 + d) = true → (o = 6 → ¬ gW G (6 + d) = 0) → wp_X9_worthOf S (nI (5 + d)) (fun r13 => wp_X9_worthOf S (nI (6 + d)) (fun r15 => wp_X11_reckoned (nI o - 3 + 2) r13 r15 (fun r16 => wp_X9_know S (nI (5 + d)) r16 (fun S18 => wp_X9_forget S18 (nI (6 + d)) (fun S20 => Post S20 1))))) := fun ka kb hz => by
    have hb : gBoth o d G = true := by
      unfold gBoth
      rw [ka, kb]
      by_cases w : o = 6
      · rw [w]
        have : (gW G (6 + d) == 0) = false := by simpa using hz w
        rw [this]; rfl
      · have : (o == 6) = false := by simpa using w
        rw [this]; rfl
    refine xg_worthOf (by omega) (xg_worthOf (by omega) ?_)
    rw [(hc.2.2 (5 + d) (by omega)).2 ka, (hc.2.2 (6 + d) (by omega)).2 kb]
    exact xg_reckoned h3 h8 hz (xg_know hE hc (by omega) (fun S18 hE18 hc18 => xg_forget hE18 hc18 (by omega) (fun S20 a b _ => h1 hb S20 a b)))
  unfold wp_X9_isResultKnown
  refine ⟨fun c5 => xg_isKnown hc (by omega) ⟨fun c => lay (a0 (bI_0 c)), fun ca => xg_isKnown hc (by omega) ⟨fun c => lay (b0 (bI_0 c)), fun cb => go (bI_1 ca) (bI_1 cb) (fun w => absurd (d5.mpr w) c5)⟩⟩, fun c5 => ?_⟩
  have o6 := d5.mp c5
  refine xg_worthOf (by omega) ⟨fun cz => xg_isKnown hc (by omega) ⟨fun c => lay (a0 (bI_0 c)), fun ca => xg_isKnown hc (by omega) ⟨fun c => lay (b0 (bI_0 c)), fun cb => go (bI_1 ca) (bI_1 cb) (fun _ => ?_)⟩⟩, fun cz => xg_isKnown hc (by omega) ⟨fun c => lay (a0 (bI_0 c)), fun ca => xg_isKnown hc (by omega) ⟨fun c => lay (b0 (bI_0 c)), fun cb => lay ?_⟩⟩⟩
  · rw [← (hc.2.2 (6 + d) (by omega)).2 (bI_1 cb)]; exact cz
  · have cz2 : gW G (6 + d) = 0 := by rw [← (hc.2.2 (6 + d) (by omega)).2 (bI_1 cb)]; exact cz
    unfold gBoth
    rw [bI_1 ca, bI_1 cb, cz2, o6]; rfl
