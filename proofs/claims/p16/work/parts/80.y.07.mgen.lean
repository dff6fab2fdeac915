/-! THE REFERENCE puts into code as the one function says -/
abbrev LM4 : List Nat := [23, 25, 26, 27, 28, 29, 33, 34, 35, 36]
def RG (S : MST) (c : Nat) (own : Int32) (G : GS) : Prop := S 31 0 = nI c ∧ S 32 0 = own ∧ S 23 c = nI (gN G) ∧ (∀ p : Nat, p < gN G → S 25 (640 * c + p) = (gP G p).1 ∧ S 26 (640 * c + p) = (gP G p).2.1 ∧ S 27 (640 * c + p) = (gP G p).2.2.1 ∧ S 28 (640 * c + p) = (gP G p).2.2.2.1 ∧ S 29 (640 * c + p) = (gP G p).2.2.2.2) ∧
  (∀ l : Nat, l < 7 → S 33 l = bI (gK G l) ∧ (gK G l = true → S 34 l = gW G l)) ∧ ∀ j : Nat, j < 8 → S 35 j = bI (gK G (7 + j)) ∧ (gK G (7 + j) = true → S 36 j = gW G (7 + j))
theorem mg_part {S0 S : MST} {c : Nat} {own : Int32} {G : GS} {o d a b : Int32} {Post : MST → Prop} (hE : Fm LM4 S0 S) (hc : RG S c own G) (hc96 : c < 96) (hN : gN G < 640) (h : ∀ S' : MST, Fm LM4 S0 S' → RG S' c own (gAdd (o, d, a, b, own) G) → Post S') : wp_X12_part S o d a b Post := by
  obtain ⟨h31, h32, h23, hP, hL, hK⟩ := hc
  unfold wp_X12_part
  have hcc : (nI c).toNatClampNeg = c := nI_clamp (by omega)
  have hcp : (nI (640 * c + gN G)).toNatClampNeg = 640 * c + gN G := nI_clamp (by omega)
  have hvp : vp_in (nI (640 * c + gN G)) 61440 := vp_in_nI (by omega) (by omega)
  rw [h31, hcc, h23, ix640, hcp]
  refine ⟨vp_in_nI hc96 (by omega), hvp, fun S2 e2 => ⟨hvp, fun S3 e3 => ⟨hvp, fun S4 e4 => ⟨hvp, fun S5 e5 => ⟨hvp, fun S6 e6 => ?_⟩⟩⟩⟩⟩
  have g6 : ∀ k : Nat, k ≠ 25 → k ≠ 26 → k ≠ 27 → k ≠ 28 → k ≠ 29 → S6 k = S k := fun k q1 q2 q3 q4 q5 => by
    rw [e6, ms_n _ _ q5, e5, ms_n _ _ q4, e4, ms_n _ _ q3, e3, ms_n _ _ q2, e2, ms_n _ _ q1]
  have g31 : S6 31 0 = nI c := by rw [g6 31 (by decide) (by decide) (by decide) (by decide) (by decide)]; exact h31
  have g23 : S6 23 c = nI (gN G) := by rw [g6 23 (by decide) (by decide) (by decide) (by decide) (by decide)]; exact h23
  have g32 : S5 32 0 = own := by
    rw [e5, ms_n _ _ (show 32 ≠ 28 by decide), e4, ms_n _ _ (show 32 ≠ 27 by decide), e3, ms_n _ _ (show 32 ≠ 26 by decide), e2, ms_n _ _ (show 32 ≠ 25 by decide)]; exact h32
  have q25 : S6 25 = upd (S 25) (640 * c + gN G) o := by rw [e6, ms_n _ _ (show 25 ≠ 29 by decide), e5, ms_n _ _ (show 25 ≠ 28 by decide), e4, ms_n _ _ (show 25 ≠ 27 by decide), e3, ms_n _ _ (show 25 ≠ 26 by decide), e2, ms_s]
  have q26 : S6 26 = upd (S 26) (640 * c + gN G) d := by rw [e6, ms_n _ _ (show 26 ≠ 29 by decide), e5, ms_n _ _ (show 26 ≠ 28 by decide), e4, ms_n _ _ (show 26 ≠ 27 by decide), e3, ms_s, e2, ms_n _ _ (show 26 ≠ 25 by decide)]
  have q27 : S6 27 = upd (S 27) (640 * c + gN G) a := by rw [e6, ms_n _ _ (show 27 ≠ 29 by decide), e5, ms_n _ _ (show 27 ≠ 28 by decide), e4, ms_s, e3, ms_n _ _ (show 27 ≠ 26 by decide), e2, ms_n _ _ (show 27 ≠ 25 by decide)]
  have q28 : S6 28 = upd (S 28) (640 * c + gN G) b := by rw [e6, ms_n _ _ (show 28 ≠ 29 by decide), e5, ms_s, e4, ms_n _ _ (show 28 ≠ 27 by decide), e3, ms_n _ _ (show 28 ≠ 26 by decide), e2, ms_n _ _ (show 28 ≠ 25 by decide)]
  have q29 : S6 29 = upd (S 29) (640 * c + gN G) own := by rw [e6, ms_s, g32, e5, ms_n _ _ (show 29 ≠ 28 by decide), e4, ms_n _ _ (show 29 ≠ 27 by decide), e3, ms_n _ _ (show 29 ≠ 26 by decide), e2, ms_n _ _ (show 29 ≠ 25 by decide)]
  rw [g31, hcc, g23, nI_1]
  refine ⟨vp_in_nI hc96 (by omega), vp_in_nI hc96 (by omega), fun S8 e8 => ?_⟩
  have r : ∀ k : Nat, k ≠ 23 → S8 k = S6 k := fun k q => by rw [e8, ms_n _ _ q]
  have s23 : S8 23 = upd (S 23) c (nI (gN G + 1)) := by rw [e8, ms_s, g6 23 (by decide) (by decide) (by decide) (by decide) (by decide)]
  refine h S8 (Fm.put e8 rfl (Fm.put e6 rfl (Fm.put e5 rfl (Fm.put e4 rfl (Fm.put e3 rfl (Fm.put e2 rfl hE)))))) ⟨by rw [r 31 (by decide)]; exact g31, by rw [r 32 (by decide), g6 32 (by decide) (by decide) (by decide) (by decide) (by decide)]; exact h32, by rw [s23, upd_s]; rfl, fun p hp => ?_, fun l hl => ?_, fun j hj => ?_⟩
  · have hp : p < gN G + 1 := hp
    rw [r 25 (by decide), r 26 (by decide), r 27 (by decide), r 28 (by decide), r 29 (by decide), q25, q26, q27, q28, q29]
    have eP : gP (gAdd (o, d, a, b, own) G) p = if p = gN G then (o, d, a, b, own) else gP G p := rfl
    rw [eP]
    by_cases w : p = gN G
    · rw [if_pos w, w, upd_s, upd_s, upd_s, upd_s, upd_s]; exact ⟨rfl, rfl, rfl, rfl, rfl⟩
    · have hne : 640 * c + p ≠ 640 * c + gN G := by omega
      rw [if_neg w, upd_n _ _ hne, upd_n _ _ hne, upd_n _ _ hne, upd_n _ _ hne, upd_n _ _ hne]
      exact hP p (by omega)
  · rw [r 33 (by decide), r 34 (by decide), g6 33 (by decide) (by decide) (by decide) (by decide) (by decide), g6 34 (by decide) (by decide) (by decide) (by decide) (by decide)]
    exact hL l hl
  · rw [r 35 (by decide), r 36 (by decide), g6 35 (by decide) (by decide) (by decide) (by decide) (by decide), g6 36 (by decide) (by decide) (by decide) (by decide) (by decide)]
    exact hK j hj
theorem gForget_none {r : Nat} {G : GS} (h : gK G r = false) : gForget r G = G := by
  have e : (fun q => if q = r then false else gK G q) = gK G := funext fun q => by
    by_cases w : q = r
    · rw [if_pos w, w, h]
    · rw [if_neg w]
  show (gN G, gP G, (fun q => if q = r then false else gK G q), gW G) = G
  rw [e]
theorem gLay_forget {a r : Nat} {i : Int32} {G : GS} (h : a ≠ r) : gLay a i (gForget r G) = gForget r (gLay a i G) := by
  have e : gK (gForget r G) a = gK G a := if_neg h
  unfold gLay
  rw [e]
  by_cases c : gK G a = true
  · rw [if_pos c, if_pos c]
    refine congrArg (fun C => ((gN G + 1, (fun p => if p = gN G then ((0, nI a, gW G a, 0, i) : T5) else gP G p), C, gW G) : GS)) (funext fun q => ?_)
    show (if q = a then false else if q = r then false else gK G q) = (if q = r then false else if q = a then false else gK G q)
    by_cases w : q = a
    · rw [if_pos w, if_neg (by omega), if_pos w]
    · rw [if_neg w, if_neg w]
  · rw [if_neg c, if_neg c]
theorem gLays_forget {r : Nat} {i : Int32} : ∀ (k a : Nat) (G : GS), (r < a ∨ a + k ≤ r) → gLays i k a (gForget r G) = gForget r (gLays i k a G) := by
  intro k
  induction k with
  | zero => intro a G _; rfl
  | succ k ih =>
    intro a G h
    show gLays i k (a + 1) (gLay a i (gForget r G)) = gForget r (gLays i k (a + 1) (gLay a i G))
    rw [gLay_forget (by omega)]
    exact ih (a + 1) _ (by omega)
/-- a place is not KNOWN any more -/
theorem RG.off {S S' : MST} {c q : Nat} {own : Int32} {G : GS} (hc : RG S c own G) (hq : q < 8) (e : S' = ms S 35 (upd (S 35) q 0)) : RG S' c own (gForget (7 + q) G) := by
  obtain ⟨h31, h32, h23, hP, hL, hK⟩ := hc
  have n : ∀ k : Nat, k ≠ 35 → S' k = S k := fun k a => by rw [e, ms_n _ _ a]
  have s : S' 35 = upd (S 35) q 0 := by rw [e, ms_s]
  refine ⟨by rw [n 31 (by decide)]; exact h31, by rw [n 32 (by decide)]; exact h32, by rw [n 23 (by decide)]; exact h23, fun p hp => by rw [n 25 (by decide), n 26 (by decide), n 27 (by decide), n 28 (by decide), n 29 (by decide)]; exact hP p hp, fun l hl => ?_, fun j hj => ?_⟩
  · rw [n 33 (by decide), n 34 (by decide)]
    show S 33 l = bI (if l = 7 + q then false else gK G l) ∧ ((if l = 7 + q then false else gK G l) = true → S 34 l = gW G l)
    rw [if_neg (by omega)]; exact hL l hl
  · rw [s, n 36 (by decide)]
    show upd (S 35) q 0 j = bI (if 7 + j = 7 + q then false else gK G (7 + j)) ∧ ((if 7 + j = 7 + q then false else gK G (7 + j)) = true → S 36 j = gW G (7 + j))
    by_cases w : j = q
    · rw [if_pos (by omega), w, upd_s]; exact ⟨rfl, fun c => absurd c Bool.false_ne_true⟩
    · rw [if_neg (by omega), upd_n _ _ w]; exact hK j hj
/-- a place is KNOWN -/
theorem RG.on {S S' : MST} {c q : Nat} {own v : Int32} {G : GS} (hc : RG S c own G) (hq : q < 8) (n : ∀ k : Nat, k ≠ 35 → k ≠ 36 → S' k = S k) (s : S' 35 = upd (S 35) q 1) (t : S' 36 = upd (S 36) q v) : RG S' c own (gKnow (7 + q) v G) := by
  obtain ⟨h31, h32, h23, hP, hL, hK⟩ := hc
  refine ⟨by rw [n 31 (by decide) (by decide)]; exact h31, by rw [n 32 (by decide) (by decide)]; exact h32, by rw [n 23 (by decide) (by decide)]; exact h23, fun p hp => by rw [n 25 (by decide) (by decide), n 26 (by decide) (by decide), n 27 (by decide) (by decide), n 28 (by decide) (by decide), n 29 (by decide) (by decide)]; exact hP p hp, fun l hl => ?_, fun j hj => ?_⟩
  · rw [n 33 (by decide) (by decide), n 34 (by decide) (by decide)]
    show S 33 l = bI (if l = 7 + q then true else gK G l) ∧ ((if l = 7 + q then true else gK G l) = true → S 34 l = (if l = 7 + q then v else gW G l))
    rw [if_neg (by omega), if_neg (by omega)]; exact hL l hl
  · rw [s, t]
    show upd (S 35) q 1 j = bI (if 7 + j = 7 + q then true else gK G (7 + j)) ∧ ((if 7 + j = 7 + q then true else gK G (7 + j)) = true → upd (S 36) q v j = (if 7 + j = 7 + q then v else gW G (7 + j)))
    by_cases w : j = q
    · rw [if_pos (by omega), if_pos (by omega), w, upd_s, upd_s]; exact ⟨rfl, fun _ => rfl⟩
    · rw [if_neg (by omega), if_neg (by omega), upd_n _ _ w, upd_n _ _ w]; exact hK j hj
theorem mg_knows {S0 S : MST} {c q : Nat} {own v : Int32} {G : GS} {Post : MST → Prop} (hE : Fm LM4 S0 S) (hc : RG S c own G) (hq : q < 8) (h : ∀ S' : MST, Fm LM4 S0 S' → RG S' c own (gKnow (7 + q) v G) → Post S') : wp_X12_knows S (nI q) v Post := by
  unfold wp_X12_knows
  rw [nI_clamp (n := q) (by omega), vn_1]
  refine ⟨vp_in_nI (by omega) (by omega), fun S1 e1 => ⟨vp_in_nI (by omega) (by omega), fun S2 e2 => h S2 (Fm.put e2 rfl (Fm.put e1 rfl hE)) (hc.on hq (fun k a b => by rw [e2, ms_n _ _ b, e1, ms_n _ _ a]) (by rw [e2, ms_n _ _ (by decide), e1, ms_s]) (by rw [e2, ms_s, e1, ms_n _ _ (by decide)]))⟩⟩
theorem mg_layOne {S0 S : MST} {c q : Nat} {own : Int32} {G : GS} {Post : MST → Prop} (hE : Fm LM4 S0 S) (hc : RG S c own G) (hc96 : c < 96) (hq : q < 8) (hN : gN G < 640) (h : ∀ S' : MST, Fm LM4 S0 S' → RG S' c own (gLay (7 + q) own G) → Post S') : wp_X12_layOne S (nI q) Post := by
  have hv : vp_in (nI q) 9 := vp_in_nI (by omega) (by omega)
  obtain ⟨k1, k2⟩ := hc.2.2.2.2.2 q hq
  unfold wp_X12_layOne
  rw [nI_clamp (n := q) (by omega), k1, vn_0, show (7 : Int32) + nI q = nI (7 + q) from nI_add 7 q]
  refine ⟨hv, fun cz => h S hE ?_, fun cz => ⟨hv, ?_⟩⟩
  · rw [show gLay (7 + q) own G = G from if_neg (by rw [bI_0 cz]; exact Bool.false_ne_true)]; exact hc
  · rw [k2 (bI_1 cz)]
    refine mg_part hE hc hc96 hN (fun S4 hE4 hc4 => ⟨hv, fun S5 e5 => h S5 (Fm.put e5 rfl hE4) ?_⟩)
    rw [show gLay (7 + q) own G = gForget (7 + q) (gAdd (0, nI (7 + q), gW G (7 + q), 0, own) G) from if_pos (bI_1 cz)]
    exact hc4.off hq e5
theorem mg_la2 {S0 : MST} {c d : Nat} {own : Int32} {K Post : MST → Prop} (hc96 : c < 96) (hd : d ≤ 8) : ∀ (k q : Nat) (S : MST) (G : GS), q + k = d → Fm LM4 S0 S → RG S c own G → gN G + k ≤ 640 → (∀ S' : MST, Fm LM4 S0 S' → RG S' c own (gLays own k (7 + q) G) → K S') → wl_X12_layAll_2 K Post (k + 1) S (nI d) (nI q) := by
  intro k
  induction k with
  | zero =>
    intro q S G hq hE hc _ h
    unfold wl_X12_layAll_2
    exact ⟨fun _ => h S hE hc, fun w => absurd (nI_le (a := d) (b := q) (by omega) (by omega)) w⟩
  | succ k ih =>
    intro q S G hq hE hc hN h
    unfold wl_X12_layAll_2
    rw [nI_1]
    refine ⟨fun w => absurd w (nI_ge (by omega) (by omega)), fun _ => mg_layOne hE hc hc96 (by omega) (by omega) (fun S' hE' hc' => ih (q + 1) S' _ (by omega) hE' hc' (by have := gN_lay (r := 7 + q) (i := own) (G := G); omega) (fun S2 a b => h S2 a b))⟩
theorem mg_layAll {S0 S : MST} {c d : Nat} {own : Int32} {G : GS} {Post : MST → Prop} (hE : Fm LM4 S0 S) (hc : RG S c own G) (hc96 : c < 96) (hd : d ≤ 8) (hN : gN G + 8 ≤ 640) (h : ∀ S' : MST, Fm LM4 S0 S' → RG S' c own (gLays own d 7 G) → Post S') : wp_X12_layAll S (nI d) Post := by
  unfold wp_X12_layAll
  exact ⟨d + 1, mg_la2 hc96 hd d 0 S G (by omega) hE hc (by omega) h⟩
theorem mg_fg2 {S0 : MST} {c m : Nat} {own : Int32} {as : Nat → Bool} {val : Nat → Int32} {K Post : MST → Prop} (hc96 : c < 96) (hm : m < 8) (has : ∀ t : Nat, t < 11 → S0 30 t = bI (as t)) (hval : ∀ t : Nat, t < 11 → as t = true → S0 20 (11 * m + t) = val t) : ∀ (k f : Nat) (S : MST) (G : GS), f + k = 8 → Fm LM4 S0 S → RG S c own G → gN G + k ≤ 640 → (∀ S' : MST, Fm LM4 S0 S' → RG S' c own (gGuards as val own k (3 + f) G) → K S') → wl_X12_fieldGuards_2 K Post (k + 1) S (nI m) (nI f) := by
  intro k
  induction k with
  | zero =>
    intro f S G hf hE hc _ h
    unfold wl_X12_fieldGuards_2
    obtain rfl : f = 8 := by omega
    exact ⟨fun _ => h S hE hc, fun w => absurd (show (8 : Int32) ≤ nI 8 by decide) w⟩
  | succ k ih =>
    intro f S G hf hE hc hN h
    unfold wl_X12_fieldGuards_2
    rw [nI_1, show (3 : Int32) + nI f = nI (3 + f) from nI_add 3 f, nI_clamp (n := 3 + f) (by omega), hE 30 rfl, has _ (by omega), show (11 : Int32) * nI m + 3 = nI (11 * m + 3) from ix11 m 3, nI_add, nI_clamp (n := 11 * m + 3 + f) (by omega), hE 20 rfl]
    refine ⟨fun w => absurd w (nI_ge (b := 8) (by omega) (by omega)), fun _ => ⟨vp_in_nI (by omega) (by omega), fun w => ?_, fun w => ⟨vp_in_nI (by omega) (by omega), ?_⟩⟩⟩
    · have e : gGuard as val own (3 + f) G = G := if_neg (by rw [bI_0 w]; exact Bool.false_ne_true)
      refine ih (f + 1) S G (by omega) hE hc (by omega) (fun S' a b => h S' a ?_)
      show RG S' c own (gGuards as val own k (3 + f + 1) (gGuard as val own (3 + f) G))
      rw [e]; exact b
    · have e : gGuard as val own (3 + f) G = gAdd (gdT val own (3 + f)) G := if_pos (bI_1 w)
      have e2 : gdT val own (3 + f) = (18, nI f, val (3 + f), 0, own) := by rw [gdT_hi (by omega), show 3 + f - 3 = f by omega]
      rw [show 11 * m + 3 + f = 11 * m + (3 + f) by omega, hval (3 + f) (by omega) (bI_1 w)]
      refine mg_part hE hc hc96 (by omega) (fun S' hE' hc' => ih (f + 1) S' _ (by omega) hE' hc' (by show gN G + 1 + k ≤ 640; omega) (fun S2 a b => h S2 a ?_))
      show RG S2 c own (gGuards as val own k (3 + f + 1) (gGuard as val own (3 + f) G))
      rw [e, e2]; exact b
theorem mg_fieldGuards {S0 S : MST} {c m : Nat} {own : Int32} {as : Nat → Bool} {val : Nat → Int32} {G : GS} {Post : MST → Prop} (hE : Fm LM4 S0 S) (hc : RG S c own G) (hc96 : c < 96) (hm : m < 8) (has : ∀ t : Nat, t < 11 → S0 30 t = bI (as t)) (hval : ∀ t : Nat, t < 11 → as t = true → S0 20 (11 * m + t) = val t) (hN : gN G + 8 ≤ 640) (h : ∀ S' : MST, Fm LM4 S0 S' → RG S' c own (gGuards as val own 8 3 G) → Post S') : wp_X12_fieldGuards S (nI m) Post := by
  unfold wp_X12_fieldGuards
  exact ⟨9, mg_fg2 hc96 hm has hval 8 0 S G rfl hE hc hN h⟩
theorem mg_sumOf {o : Nat} {a b : Int32} {Post : Int32 → Prop} (h3 : 3 ≤ o) (h8 : o ≤ 8) (hb : o = 6 → ¬ b = 0) (h : Post (clc o a b)) : wp_X12_sumOf (nI o) a b Post := by
  unfold wp_X12_sumOf
  rcases (show o = 3 ∨ o = 4 ∨ o = 5 ∨ o = 6 ∨ o = 7 ∨ o = 8 by omega) with rfl | rfl | rfl | rfl | rfl | rfl
  · exact ⟨fun c => absurd c (by decide), fun _ => h, fun c => absurd c (by decide), fun c => absurd c (by decide), fun c => absurd c (by decide), fun c => absurd c (by decide)⟩
  · exact ⟨fun c => absurd c (by decide), fun c => absurd c (by decide), fun _ => h, fun c => absurd c (by decide), fun c => absurd c (by decide), fun c => absurd c (by decide)⟩
  · exact ⟨fun c => absurd c (by decide), fun c => absurd c (by decide), fun c => absurd c (by decide), fun _ => h, fun c => absurd c (by decide), fun c => absurd c (by decide)⟩
  · exact ⟨fun c => absurd c (by decide), fun c => absurd c (by decide), fun c => absurd c (by decide), fun c => absurd c (by decide), fun _ => ⟨hb rfl, h⟩, fun c => absurd c (by decide)⟩
  · have h' : Post (if a < b then 1 else 0) := h
    refine ⟨fun c => absurd c (by decide), fun c => absurd c (by decide), fun c => absurd c (by decide), fun c => absurd c (by decide), fun c => absurd c (by decide), fun _ => ⟨fun q => ?_, fun q => ?_⟩⟩
    · rw [if_neg (Int32.not_lt.mpr q)] at h'; exact h'
    · rw [if_pos (Int32.not_le.mp q)] at h'; exact h'
  · have h' : Post (if a = b then 1 else 0) := h
    refine ⟨fun _ => ⟨fun q => ?_, fun q => ?_⟩, fun c => absurd c (by decide), fun c => absurd c (by decide), fun c => absurd c (by decide), fun c => absurd c (by decide), fun c => absurd c (by decide)⟩
    · rw [if_neg q] at h'; exact h'
    · rw [if_pos q] at h'; exact h'
