/-! THE REFERENCE, one INSTRUCTION whole -/
theorem gT_two {o d : Nat} {x Dn i : Int32} {G : GS} (h3 : 3 ≤ o) (h8 : o ≤ 8) : gT o x d Dn i G = gAdd (nI (o - 1), nI (5 + d), nI (5 + d), nI (6 + d), i) G := by
  unfold gT
  rw [tpl_two h3 h8]
theorem zpl {d k : Nat} (h : k ≤ d) : nI d - nI k = nI (d - k) := nI_sub h
theorem mg_makeTwo {S0 S : MST} {c o d : Nat} {own x Dn : Int32} {G : GS} {Post : MST → Prop} (hE : Fm LM4 S0 S) (hc : RG S c own G) (hc96 : c < 96) (h3 : 3 ≤ o) (h8 : o ≤ 8) (hd2 : 2 ≤ d) (hd8 : d ≤ 8) (hN : gN G + 9 ≤ 640) (h : ∀ S' : MST, Fm LM4 S0 S' → RG S' c own (gTwo o x d Dn own G) → Post S') : wp_X12_makeTwo S (nI o) (nI d) Post := by
  have hv1 : vp_in (nI (d - 1)) 9 := vp_in_nI (by omega) (by omega)
  have hv2 : vp_in (nI (d - 2)) 9 := vp_in_nI (by omega) (by omega)
  obtain ⟨p1, p2⟩ := hc.2.2.2.2.2 (d - 1) (by omega)
  obtain ⟨q1, q2⟩ := hc.2.2.2.2.2 (d - 2) (by omega)
  rw [show 7 + (d - 1) = 6 + d by omega] at p1 p2
  rw [show 7 + (d - 2) = 5 + d by omega] at q1 q2
  have e1 : (7 : Int32) + nI (d - 1) = nI (6 + d) := by rw [show (7 : Int32) + nI (d - 1) = nI (7 + (d - 1)) from nI_add 7 _]; congr 1; omega
  have e2 : (7 : Int32) + nI (d - 2) = nI (5 + d) := by rw [show (7 : Int32) + nI (d - 2) = nI (7 + (d - 2)) from nI_add 7 _]; congr 1; omega
  -- laid
  have lay : gBoth o d G = false → wp_X12_layOne S (nI (d - 2)) (fun S3 => wp_X12_layOne S3 (nI (d - 1)) (fun S4 => wp_X12_part S4 (nI (o - 1)) (nI (5 + d)) (nI (5 + d)) (nI (6 + d)) (fun S5 => vp_in (nI (d - 1)) 9 ∧ (∀ S6 : MST, S6 = ms S5 35 (upd (S5 35) (d - 1) 0) → (Post S6))))) := fun hb => by
    refine mg_layOne hE hc hc96 (by omega) (by omega) (fun S3 hE3 hc3 => ?_)
    rw [show 7 + (d - 2) = 5 + d by omega] at hc3
    have n3 := gN_lay (r := 5 + d) (i := own) (G := G)
    refine mg_layOne hE3 hc3 hc96 (by omega) (by omega) (fun S4 hE4 hc4 => ?_)
    rw [show 7 + (d - 1) = 6 + d by omega] at hc4
    have n4 := gN_lay (r := 6 + d) (i := own) (G := gLay (5 + d) own G)
    refine mg_part hE4 hc4 hc96 (by omega) (fun S5 hE5 hc5 => ⟨hv1, fun S6 e6 => h S6 (Fm.put e6 rfl hE5) ?_⟩)
    have h6 := hc5.off (show d - 1 < 8 by omega) e6
    rw [show 7 + (d - 1) = 6 + d by omega, gForget_none (by show gK (gLay (6 + d) own (gLay (5 + d) own G)) (6 + d) = false; rw [gLay_K, if_pos rfl])] at h6
    have eg : gTwo o x d Dn own G = gAdd (nI (o - 1), nI (5 + d), nI (5 + d), nI (6 + d), own) (gLay (6 + d) own (gLay (5 + d) own G)) := by
      unfold gTwo
      rw [hb, if_neg Bool.false_ne_true, gT_two h3 h8]
    rw [eg]; exact h6
  have both : gK G (5 + d) = true → gK G (6 + d) = true → (o = 6 → ¬ gW G (6 + d) = 0) → ∀ S17 : MST, S17 = ms S 36 (upd (S 36) (d - 2) (clc o (gW G (5 + d)) (gW G (6 + d)))) → vp_in (nI (d - 1)) 9 ∧ ∀ S18 : MST, S18 = ms S17 35 (upd (S17 35) (d - 1) 0) → Post S18 := fun ka kb hz S17 e17 => by
    refine ⟨hv1, fun S18 e18 => h S18 (Fm.put e18 rfl (Fm.put e17 rfl hE)) ?_⟩
    have hb : gBoth o d G = true := by
      unfold gBoth
      rw [ka, kb]
      by_cases w : o = 6
      · rw [w]
        have : (gW G (6 + d) == 0) = false := by simpa using hz w
        rw [this]; rfl
      · have : (o == 6) = false := by simpa using w
        rw [this]; rfl
    have eg : gTwo o x d Dn own G = gForget (6 + d) (gKnow (5 + d) (clc o (gW G (5 + d)) (gW G (6 + d))) G) := by unfold gTwo; rw [if_pos hb]
    have s35 : upd (S 35) (d - 2) 1 = S 35 := funext fun j => by
      by_cases w : j = d - 2
      · rw [w, upd_s, q1, ka]; rfl
      · rw [upd_n _ _ w]
    have h17 : RG S17 c own (gKnow (7 + (d - 2)) (clc o (gW G (5 + d)) (gW G (6 + d))) G) := hc.on (by omega) (fun k a b => by rw [e17, ms_n _ _ b]) (by rw [s35, e17, ms_n _ _ (by decide)]) (by rw [e17, ms_s])
    have h18 := h17.off (show d - 1 < 8 by omega) e18
    rw [show 7 + (d - 1) = 6 + d by omega, show 7 + (d - 2) = 5 + d by omega] at h18
    rw [eg]; exact h18
  have a0 : gK G (5 + d) = false → gBoth o d G = false := fun q => by unfold gBoth; rw [q]; rfl
  have b0 : gK G (6 + d) = false → gBoth o d G = false := fun q => by unfold gBoth; rw [q]; cases gK G (5 + d) <;> rfl
  unfold wp_X12_makeTwo
  rw [show nI d - 2 = nI (d - 2) from zpl (k := 2) hd2, show nI d - 1 = nI (d - 1) from zpl (k := 1) (by omega), show nI o - 1 = nI (o - 1) from zpl (k := 1) (by omega), nI_clamp (n := d - 2) (by omega), nI_clamp (n := d - 1) (by omega), e1, e2, q1, p1, vn_0]
  refine ⟨hv2, fun cz => lay (a0 (bI_0 cz)), fun ca => ⟨hv1, fun cz => lay (b0 (bI_0 cz)), fun cb => ?_⟩⟩
  rw [q2 (bI_1 ca), p2 (bI_1 cb)]
  refine ⟨fun n6 => ⟨hv2, hv1, mg_sumOf h3 h8 (fun w => absurd (by rw [w]; rfl) n6) ⟨hv2, fun S17 e17 => both (bI_1 ca) (bI_1 cb) (fun w => absurd (by rw [w]; rfl) n6) S17 e17⟩⟩, fun c6 => ⟨hv1, fun cz => lay ?_, fun cz => ⟨hv2, hv1, mg_sumOf h3 h8 (fun _ => cz) ⟨hv2, fun S17 e17 => both (bI_1 ca) (bI_1 cb) (fun _ => cz) S17 e17⟩⟩⟩⟩
  have o6 : o = 6 := nI_inj (b := 6) c6 (by omega) (by omega)
  unfold gBoth
  rw [bI_1 ca, bI_1 cb, cz, o6]; rfl
theorem mg_makeWhen {S0 S : MST} {c d : Nat} {own x Dn : Int32} {G : GS} {Post : MST → Prop} (hE : Fm LM4 S0 S) (hc : RG S c own G) (hc96 : c < 96) (hd1 : 1 ≤ d) (hd8 : d ≤ 8) (hB : KB d G) (hN : gN G + 9 ≤ 640) (h : ∀ S' : MST, Fm LM4 S0 S' → RG S' c own (gWhen x d Dn own G) → Post S') : wp_X12_makeWhen S x (nI d) Post := by
  have hv1 : vp_in (nI (d - 1)) 9 := vp_in_nI (by omega) (by omega)
  obtain ⟨p1, p2⟩ := hc.2.2.2.2.2 (d - 1) (by omega)
  rw [show 7 + (d - 1) = 6 + d by omega] at p1 p2
  have e6 : (6 : Int32) + nI d = nI (6 + d) := nI_add 6 d
  unfold wp_X12_makeWhen
  rw [show nI d - 1 = nI (d - 1) from zpl (k := 1) hd1, nI_clamp (n := d - 1) (by omega), p1, vn_0, e6]
  refine ⟨hv1, fun ck => ⟨hv1, ?_⟩, fun cz => ?_⟩
  · have kt := bI_1 ck
    rw [p2 kt]
    refine ⟨fun nz => ⟨hv1, fun S5 e5 => h S5 (Fm.put e5 rfl hE) ?_⟩, fun z => mg_layAll hE hc hc96 (by omega) (by omega) (fun S6 hE6 hc6 => ?_)⟩
    · have h5 := hc.off (show d - 1 < 8 by omega) e5
      rw [show 7 + (d - 1) = 6 + d by omega] at h5
      unfold gWhen
      rw [if_pos kt, if_neg nz]; exact h5
    · have n6 := gN_lays (i := own) (d - 1) 7 G
      refine mg_part hE6 hc6 hc96 (by omega) (fun S7 hE7 hc7 => ⟨hv1, fun S8 e8 => h S8 (Fm.put e8 rfl hE7) ?_⟩)
      have h8 := hc7.off (show d - 1 < 8 by omega) e8
      rw [show 7 + (d - 1) = 6 + d by omega] at h8
      have hB' : KB (d - 1) (gForget (6 + d) G) := fun r a b => by
        show (if r = 6 + d then false else gK G r) = false
        by_cases w : r = 6 + d
        · rw [if_pos w]
        · rw [if_neg w]; exact hB r (by omega) b
      unfold gWhen
      rw [if_pos kt, if_pos z, gLays_8 (by omega) hB', gLays_forget (d - 1) 7 G (by omega)]
      exact h8
  · have kf := bI_0 cz
    refine mg_layAll hE hc hc96 (by omega) (by omega) (fun S6 hE6 hc6 => ?_)
    have n6 := gN_lays (i := own) (d - 1) 7 G
    refine mg_part hE6 hc6 hc96 (by omega) (fun S7 hE7 hc7 => ⟨hv1, fun S8 e8 => h S8 (Fm.put e8 rfl hE7) ?_⟩)
    have h8 := hc7.off (show d - 1 < 8 by omega) e8
    have hB' : KB (d - 1) G := fun r a b => by
      by_cases w : r = 6 + d
      · rw [w]; exact kf
      · exact hB r (by omega) b
    rw [show 7 + (d - 1) = 6 + d by omega, gForget_none (by show gK (gLays own (d - 1) 7 G) (6 + d) = false; rw [gLays_K, if_neg (by omega)]; exact kf)] at h8
    unfold gWhen
    rw [kf, if_neg Bool.false_ne_true, gLays_8 (by omega) hB']
    have eg : gT 10 x d Dn own (gLays own (d - 1) 7 G) = gAdd (9, x, nI (6 + d), 0, own) (gLays own (d - 1) 7 G) := by
      show gAdd (9, x, 7 + nI d - 1, 0, own) _ = _
      rw [z6d]
    rw [eg]; exact h8
/-- a LOCAL is KNOWN, or not any more -/
theorem RG.loc {S S' : MST} {c l : Nat} {own v : Int32} {b : Bool} {G : GS} (hc : RG S c own G) (hl : l < 7) (n : ∀ k : Nat, k ≠ 33 → k ≠ 34 → S' k = S k) (s : S' 33 = upd (S 33) l (bI b)) (t : S' 34 = upd (S 34) l v) : RG S' c own (gN G, gP G, (fun q => if q = l then b else gK G q), (fun q => if q = l then v else gW G q)) := by
  obtain ⟨h31, h32, h23, hP, hL, hK⟩ := hc
  refine ⟨by rw [n 31 (by decide) (by decide)]; exact h31, by rw [n 32 (by decide) (by decide)]; exact h32, by rw [n 23 (by decide) (by decide)]; exact h23, fun p hp => by rw [n 25 (by decide) (by decide), n 26 (by decide) (by decide), n 27 (by decide) (by decide), n 28 (by decide) (by decide), n 29 (by decide) (by decide)]; exact hP p hp, fun q hq => ?_, fun j hj => ?_⟩
  · rw [s, t]
    show upd (S 33) l (bI b) q = bI (if q = l then b else gK G q) ∧ ((if q = l then b else gK G q) = true → upd (S 34) l v q = (if q = l then v else gW G q))
    by_cases w : q = l
    · rw [if_pos w, if_pos w, w, upd_s, upd_s]; exact ⟨rfl, fun _ => rfl⟩
    · rw [if_neg w, if_neg w, upd_n _ _ w, upd_n _ _ w]; exact hL q hq
  · rw [n 35 (by decide) (by decide), n 36 (by decide) (by decide)]
    show S 35 j = bI (if 7 + j = l then b else gK G (7 + j)) ∧ ((if 7 + j = l then b else gK G (7 + j)) = true → S 36 j = (if 7 + j = l then v else gW G (7 + j)))
    rw [if_neg (by omega), if_neg (by omega)]; exact hK j hj
/-- .. and not any more -/
theorem RG.locOff {S S' : MST} {c l : Nat} {own : Int32} {G : GS} (hc : RG S c own G) (hl : l < 7) (n : ∀ k : Nat, k ≠ 33 → S' k = S k) (s : S' 33 = upd (S 33) l 0) : RG S' c own (gForget l G) := by
  obtain ⟨h31, h32, h23, hP, hL, hK⟩ := hc
  refine ⟨by rw [n 31 (by decide)]; exact h31, by rw [n 32 (by decide)]; exact h32, by rw [n 23 (by decide)]; exact h23, fun p hp => by rw [n 25 (by decide), n 26 (by decide), n 27 (by decide), n 28 (by decide), n 29 (by decide)]; exact hP p hp, fun q hq => ?_, fun j hj => ?_⟩
  · rw [s, n 34 (by decide)]
    show upd (S 33) l 0 q = bI (if q = l then false else gK G q) ∧ ((if q = l then false else gK G q) = true → S 34 q = gW G q)
    by_cases w : q = l
    · rw [if_pos w, w, upd_s]; exact ⟨rfl, fun c => absurd c Bool.false_ne_true⟩
    · rw [if_neg w, upd_n _ _ w]; exact hL q hq
  · rw [n 35 (by decide), n 36 (by decide)]
    show S 35 j = bI (if 7 + j = l then false else gK G (7 + j)) ∧ ((if 7 + j = l then false else gK G (7 + j)) = true → S 36 j = gW G (7 + j))
    rw [if_neg (by omega)]; exact hK j hj
/-- METHOD m of the reference: its INSTRUCTIONS -/
def PrM (S : MST) (m n : Nat) (op : Nat → Nat) (xs dp : Nat → Int32) : Prop := m < 8 ∧ S 3 m = nI n ∧ n ≤ 60 ∧ ∀ i : Nat, i < n → op i < 20 ∧ S 4 (60 * m + i) = nI (op i) ∧ S 5 (60 * m + i) = xs i ∧ S 7 (60 * m + i) = dp i
theorem PrM.fm {L : List Nat} {S S' : MST} {m n : Nat} {op : Nat → Nat} {xs dp : Nat → Int32} (h : PrM S m n op xs dp) (e : Fm L S S') (hL : (L.contains 3 || L.contains 4 || L.contains 5 || L.contains 7) = false) : PrM S' m n op xs dp := by
  simp only [Bool.or_eq_false_iff] at hL
  obtain ⟨⟨⟨a, b⟩, c⟩, d⟩ := hL
  unfold PrM
  rw [e 3 a, e 4 b, e 5 c, e 7 d]
  exact h
theorem mg_make {S0 S : MST} {c m n i d : Nat} {op : Nat → Nat} {xs dp : Nat → Int32} {as : Nat → Bool} {val : Nat → Int32} {Dn own : Int32} {G : GS} {Post : MST → Prop} (hE : Fm LM4 S0 S) (hc : RG S c own G) (hc96 : c < 96) (hP : PrM S0 m n op xs dp) (hi : i < n) (hd : dp i = nI d) (hI : InsOk as (op i) d (xs i) Dn) (hB : KB d G) (hN : gN G + 18 ≤ 640)
    (has : ∀ t : Nat, t < 11 → S0 30 t = bI (as t)) (hval : ∀ t : Nat, t < 11 → as t = true → S0 20 (11 * m + t) = val t) (hcall : op i = 11 → ∃ y ax : Nat, y < 8 ∧ xs i = nI y ∧ S0 1 y = nI ax ∧ ax ≤ d ∧ Dn = nI (d - ax + 1))
    (h : ∀ S' : MST, Fm LM4 S0 S' → RG S' c own (gMake as val (op i) (xs i) d Dn own G) → Post S') : wp_X12_make S (nI m) (nI i) Post := by
  obtain ⟨hm, hl, hn60, hp⟩ := id hP
  obtain ⟨ho, hop, hx, hdp⟩ := hp i hi
  have v480 : vp_in (nI (60 * m + i)) 480 := vp_in_nI (by omega) (by omega)
  unfold wp_X12_make
  rw [ix60, nI_clamp (n := 60 * m + i) (by omega), hE 4 rfl, hE 5 rfl, hE 7 rfl, hop, hx, hdp, hd]
  refine ⟨v480, v480, v480, ?_⟩
  generalize op i = o at ho hI hcall h ⊢
  generalize xs i = x at hI hcall h ⊢
  obtain ⟨-, hd8, htk, h8, hx1, hx13, h11, hst, hkp⟩ := hI
  have e6 : (6 : Int32) + nI d = nI (6 + d) := nI_add 6 d
  have e7 : (7 : Int32) + nI d = nI (7 + d) := nI_add 7 d
  have m1 : 1 ≤ d → nI d - 1 = nI (d - 1) := fun q => zpl (k := 1) q
  have two : 3 ≤ o → o ≤ 8 → tkN o 0 = 2 → wp_X12_makeTwo S (nI o) (nI d) (fun S' => Post S') := fun a b ht => by
    have hg : gMake as val o x d Dn own G = gTwo o x d Dn own G := by
      rcases (show o = 3 ∨ o = 4 ∨ o = 5 ∨ o = 6 ∨ o = 7 ∨ o = 8 by omega) with rfl | rfl | rfl | rfl | rfl | rfl <;> rfl
    exact mg_makeTwo hE hc hc96 a b (by omega) hd8 (by omega) (fun S' a' b' => h S' a' (by rw [hg]; exact b'))
  have lay1 : ∀ (P : MST → Prop), 1 ≤ d → (∀ S' : MST, Fm LM4 S0 S' → RG S' c own (gLay (6 + d) own G) → gN (gLay (6 + d) own G) < 640 → P S') → wp_X12_layOne S (nI d - 1) P := fun P a hh => by
    rw [m1 a]
    refine mg_layOne hE hc hc96 (by omega) (by omega) (fun S' a' b' => hh S' a' ?_ ?_)
    · rw [show 6 + d = 7 + (d - 1) by omega]; exact b'
    · have := gN_lay (r := 6 + d) (i := own) (G := G); omega
  have n8 : gN (gLays own 8 7 G) ≤ gN G + 8 := gN_lays 8 7 G
  have e8 := gLays_8 (i := own) hd8 hB
  rcases z20 ho with rfl | rfl | rfl | rfl | rfl | rfl | rfl | rfl | rfl | rfl | rfl | rfl | rfl | rfl | rfl | rfl | rfl | rfl | rfl | rfl
  · have h8 : d - 0 + 1 ≤ 8 := h8 (by decide)
    exact ⟨fun c => absurd c (by decide), fun _ => mg_knows hE hc (by omega) h, fun c => absurd c (by decide), fun c => absurd c (by decide), fun c => absurd c (by decide), fun c => absurd c (by decide), fun c => absurd c (by decide), fun c => absurd c (by decide), fun c => absurd c (by decide), fun c => absurd c (by decide), fun c => absurd c (by decide), fun c => absurd c (by decide), fun c => absurd c (by decide), fun c => absurd c (by decide), fun c => absurd c (by decide), fun c => absurd c (by decide), fun c => absurd c (by decide), fun c => absurd c (by decide), fun c => absurd c (by decide), fun c => absurd c (by decide), fun c => absurd c (by decide)⟩
  · have h8 : d - 0 + 1 ≤ 8 := h8 (by decide)
    have hd7 : d < 8 := by omega
    obtain ⟨l, hl6, rfl⟩ := hx1 (Or.inl rfl)
    obtain ⟨k1, k2⟩ := hc.2.2.2.2.1 l (by omega)
    have hg : gMake as val 1 (nI l) d Dn own G = gCopy 1 l (nI l) d Dn own G := by show gCopy 1 (nI l).toNatClampNeg _ _ _ _ _ = _; rw [nI_clamp (by omega)]
    rw [hg] at h
    rw [nI_clamp (n := l) (by omega), k1]
    exact ⟨fun c => absurd c (by decide), fun c => absurd c (by decide), fun _ => ⟨vp_in_nI (by omega) (by omega), fun cz => mg_part hE hc hc96 (by omega) (fun S' a b => h S' a (by unfold gCopy; rw [bI_0 cz, if_neg Bool.false_ne_true]; exact b)), fun cz => ⟨vp_in_nI (by omega) (by omega), mg_knows hE hc (by first | exact hd7 | omega) (fun S' a b => h S' a (by unfold gCopy; rw [if_pos (bI_1 cz), ← k2 (bI_1 cz)]; exact b))⟩⟩, fun c => absurd c (by decide), fun c => absurd c (by decide), fun c => absurd c (by decide), fun c => absurd c (by decide), fun c => absurd c (by decide), fun c => absurd c (by decide), fun c => absurd c (by decide), fun c => absurd c (by decide), fun c => absurd c (by decide), fun c => absurd c (by decide), fun c => absurd c (by decide), fun c => absurd c (by decide), fun c => absurd c (by decide), fun c => absurd c (by decide), fun c => absurd c (by decide), fun c => absurd c (by decide), fun c => absurd c (by decide), fun c => absurd c (by decide)⟩
  · have h1d : 1 ≤ d := htk
    obtain ⟨l, hl6, rfl⟩ := hx1 (Or.inr rfl)
    obtain ⟨p1, p2⟩ := hc.2.2.2.2.2 (d - 1) (by omega)
    rw [show 7 + (d - 1) = 6 + d by omega] at p1 p2
    have v9 : vp_in (nI (d - 1)) 9 := vp_in_nI (by omega) (by omega)
    have v7 : vp_in (nI l) 7 := vp_in_nI (by omega) (by omega)
    have hg : gMake as val 2 (nI l) d Dn own G = gStore (nI l) d Dn own G := rfl
    rw [hg] at h
    rw [m1 h1d, nI_clamp (n := d - 1) (by omega), nI_clamp (n := l) (by omega), p1, e6]
    have st : (∀ S12 : MST, S12 = ms S 33 (upd (S 33) l (vp_nar .boolean (bI (gK G (6 + d))))) → vp_in (nI (d - 1)) 9 ∧ (((S12 35 (d - 1) : Int32) = 0 → wp_X12_part S12 1 (nI l) (nI (6 + d)) 0 (fun S15 => vp_in (nI (d - 1)) 9 ∧ ∀ S16 : MST, S16 = ms S15 35 (upd (S15 35) (d - 1) (vp_nar .boolean 0)) → Post S16)) ∧ (¬ (S12 35 (d - 1) : Int32) = 0 → vp_in (nI (d - 1)) 9 ∧ vp_in (nI l) 7 ∧ ∀ S18 : MST, S18 = ms S12 34 (upd (S12 34) l (S12 36 (d - 1))) → vp_in (nI (d - 1)) 9 ∧ wp_X12_part S18 0 (nI l) (S18 36 (d - 1)) 0 (fun S20 => vp_in (nI (d - 1)) 9 ∧ ∀ S21 : MST, S21 = ms S20 35 (upd (S20 35) (d - 1) (vp_nar .boolean 0)) → Post S21)))) := fun S12 e12 => by
      have n12 : ∀ k : Nat, k ≠ 33 → S12 k = S k := fun k a => by rw [e12, ms_n _ _ a]
      rw [n12 35 (by decide), p1, vn_0]
      refine ⟨v9, fun cz => ?_, fun cz => ⟨v9, v7, fun S18 e18 => ⟨v9, ?_⟩⟩⟩
      · have kf := bI_0 cz
        rw [kf] at e12
        have h12 : RG S12 c own (gForget l G) := hc.locOff (by omega) n12 (by rw [e12, ms_s]; rfl)
        refine mg_part (Fm.put e12 rfl hE) h12 hc96 (by show gN G < 640; omega) (fun S15 hE15 hc15 => ⟨v9, fun S16 e16 => h S16 (Fm.put e16 rfl hE15) ?_⟩)
        have h16 := hc15.off (show d - 1 < 8 by omega) e16
        rw [show 7 + (d - 1) = 6 + d by omega, gForget_none (by
          show (if 6 + d = l then false else gK G (6 + d)) = false
          rw [if_neg (by omega)]; exact kf)] at h16
        unfold gStore
        rw [kf, if_neg Bool.false_ne_true, nI_clamp (n := l) (by omega)]
        show RG S16 c own (gAdd (1, nI l, 7 + nI d - 1, 0, own) (gForget l G))
        rw [z6d]; exact h16
      · have kt := bI_1 cz
        rw [kt] at e12
        have h36 : S18 36 (d - 1) = gW G (6 + d) := by rw [e18, ms_n _ _ (by decide), n12 36 (by decide)]; exact p2 kt
        rw [n12 36 (by decide), p2 kt] at e18
        have h18 : RG S18 c own (gKnow l (gW G (6 + d)) G) := hc.loc (b := true) (by omega) (fun k a b => by rw [e18, ms_n _ _ b, n12 k a]) (by rw [e18, ms_n _ _ (by decide), e12, ms_s]; rfl) (by rw [e18, ms_s, n12 34 (by decide)])
        rw [h36]
        refine mg_part (Fm.put e18 rfl (Fm.put e12 rfl hE)) h18 hc96 (by show gN G < 640; omega) (fun S20 hE20 hc20 => ⟨v9, fun S21 e21 => h S21 (Fm.put e21 rfl hE20) ?_⟩)
        have h21 := hc20.off (show d - 1 < 8 by omega) e21
        rw [show 7 + (d - 1) = 6 + d by omega] at h21
        unfold gStore
        rw [if_pos kt, nI_clamp (n := l) (by omega)]
        exact h21
    exact ⟨fun c => absurd c (by decide), fun c => absurd c (by decide), fun c => absurd c (by decide), fun _ => ⟨v9, v7, st⟩, fun c => absurd c (by decide), fun c => absurd c (by decide), fun c => absurd c (by decide), fun c => absurd c (by decide), fun c => absurd c (by decide), fun c => absurd c (by decide), fun c => absurd c (by decide), fun c => absurd c (by decide), fun c => absurd c (by decide), fun c => absurd c (by decide), fun c => absurd c (by decide), fun c => absurd c (by decide), fun c => absurd c (by decide), fun c => absurd c (by decide), fun c => absurd c (by decide), fun c => absurd c (by decide), fun c => absurd c (by decide)⟩
  · exact ⟨fun c => absurd c (by decide), fun c => absurd c (by decide), fun c => absurd c (by decide), fun c => absurd c (by decide), fun _ => two (by decide) (by decide) rfl, fun c => absurd c (by decide), fun c => absurd c (by decide), fun c => absurd c (by decide), fun c => absurd c (by decide), fun c => absurd c (by decide), fun c => absurd c (by decide), fun c => absurd c (by decide), fun c => absurd c (by decide), fun c => absurd c (by decide), fun c => absurd c (by decide), fun c => absurd c (by decide), fun c => absurd c (by decide), fun c => absurd c (by decide), fun c => absurd c (by decide), fun c => absurd c (by decide), fun c => absurd c (by decide)⟩
  · exact ⟨fun c => absurd c (by decide), fun c => absurd c (by decide), fun c => absurd c (by decide), fun c => absurd c (by decide), fun c => absurd c (by decide), fun _ => two (by decide) (by decide) rfl, fun c => absurd c (by decide), fun c => absurd c (by decide), fun c => absurd c (by decide), fun c => absurd c (by decide), fun c => absurd c (by decide), fun c => absurd c (by decide), fun c => absurd c (by decide), fun c => absurd c (by decide), fun c => absurd c (by decide), fun c => absurd c (by decide), fun c => absurd c (by decide), fun c => absurd c (by decide), fun c => absurd c (by decide), fun c => absurd c (by decide), fun c => absurd c (by decide)⟩
  · exact ⟨fun c => absurd c (by decide), fun c => absurd c (by decide), fun c => absurd c (by decide), fun c => absurd c (by decide), fun c => absurd c (by decide), fun c => absurd c (by decide), fun _ => two (by decide) (by decide) rfl, fun c => absurd c (by decide), fun c => absurd c (by decide), fun c => absurd c (by decide), fun c => absurd c (by decide), fun c => absurd c (by decide), fun c => absurd c (by decide), fun c => absurd c (by decide), fun c => absurd c (by decide), fun c => absurd c (by decide), fun c => absurd c (by decide), fun c => absurd c (by decide), fun c => absurd c (by decide), fun c => absurd c (by decide), fun c => absurd c (by decide)⟩
  · exact ⟨fun c => absurd c (by decide), fun c => absurd c (by decide), fun c => absurd c (by decide), fun c => absurd c (by decide), fun c => absurd c (by decide), fun c => absurd c (by decide), fun c => absurd c (by decide), fun _ => two (by decide) (by decide) rfl, fun c => absurd c (by decide), fun c => absurd c (by decide), fun c => absurd c (by decide), fun c => absurd c (by decide), fun c => absurd c (by decide), fun c => absurd c (by decide), fun c => absurd c (by decide), fun c => absurd c (by decide), fun c => absurd c (by decide), fun c => absurd c (by decide), fun c => absurd c (by decide), fun c => absurd c (by decide), fun c => absurd c (by decide)⟩
  · exact ⟨fun c => absurd c (by decide), fun c => absurd c (by decide), fun c => absurd c (by decide), fun c => absurd c (by decide), fun c => absurd c (by decide), fun c => absurd c (by decide), fun c => absurd c (by decide), fun c => absurd c (by decide), fun _ => two (by decide) (by decide) rfl, fun c => absurd c (by decide), fun c => absurd c (by decide), fun c => absurd c (by decide), fun c => absurd c (by decide), fun c => absurd c (by decide), fun c => absurd c (by decide), fun c => absurd c (by decide), fun c => absurd c (by decide), fun c => absurd c (by decide), fun c => absurd c (by decide), fun c => absurd c (by decide), fun c => absurd c (by decide)⟩
  · exact ⟨fun c => absurd c (by decide), fun c => absurd c (by decide), fun c => absurd c (by decide), fun c => absurd c (by decide), fun c => absurd c (by decide), fun c => absurd c (by decide), fun c => absurd c (by decide), fun c => absurd c (by decide), fun c => absurd c (by decide), fun _ => two (by decide) (by decide) rfl, fun c => absurd c (by decide), fun c => absurd c (by decide), fun c => absurd c (by decide), fun c => absurd c (by decide), fun c => absurd c (by decide), fun c => absurd c (by decide), fun c => absurd c (by decide), fun c => absurd c (by decide), fun c => absurd c (by decide), fun c => absurd c (by decide), fun c => absurd c (by decide)⟩
  · have hg : gMake as val 9 x d Dn own G = gT 9 x d Dn own (gLays own 8 7 G) := rfl
    rw [hg, e8] at h
    rw [e8] at n8
    exact ⟨fun c => absurd c (by decide), fun c => absurd c (by decide), fun c => absurd c (by decide), fun c => absurd c (by decide), fun c => absurd c (by decide), fun c => absurd c (by decide), fun c => absurd c (by decide), fun c => absurd c (by decide), fun c => absurd c (by decide), fun c => absurd c (by decide), fun _ => mg_layAll hE hc hc96 hd8 (by omega) (fun S' a b => mg_part a b hc96 (by omega) h), fun c => absurd c (by decide), fun c => absurd c (by decide), fun c => absurd c (by decide), fun c => absurd c (by decide), fun c => absurd c (by decide), fun c => absurd c (by decide), fun c => absurd c (by decide), fun c => absurd c (by decide), fun c => absurd c (by decide), fun c => absurd c (by decide)⟩
  · have h1d : 1 ≤ d := htk
    exact ⟨fun c => absurd c (by decide), fun c => absurd c (by decide), fun c => absurd c (by decide), fun c => absurd c (by decide), fun c => absurd c (by decide), fun c => absurd c (by decide), fun c => absurd c (by decide), fun c => absurd c (by decide), fun c => absurd c (by decide), fun c => absurd c (by decide), fun c => absurd c (by decide), fun _ => mg_makeWhen hE hc hc96 h1d hd8 hB (by omega) h, fun c => absurd c (by decide), fun c => absurd c (by decide), fun c => absurd c (by decide), fun c => absurd c (by decide), fun c => absurd c (by decide), fun c => absurd c (by decide), fun c => absurd c (by decide), fun c => absurd c (by decide), fun c => absurd c (by decide)⟩
  · obtain ⟨y, ax, hy, rfl, h1, hax, rfl⟩ := hcall rfl
    have hg : gMake as val 11 (nI y) d (nI (d - ax + 1)) own G = gGuards as val own 8 3 (gAdd (10, nI (7 + d - ax), nI y, 0, own) (gLays own d 7 G)) := by
      show gGuards as val own 8 3 (gAdd (10, 7 + nI (d - ax + 1) - 1, nI y, 0, own) (gLays own 8 7 G)) = _
      rw [z6d, e8, show 6 + (d - ax + 1) = 7 + d - ax by omega]
    rw [hg] at h
    rw [e8] at n8
    have cl : wp_X12_layAll S (nI d) (fun S31 => vp_in (nI y) 8 ∧ (wp_X12_part S31 10 (7 + nI d - S31 1 (nI y).toNatClampNeg) (nI y) 0 (fun S33 => wp_X12_fieldGuards S33 (nI m) (fun S34 => Post S34)))) := by
      refine mg_layAll hE hc hc96 hd8 (by omega) (fun S31 hE31 hc31 => ⟨vp_in_nI hy (by omega), ?_⟩)
      rw [nI_clamp (n := y) (by omega), hE31 1 rfl, h1, e7, show nI (7 + d) - nI ax = nI (7 + d - ax) from nI_sub (by omega)]
      exact mg_part hE31 hc31 hc96 (by omega) (fun S33 hE33 hc33 => mg_fieldGuards hE33 hc33 hc96 hm has hval (by show gN (gLays own d 7 G) + 1 + 8 ≤ 640; omega) h)
    exact ⟨fun c => absurd c (by decide), fun c => absurd c (by decide), fun c => absurd c (by decide), fun c => absurd c (by decide), fun c => absurd c (by decide), fun c => absurd c (by decide), fun c => absurd c (by decide), fun c => absurd c (by decide), fun c => absurd c (by decide), fun c => absurd c (by decide), fun c => absurd c (by decide), fun c => absurd c (by decide), fun _ => cl, fun c => absurd c (by decide), fun c => absurd c (by decide), fun c => absurd c (by decide), fun c => absurd c (by decide), fun c => absurd c (by decide), fun c => absurd c (by decide), fun c => absurd c (by decide), fun c => absurd c (by decide)⟩
  · have h1d : 1 ≤ d := htk
    have hg : gMake as val 12 x d Dn own G = gAdd (11, 0, nI (6 + d), 0, own) (gLay (6 + d) own G) := by show gAdd (11, 0, 7 + nI d - 1, 0, own) _ = _; rw [z6d]
    rw [hg] at h
    rw [e6]
    exact ⟨fun c => absurd c (by decide), fun c => absurd c (by decide), fun c => absurd c (by decide), fun c => absurd c (by decide), fun c => absurd c (by decide), fun c => absurd c (by decide), fun c => absurd c (by decide), fun c => absurd c (by decide), fun c => absurd c (by decide), fun c => absurd c (by decide), fun c => absurd c (by decide), fun c => absurd c (by decide), fun c => absurd c (by decide), fun _ => lay1 _ h1d (fun S' a b q => mg_part a b hc96 q h), fun c => absurd c (by decide), fun c => absurd c (by decide), fun c => absurd c (by decide), fun c => absurd c (by decide), fun c => absurd c (by decide), fun c => absurd c (by decide), fun c => absurd c (by decide)⟩
  · have h8 : d - 0 + 1 ≤ 8 := h8 (by decide)
    have hd7 : d < 8 := by omega
    obtain ⟨f, hf, rfl⟩ := hx13 (Or.inl rfl)
    have hg : gMake as val 13 (nI f) d Dn own G = gField as val (nI f) d Dn own G := rfl
    rw [hg] at h
    rw [show (3 : Int32) + nI f = nI (3 + f) from nI_add 3 f, nI_clamp (n := 3 + f) (by omega), hE 30 rfl, has _ (by omega), show (11 : Int32) * nI m + 3 = nI (11 * m + 3) from ix11 m 3, nI_add, nI_clamp (n := 11 * m + 3 + f) (by omega), hE 20 rfl, show 11 * m + 3 + f = 11 * m + (3 + f) by omega]
    exact ⟨fun c => absurd c (by decide), fun c => absurd c (by decide), fun c => absurd c (by decide), fun c => absurd c (by decide), fun c => absurd c (by decide), fun c => absurd c (by decide), fun c => absurd c (by decide), fun c => absurd c (by decide), fun c => absurd c (by decide), fun c => absurd c (by decide), fun c => absurd c (by decide), fun c => absurd c (by decide), fun c => absurd c (by decide), fun c => absurd c (by decide), fun _ => ⟨vp_in_nI (by omega) (by omega), fun cz => mg_part hE hc hc96 (by omega) (fun S' a b => h S' a (by unfold gField; rw [nI_clamp (n := f) (by omega), bI_0 cz, if_neg Bool.false_ne_true]; exact b)), fun cz => ⟨vp_in_nI (by omega) (by omega), mg_knows hE hc (by first | exact hd7 | omega) (fun S' a b => h S' a (by unfold gField; rw [nI_clamp (n := f) (by omega), if_pos (bI_1 cz), ← hval _ (by omega) (bI_1 cz)]; exact b))⟩⟩, fun c => absurd c (by decide), fun c => absurd c (by decide), fun c => absurd c (by decide), fun c => absurd c (by decide), fun c => absurd c (by decide), fun c => absurd c (by decide)⟩
  · have h1d : 1 ≤ d := htk
    have hg : gMake as val 14 x d Dn own G = gAdd (13, x, nI (6 + d), 0, own) (gLay (6 + d) own G) := by show gAdd (13, x, 7 + nI d - 1, 0, own) _ = _; rw [z6d]
    rw [hg] at h
    rw [e6]
    exact ⟨fun c => absurd c (by decide), fun c => absurd c (by decide), fun c => absurd c (by decide), fun c => absurd c (by decide), fun c => absurd c (by decide), fun c => absurd c (by decide), fun c => absurd c (by decide), fun c => absurd c (by decide), fun c => absurd c (by decide), fun c => absurd c (by decide), fun c => absurd c (by decide), fun c => absurd c (by decide), fun c => absurd c (by decide), fun c => absurd c (by decide), fun c => absurd c (by decide), fun _ => lay1 _ h1d (fun S' a b q => mg_part a b hc96 q h), fun c => absurd c (by decide), fun c => absurd c (by decide), fun c => absurd c (by decide), fun c => absurd c (by decide), fun c => absurd c (by decide)⟩
  · have h1d : 1 ≤ d := htk
    have hg : gMake as val 15 x d Dn own G = gAdd (14, x, nI (6 + d), 0, own) (gLay (6 + d) own G) := by show gAdd (14, x, 7 + nI d - 1, 0, own) _ = _; rw [z6d]
    rw [hg] at h
    rw [e6]
    exact ⟨fun c => absurd c (by decide), fun c => absurd c (by decide), fun c => absurd c (by decide), fun c => absurd c (by decide), fun c => absurd c (by decide), fun c => absurd c (by decide), fun c => absurd c (by decide), fun c => absurd c (by decide), fun c => absurd c (by decide), fun c => absurd c (by decide), fun c => absurd c (by decide), fun c => absurd c (by decide), fun c => absurd c (by decide), fun c => absurd c (by decide), fun c => absurd c (by decide), fun c => absurd c (by decide), fun _ => lay1 _ h1d (fun S' a b q => mg_part a b hc96 q h), fun c => absurd c (by decide), fun c => absurd c (by decide), fun c => absurd c (by decide), fun c => absurd c (by decide)⟩
  · have h1d : 1 ≤ d := htk
    have hg : gMake as val 16 x d Dn own G = gAdd (15, nI (6 + d), x, nI (6 + d), own) (gLay (6 + d) own G) := by show gAdd (15, 7 + nI d - 1, x, 7 + nI d - 1, own) _ = _; rw [z6d]
    rw [hg] at h
    rw [e6]
    exact ⟨fun c => absurd c (by decide), fun c => absurd c (by decide), fun c => absurd c (by decide), fun c => absurd c (by decide), fun c => absurd c (by decide), fun c => absurd c (by decide), fun c => absurd c (by decide), fun c => absurd c (by decide), fun c => absurd c (by decide), fun c => absurd c (by decide), fun c => absurd c (by decide), fun c => absurd c (by decide), fun c => absurd c (by decide), fun c => absurd c (by decide), fun c => absurd c (by decide), fun c => absurd c (by decide), fun c => absurd c (by decide), fun _ => lay1 _ h1d (fun S' a b q => mg_part a b hc96 q h), fun c => absurd c (by decide), fun c => absurd c (by decide), fun c => absurd c (by decide)⟩
  · have h2d : 2 ≤ d := htk
    have hg : gMake as val 17 x d Dn own G = gAdd (16, x, nI (5 + d), nI (6 + d), own) (gLay (6 + d) own (gLay (5 + d) own G)) := by show gAdd (16, x, 7 + nI d - 2, 7 + nI d - 1, own) _ = _; rw [z6d, z5d]
    rw [hg] at h
    have cl : wp_X12_layOne S (nI d - 2) (fun S48 => wp_X12_layOne S48 (nI d - 1) (fun S49 => wp_X12_part S49 16 x ((6 + nI d) - 1) (6 + nI d) (fun S50 => Post S50))) := by
      rw [show nI d - 2 = nI (d - 2) from zpl (k := 2) h2d, m1 (by omega), e6, show nI (6 + d) - 1 = nI (5 + d) by rw [nI_m1 (by omega)]; congr 1; omega]
      refine mg_layOne hE hc hc96 (by omega) (by omega) (fun S3 hE3 hc3 => ?_)
      rw [show 7 + (d - 2) = 5 + d by omega] at hc3
      have n3 := gN_lay (r := 5 + d) (i := own) (G := G)
      refine mg_layOne hE3 hc3 hc96 (by omega) (by omega) (fun S4 hE4 hc4 => ?_)
      rw [show 7 + (d - 1) = 6 + d by omega] at hc4
      have n4 := gN_lay (r := 6 + d) (i := own) (G := gLay (5 + d) own G)
      exact mg_part hE4 hc4 hc96 (by omega) h
    exact ⟨fun c => absurd c (by decide), fun c => absurd c (by decide), fun c => absurd c (by decide), fun c => absurd c (by decide), fun c => absurd c (by decide), fun c => absurd c (by decide), fun c => absurd c (by decide), fun c => absurd c (by decide), fun c => absurd c (by decide), fun c => absurd c (by decide), fun c => absurd c (by decide), fun c => absurd c (by decide), fun c => absurd c (by decide), fun c => absurd c (by decide), fun c => absurd c (by decide), fun c => absurd c (by decide), fun c => absurd c (by decide), fun c => absurd c (by decide), fun _ => cl, fun c => absurd c (by decide), fun c => absurd c (by decide)⟩
  · have h8 : d - 1 + 2 ≤ 8 := h8 (by decide)
    have h1d : 1 ≤ d := htk
    obtain ⟨p1, p2⟩ := hc.2.2.2.2.2 (d - 1) (by omega)
    rw [show 7 + (d - 1) = 6 + d by omega] at p1 p2
    have hg : gMake as val 18 x d Dn own G = gCopy 18 (6 + d) x d Dn own G := rfl
    rw [hg] at h
    rw [m1 h1d, nI_clamp (n := d - 1) (by omega), p1, e6, e7]
    have eg : gT 18 x d Dn own G = gAdd (1, nI (7 + d), nI (6 + d), 0, own) G := by show gAdd (1, 7 + nI d, 7 + nI d - 1, 0, own) _ = _; rw [z6d, e7]
    exact ⟨fun c => absurd c (by decide), fun c => absurd c (by decide), fun c => absurd c (by decide), fun c => absurd c (by decide), fun c => absurd c (by decide), fun c => absurd c (by decide), fun c => absurd c (by decide), fun c => absurd c (by decide), fun c => absurd c (by decide), fun c => absurd c (by decide), fun c => absurd c (by decide), fun c => absurd c (by decide), fun c => absurd c (by decide), fun c => absurd c (by decide), fun c => absurd c (by decide), fun c => absurd c (by decide), fun c => absurd c (by decide), fun c => absurd c (by decide), fun c => absurd c (by decide), fun _ => ⟨vp_in_nI (by omega) (by omega), fun cz => mg_part hE hc hc96 (by omega) (fun S' a b => h S' a (by unfold gCopy; rw [bI_0 cz, if_neg Bool.false_ne_true, eg]; exact b)), fun cz => ⟨vp_in_nI (by omega) (by omega), mg_knows hE hc (by first | exact hd7 | omega) (fun S' a b => h S' a (by unfold gCopy; rw [if_pos (bI_1 cz), ← p2 (bI_1 cz)]; exact b))⟩⟩, fun c => absurd c (by decide)⟩
  · have h1d : 1 ≤ d := htk
    rw [m1 h1d, nI_clamp (n := d - 1) (by omega), vn_0]
    exact ⟨fun c => absurd c (by decide), fun c => absurd c (by decide), fun c => absurd c (by decide), fun c => absurd c (by decide), fun c => absurd c (by decide), fun c => absurd c (by decide), fun c => absurd c (by decide), fun c => absurd c (by decide), fun c => absurd c (by decide), fun c => absurd c (by decide), fun c => absurd c (by decide), fun c => absurd c (by decide), fun c => absurd c (by decide), fun c => absurd c (by decide), fun c => absurd c (by decide), fun c => absurd c (by decide), fun c => absurd c (by decide), fun c => absurd c (by decide), fun c => absurd c (by decide), fun c => absurd c (by decide), fun _ => ⟨vp_in_nI (by omega) (by omega), fun S56 e56 => h S56 (Fm.put e56 rfl hE) (by have h5 := hc.off (show d - 1 < 8 by omega) e56; rw [show 7 + (d - 1) = 6 + d by omega] at h5; exact h5)⟩⟩
