/-! THE REFERENCE: all INSTRUCTIONS -/
/-- the PARTS alone -/
def RGd (S : MST) (c : Nat) (own : Int32) (G : GS) : Prop := S 31 0 = nI c ∧ S 32 0 = own ∧ S 23 c = nI (gN G) ∧ ∀ p : Nat, p < gN G → S 25 (640 * c + p) = (gP G p).1 ∧ S 26 (640 * c + p) = (gP G p).2.1 ∧ S 27 (640 * c + p) = (gP G p).2.2.1 ∧ S 28 (640 * c + p) = (gP G p).2.2.2.1 ∧ S 29 (640 * c + p) = (gP G p).2.2.2.2
theorem RG.d {S : MST} {c : Nat} {own : Int32} {G : GS} (h : RG S c own G) : RGd S c own G := ⟨h.1, h.2.1, h.2.2.1, h.2.2.2.1⟩
theorem mh_part {S0 S : MST} {c : Nat} {own : Int32} {G : GS} {o d a b : Int32} {Post : MST → Prop} (hE : Fm LM4 S0 S) (hc : RGd S c own G) (hc96 : c < 96) (hN : gN G < 640) (h : ∀ S' : MST, Fm LM4 S0 S' → RGd S' c own (gAdd (o, d, a, b, own) G) → Post S') : wp_X12_part S o d a b Post := by
  obtain ⟨h31, h32, h23, hP⟩ := hc
  unfold wp_X12_part
  have hcc : (nI c).toNatClampNeg = c := nI_clamp (by omega)
  have hcp : (nI (640 * c + gN G)).toNatClampNeg = 640 * c + gN G := nI_clamp (by omega)
  have hvp : vp_in (nI (640 * c + gN G)) 61440 := vp_in_nI (by omega) (by omega)
  rw [h31, hcc, h23, ix640, hcp]
  refine ⟨vp_in_nI hc96 (by omega), hvp, fun S2 e2 => ⟨hvp, fun S3 e3 => ⟨hvp, fun S4 e4 => ⟨hvp, fun S5 e5 => ⟨hvp, fun S6 e6 => ?_⟩⟩⟩⟩⟩
  have g6 : ∀ k : Nat, k ≠ 25 → k ≠ 26 → k ≠ 27 → k ≠ 28 → k ≠ 29 → S6 k = S k := fun k q1 q2 q3 q4 q5 => by
    rw [e6, ms_n _ _ q5, e5, ms_n _ _ q4, e4, ms_n _ _ q3, e3, ms_n _ _ q2, e2, ms_n _ _ q1]
  have g31 : S6 31 0 = nI c := by rw [g6 31 (by decide) (by decide) (by decide) (by decide) (by decide)]; exact h31
  have g23 : S6 23 c = nI (gN G) := by rw [g6 23 (by decide) (by decide) (by decide) (by decide) (by decide)]; exact h23
  have g32 : S5 32 0 = own := by
    rw [e5, ms_n _ _ (show 32 ≠ 28 by decide), e4, ms_n _ _ (show 32 ≠ 27 by decide), e3, ms_n _ _ (show 32 ≠ 26 by decide), e2, ms_n _ _ (show 32 ≠ 25 by decide)]; exact h32
  have q25 : S6 25 = upd (S 25) (640 * c + gN G) o := by rw [e6, ms_n _ _ (show 25 ≠ 29 by decide), e5, ms_n _ _ (show 25 ≠ 28 by decide), e4, ms_n _ _ (show 25 ≠ 27 by decide), e3, ms_n _ _ (show 25 ≠ 26 by decide), e2, ms_s]
  have q26 : S6 26 = upd (S 26) (640 * c + gN G) d := by rw [e6, ms_n _ _ (show 26 ≠ 29 by decide), e5, ms_n _ _ (show 26 ≠ 28 by decide), e4, ms_n _ _ (show 26 ≠ 27 by decide), e3, ms_s, e2, ms_n _ _ (show 26 ≠ 25 by decide)]
  have q27 : S6 27 = upd (S 27) (640 * c + gN G) a := by rw [e6, ms_n _ _ (show 27 ≠ 29 by decide), e5, ms_n _ _ (show 27 ≠ 28 by decide), e4, ms_s, e3, ms_n _ _ (show 27 ≠ 26 by decide), e2, ms_n _ _ (show 27 ≠ 25 by decide)]
  have q28 : S6 28 = upd (S 28) (640 * c + gN G) b := by rw [e6, ms_n _ _ (show 28 ≠ 29 by decide), e5, ms_s, e4, ms_n _ _ (show 28 ≠ 27 by decide), e3, ms_n _ _ (show 28 ≠ 26 by decide), e2, ms_n _ _ (show 28 ≠ 25 by decide)]
  have q29 : S6 29 = upd (S 29) (640 * c + gN G) own := by rw [e6, ms_s, g32, e5, ms_n _ _ (show 29 ≠ 28 by decide), e4, ms_n _ _ (show 29 ≠ 27 by decide), e3, ms_n _ _ (show 29 ≠ 26 by decide), e2, ms_n _ _ (show 29 ≠ 25 by decide)]
  rw [g31, hcc, g23, nI_1]
  refine ⟨vp_in_nI hc96 (by omega), vp_in_nI hc96 (by omega), fun S8 e8 => ?_⟩
  have r : ∀ k : Nat, k ≠ 23 → S8 k = S6 k := fun k q => by rw [e8, ms_n _ _ q]
  have s23 : S8 23 = upd (S 23) c (nI (gN G + 1)) := by rw [e8, ms_s, g6 23 (by decide) (by decide) (by decide) (by decide) (by decide)]
  refine h S8 (Fm.put e8 rfl (Fm.put e6 rfl (Fm.put e5 rfl (Fm.put e4 rfl (Fm.put e3 rfl (Fm.put e2 rfl hE)))))) ⟨by rw [r 31 (by decide)]; exact g31, by rw [r 32 (by decide), g6 32 (by decide) (by decide) (by decide) (by decide) (by decide)]; exact h32, by rw [s23, upd_s]; rfl, fun p hp => ?_⟩
  · have hp : p < gN G + 1 := hp
    rw [r 25 (by decide), r 26 (by decide), r 27 (by decide), r 28 (by decide), r 29 (by decide), q25, q26, q27, q28, q29]
    have eP : gP (gAdd (o, d, a, b, own) G) p = if p = gN G then (o, d, a, b, own) else gP G p := rfl
    rw [eP]
    by_cases w : p = gN G
    · rw [if_pos w, w, upd_s, upd_s, upd_s, upd_s, upd_s]; exact ⟨rfl, rfl, rfl, rfl, rfl⟩
    · have hne : 640 * c + p ≠ 640 * c + gN G := by omega
      rw [if_neg w, upd_n _ _ hne, upd_n _ _ hne, upd_n _ _ hne, upd_n _ _ hne, upd_n _ _ hne]
      exact hP p (by omega)
theorem mh_fg2 {S0 : MST} {c m : Nat} {own : Int32} {as : Nat → Bool} {val : Nat → Int32} {K Post : MST → Prop} (hc96 : c < 96) (hm : m < 8) (has : ∀ t : Nat, t < 11 → S0 30 t = bI (as t)) (hval : ∀ t : Nat, t < 11 → as t = true → S0 20 (11 * m + t) = val t) : ∀ (k f : Nat) (S : MST) (G : GS), f + k = 8 → Fm LM4 S0 S → RGd S c own G → gN G + k ≤ 640 → (∀ S' : MST, Fm LM4 S0 S' → RGd S' c own (gGuards as val own k (3 + f) G) → K S') → wl_X12_fieldGuards_2 K Post (k + 1) S (nI m) (nI f) := by
  intro k
  induction k with
  | zero =>
    intro f S G hf hE hc _ h
    unfold wl_X12_fieldGuards_2
    obtain rfl : f = 8 := by omega
    exact ⟨fun _ => h S hE hc, fun w => absurd (show (8 : Int32) ≤ nI 8 by decide) w⟩
  | succ k ih =>
    intro f S G hf hE hc hN h
    unfold wl_X12_fieldGuards_2
    rw [nI_1, show (3 : Int32) + nI f = nI (3 + f) from nI_add 3 f, nI_clamp (n := 3 + f) (by omega), hE 30 rfl, has _ (by omega), show (11 : Int32) * nI m + 3 = nI (11 * m + 3) from ix11 m 3, nI_add, nI_clamp (n := 11 * m + 3 + f) (by omega), hE 20 rfl]
    refine ⟨fun w => absurd w (nI_ge (b := 8) (by omega) (by omega)), fun _ => ⟨vp_in_nI (by omega) (by omega), fun w => ?_, fun w => ⟨vp_in_nI (by omega) (by omega), ?_⟩⟩⟩
    · have e : gGuard as val own (3 + f) G = G := if_neg (by rw [bI_0 w]; exact Bool.false_ne_true)
      refine ih (f + 1) S G (by omega) hE hc (by omega) (fun S' a b => h S' a ?_)
      show RGd S' c own (gGuards as val own k (3 + f + 1) (gGuard as val own (3 + f) G))
      rw [e]; exact b
    · have e : gGuard as val own (3 + f) G = gAdd (gdT val own (3 + f)) G := if_pos (bI_1 w)
      have e2 : gdT val own (3 + f) = (18, nI f, val (3 + f), 0, own) := by rw [gdT_hi (by omega), show 3 + f - 3 = f by omega]
      rw [show 11 * m + 3 + f = 11 * m + (3 + f) by omega, hval (3 + f) (by omega) (bI_1 w)]
      refine mh_part hE hc hc96 (by omega) (fun S' hE' hc' => ih (f + 1) S' _ (by omega) hE' hc' (by show gN G + 1 + k ≤ 640; omega) (fun S2 a b => h S2 a ?_))
      show RGd S2 c own (gGuards as val own k (3 + f + 1) (gGuard as val own (3 + f) G))
      rw [e, e2]; exact b
theorem mh_fieldGuards {S0 S : MST} {c m : Nat} {own : Int32} {as : Nat → Bool} {val : Nat → Int32} {G : GS} {Post : MST → Prop} (hE : Fm LM4 S0 S) (hc : RGd S c own G) (hc96 : c < 96) (hm : m < 8) (has : ∀ t : Nat, t < 11 → S0 30 t = bI (as t)) (hval : ∀ t : Nat, t < 11 → as t = true → S0 20 (11 * m + t) = val t) (hN : gN G + 8 ≤ 640) (h : ∀ S' : MST, Fm LM4 S0 S' → RGd S' c own (gGuards as val own 8 3 G) → Post S') : wp_X12_fieldGuards S (nI m) Post := by
  unfold wp_X12_fieldGuards
  exact ⟨9, mh_fg2 hc96 hm has hval 8 0 S G rfl hE hc hN h⟩
/-- of LOCALS the ASSUMED ARGS alone are KNOWN -/
theorem mg_bg23 {S0 : MST} {c m : Nat} {own : Int32} {as : Nat → Bool} {val : Nat → Int32} {G : GS} {K Post : MST → Prop} (hm : m < 8) (has : ∀ t : Nat, t < 11 → S0 30 t = bI (as t)) (hval : ∀ t : Nat, t < 11 → as t = true → S0 20 (11 * m + t) = val t) (h : ∀ S' : MST, Fm LM4 S0 S' → RG S' c own (gBegin as val G) → K S') :
    ∀ (k l : Nat) (S : MST), l + k = 7 → Fm LM4 S0 S → RGd S c own G → (∀ j : Nat, j < 9 → S 35 j = 0) → (∀ q : Nat, q < l → S 33 q = bI (if q < 3 then as q else false) ∧ ((if q < 3 then as q else false) = true → S 34 q = val q)) → wl_X12_begins_23 K Post (k + 1) S (nI m) (nI l) := by
  intro k
  induction k with
  | zero =>
    intro l S hl hE hc hz hq
    unfold wl_X12_begins_23
    obtain rfl : l = 7 := by omega
    refine ⟨fun _ => h S hE ⟨hc.1, hc.2.1, hc.2.2.1, hc.2.2.2, hq, fun j hj => ?_⟩, fun q => absurd (show (7 : Int32) ≤ nI 7 by decide) q⟩
    show S 35 j = bI (if 7 + j < 3 then as (7 + j) else false) ∧ ((if 7 + j < 3 then as (7 + j) else false) = true → S 36 j = val (7 + j))
    rw [if_neg (by omega), hz j (by omega)]
    exact ⟨rfl, fun q => absurd q Bool.false_ne_true⟩
  | succ k ih =>
    intro l S hl hE hc hz hq
    have hl7 : l < 7 := by omega
    have v7 : vp_in (nI l) 7 := vp_in_nI hl7 (by omega)
    have v11 : vp_in (nI l) 11 := vp_in_nI (by omega) (by omega)
    -- both are set
    have put : ∀ (b : Bool) (v : Int32), b = (if l < 3 then as l else false) → (b = true → v = val l) → ∀ S3 : MST, S3 = ms S 33 (upd (S 33) l (bI b)) → ∀ S5 : MST, S5 = ms S3 34 (upd (S3 34) l v) → wl_X12_begins_23 K Post (k + 1) S5 (nI m) (nI (l + 1)) := fun b v hb hv S3 e3 S5 e5 => by
      have n : ∀ k : Nat, k ≠ 33 → k ≠ 34 → S5 k = S k := fun k a b => by rw [e5, ms_n _ _ b, e3, ms_n _ _ a]
      have s33 : S5 33 = upd (S 33) l (bI b) := by rw [e5, ms_n _ _ (by decide), e3, ms_s]
      have s34 : S5 34 = upd (S 34) l v := by rw [e5, ms_s, e3, ms_n _ _ (by decide)]
      refine ih (l + 1) S5 (by omega) (Fm.put e5 rfl (Fm.put e3 rfl hE)) ⟨by rw [n 31 (by decide) (by decide)]; exact hc.1, by rw [n 32 (by decide) (by decide)]; exact hc.2.1, by rw [n 23 (by decide) (by decide)]; exact hc.2.2.1, fun p hp => by rw [n 25 (by decide) (by decide), n 26 (by decide) (by decide), n 27 (by decide) (by decide), n 28 (by decide) (by decide), n 29 (by decide) (by decide)]; exact hc.2.2.2 p hp⟩ (fun j hj => by rw [n 35 (by decide) (by decide)]; exact hz j hj) (fun q hql => ?_)
      rw [s33, s34]
      by_cases w : q = l
      · rw [w, upd_s, upd_s, ← hb]; exact ⟨rfl, hv⟩
      · rw [upd_n _ _ w, upd_n _ _ w]; exact hq q (by omega)
    have e20 : ∀ (S3 : MST) (b : Int32), S3 = ms S 33 (upd (S 33) l b) → S3 20 = S0 20 := fun S3 b e3 => by rw [e3, ms_n _ _ (by decide)]; exact hE 20 rfl
    unfold wl_X12_begins_23
    rw [nI_1, nI_clamp (n := l) (by omega), ix11, nI_clamp (n := 11 * m + l) (by omega), hE 30 rfl, has l (by omega), vn_1, vn_0]
    refine ⟨fun q => absurd q (nI_ge (b := 7) hl7 (by omega)), fun _ => ⟨fun q3 => ?_, fun q3 => ⟨v11, fun cz => ⟨v7, fun S10 e10 => ⟨fun q => absurd q q3, fun _ => ⟨vp_in_nI (by omega) (by omega), v7, fun S14 e14 => ?_⟩⟩⟩, fun cn => ⟨v7, fun S15 e15 => ⟨fun q => absurd q q3, fun _ => ⟨vp_in_nI (by omega) (by omega), v7, fun S19 e19 => ?_⟩⟩⟩⟩⟩⟩
    · have l3 : ¬ l < 3 := fun q => nI_ge (b := 3) q (by omega) q3
      exact ⟨v7, fun S3 e3 => ⟨fun _ => ⟨v7, fun S5 e5 => put false 0 (by rw [if_neg l3]) (fun q => absurd q Bool.false_ne_true) S3 e3 S5 e5⟩, fun q => absurd q3 q⟩⟩
    · have l3 : l < 3 := Nat.not_le.mp (fun q => q3 (nI_le (a := 3) q (by omega)))
      exact put false _ (by rw [if_pos l3]; exact (bI_0 cz).symm) (fun q => absurd q Bool.false_ne_true) S10 e10 S14 e14
    · have l3 : l < 3 := Nat.not_le.mp (fun q => q3 (nI_le (a := 3) q (by omega)))
      refine put true _ (by rw [if_pos l3]; exact (bI_1 cn).symm) (fun _ => ?_) S15 e15 S19 e19
      rw [e20 S15 _ e15]; exact hval l (by omega) (bI_1 cn)
theorem mg_bg2 {S0 : MST} {c m : Nat} {own : Int32} {G : GS} {K : MST → Int32 → Prop} {Post : MST → Prop} (h : ∀ S' : MST, Fm LM4 S0 S' → RGd S' c own G → (∀ j : Nat, j < 9 → S' 35 j = 0) → K S' (nI m)) : ∀ (k r : Nat) (S : MST), r + k = 9 → Fm LM4 S0 S → RGd S c own G → (∀ q : Nat, q < r → S 35 q = 0) → wl_X12_begins_2 K Post (k + 1) S (nI m) (nI r) := by
  intro k
  induction k with
  | zero =>
    intro r S hr hE hc hz
    unfold wl_X12_begins_2
    obtain rfl : r = 9 := by omega
    exact ⟨fun _ => h S hE hc hz, fun c => absurd (show (9 : Int32) ≤ nI 9 by decide) c⟩
  | succ k ih =>
    intro r S hr hE hc hz
    unfold wl_X12_begins_2
    rw [nI_1, nI_clamp (n := r) (by omega), vn_0]
    refine ⟨fun c => absurd c (nI_ge (b := 9) (by omega) (by omega)), fun _ => ⟨vp_in_nI (by omega) (by omega), fun S12 e12 => ih (r + 1) S12 (by omega) (Fm.put e12 rfl hE) ?_ (fun q hq => ?_)⟩⟩
    · have n : ∀ k : Nat, k ≠ 35 → S12 k = S k := fun k a => by rw [e12, ms_n _ _ a]
      exact ⟨by rw [n 31 (by decide)]; exact hc.1, by rw [n 32 (by decide)]; exact hc.2.1, by rw [n 23 (by decide)]; exact hc.2.2.1, fun p hp => by rw [n 25 (by decide), n 26 (by decide), n 27 (by decide), n 28 (by decide), n 29 (by decide)]; exact hc.2.2.2 p hp⟩
    · rw [e12, ms_s]
      by_cases w : q = r
      · rw [w, upd_s]
      · rw [upd_n _ _ w]; exact hz q (by omega)
theorem mg_begins {S0 S : MST} {c m : Nat} {own : Int32} {as : Nat → Bool} {val : Nat → Int32} {G : GS} {Post : MST → Prop} (hm : m < 8) (has : ∀ t : Nat, t < 11 → S0 30 t = bI (as t)) (hval : ∀ t : Nat, t < 11 → as t = true → S0 20 (11 * m + t) = val t) (hE : Fm LM4 S0 S) (hc : RGd S c own G) (h : ∀ S' : MST, Fm LM4 S0 S' → RG S' c own (gBegin as val G) → Post S') : wp_X12_begins S (nI m) Post := by
  unfold wp_X12_begins
  exact ⟨10, mg_bg2 (S0 := S0) (fun S21 hE21 hc21 hz => ⟨8, mg_bg23 hm has hval h 7 0 S21 (by omega) hE21 hc21 hz (fun q hq => absurd hq (by omega))⟩) 9 0 S (by omega) hE hc (fun q hq => absurd hq (by omega))⟩
abbrev LM5 : List Nat := [23, 24, 25, 26, 27, 28, 29, 32, 33, 34, 35, 36]
theorem Fm.up {S0 S S' : MST} (h : Fm LM4 S S') (h0 : Fm LM5 S0 S) : Fm LM5 S0 S' := Fm.step h (by decide) h0
/-- the loop's state ahead of INSTRUCTION j -/
def FoM (S0 S : MST) (c : Nat) (as : Nat → Bool) (val : Nat → Int32) (tg : Nat → Bool) (op : Nat → Nat) (xs dp : Nat → Int32) (H : GS) (j : Nat) : Prop :=
  Fm LM5 S0 S ∧ (∃ own : Int32, RG S c own (gRun as val tg op xs dp H j) ∧ (gOn op dp j = true → own = nI (j - 1))) ∧ ∀ i : Nat, i < j → ¬ dp i = -1 → S 24 (60 * c + i) = nI (if i = 0 then 0 else gPos as val tg op xs dp H i)
theorem mg_mk_99 {S0 : MST} {c m n : Nat} {as : Nat → Bool} {val : Nat → Int32} {op : Nat → Nat} {xs dp : Nat → Int32} {H : GS} {K Post : MST → Prop} (hc96 : c < 96) (hP : PrM S0 m n op xs dp) (hL : LkP as (tgB n op xs dp) n op xs dp) (hH : CD as val (gN H) H) (hHN : gN H ≤ 11)
    (has : ∀ t : Nat, t < 11 → S0 30 t = bI (as t)) (hval : ∀ t : Nat, t < 11 → as t = true → S0 20 (11 * m + t) = val t) (hcall : ∀ i d : Nat, i < n → d ≤ 8 → dp i = nI d → op i = 11 → ∃ y ax : Nat, y < 8 ∧ xs i = nI y ∧ S0 1 y = nI ax ∧ ax ≤ d ∧ dp (i + 1) = nI (d - ax + 1)) (hK : ∀ S : MST, FoM S0 S c as val (tgB n op xs dp) op xs dp H n → K S) :
    ∀ (k j : Nat) (S : MST), j + k = n → FoM S0 S c as val (tgB n op xs dp) op xs dp H j → wl_X12_makeCode_99 K Post (k + 1) S (nI m) (nI j) := by
  have hn60 := hP.2.2.1
  have hm := hP.1
  have hdp : ∀ i : Nat, i < n → dp i = -1 ∨ ∃ d : Nat, d ≤ 8 ∧ dp i = nI d := fun i hi => (hL.2.2.2.2 i hi).imp id (fun ⟨d, a, b, _⟩ => ⟨d, b.2.1, a⟩)
  have v8 : vp_in (nI m) 8 := vp_in_nI hm (by omega)
  intro k
  induction k with
  | zero =>
    intro j S hj hF
    obtain rfl : j = n := by omega
    unfold wl_X12_makeCode_99
    rw [nI_clamp (n := m) (by omega), hF.1 3 rfl, hP.2.1]
    exact ⟨v8, fun _ => hK S hF, fun c => absurd (nI_le (Nat.le_refl _) (by omega)) c⟩
  | succ k ih =>
    intro j S hj hF
    obtain ⟨hE, ⟨own, hR, hown⟩, hFs⟩ := id hF
    have hPS := hP.fm hE rfl
    obtain ⟨_, hl, _, hp⟩ := id hPS
    have hjn : j < n := by omega
    have v480 : vp_in (nI (60 * m + j)) 480 := vp_in_nI (by omega) (by omega)
    -- the INSTRUCTION itself, behind what is done at a TARGET
    have go : ∀ (d : Nat) (ow : Int32), dp j = nI d → InsOk as (op j) d (xs j) (dp (j + 1)) → ∀ S2 : MST, Fm LM5 S0 S2 → S2 24 = S 24 → RG S2 c ow (gTg as val (tgB n op xs dp j) (gOn op dp j) (nI (j - 1)) (gRun as val (tgB n op xs dp) op xs dp H j)) → ((¬ (((nI j) : Int32) = 0)) → (vp_in (S2 31 0) 96 ∧ (vp_in ((60 * (S2 31 0)) + (nI j)) 5760 ∧ (∀ S19 : MST, S19 = ms S2 24 (upd (S2 24) ((60 * (S2 31 0)) + (nI j) : Int32).toNatClampNeg (S2 23 (S2 31 0 : Int32).toNatClampNeg)) → (∀ S20 : MST, S20 = ms S19 32 (fun _ => (nI j)) → (wp_X12_make S20 (nI m) (nI j) (fun S21 => wl_X12_makeCode_99 K Post (k + 1) S21 (nI m) (nI (j + 1)))))))) ) ∧ ((((nI j) : Int32) = 0) → (vp_in ((60 * (S2 31 0)) + (nI j)) 5760 ∧ (∀ S22 : MST, S22 = ms S2 24 (upd (S2 24) ((60 * (S2 31 0)) + (nI j) : Int32).toNatClampNeg 0) → (∀ S23 : MST, S23 = ms S22 32 (fun _ => (nI j)) → (wp_X12_make S23 (nI m) (nI j) (fun S24 => wl_X12_makeCode_99 K Post (k + 1) S24 (nI m) (nI (j + 1)))))))) := by
      intro d ow hdj hI S2 hE2 e24 hc2
      obtain ⟨i1, i2, i3⟩ := gRun_inv hL hH hHN j (by omega)
      have p2 := gTg_pot (as := as) (val := val) (tg := tgB n op xs dp j) (on := gOn op dp j) (ip := nI (j - 1)) (G := gRun as val (tgB n op xs dp) op xs dp H j)
      have hN : gN (gTg as val (tgB n op xs dp j) (gOn op dp j) (nI (j - 1)) (gRun as val (tgB n op xs dp) op xs dp H j)) ≤ 11 + 9 * j := by
        have : gN (gTg as val (tgB n op xs dp j) (gOn op dp j) (nI (j - 1)) (gRun as val (tgB n op xs dp) op xs dp H j)) ≤ pot (gTg as val (tgB n op xs dp j) (gOn op dp j) (nI (j - 1)) (gRun as val (tgB n op xs dp) op xs dp H j)) := Nat.le_add_right _ _
        omega
      have hKB := gTg_KB hL hH hHN hjn hdj hI.2.1
      have v5760 : vp_in (nI (60 * c + j)) 5760 := vp_in_nI (by omega) (by omega)
      have fin : ∀ v : Int32, v = nI (if j = 0 then 0 else gPos as val (tgB n op xs dp) op xs dp H j) → ∀ S19 : MST, S19 = ms S2 24 (upd (S2 24) (60 * c + j) v) → ∀ S20 : MST, S20 = ms S19 32 (fun _ => nI j) → wp_X12_make S20 (nI m) (nI j) (fun S21 => wl_X12_makeCode_99 K Post (k + 1) S21 (nI m) (nI (j + 1))) := fun v hv S19 e19 S20 e20 => by
        have n20 : ∀ q : Nat, q ≠ 24 → q ≠ 32 → S20 q = S2 q := fun q a b => by rw [e20, ms_n _ _ b, e19, ms_n _ _ a]
        have hE20 : Fm LM5 S0 S20 := Fm.put e20 rfl (Fm.put e19 rfl hE2)
        have s24 : S20 24 = upd (S 24) (60 * c + j) v := by rw [e20, ms_n _ _ (by decide), e19, ms_s, e24]
        have hc20 : RG S20 c (nI j) (gTg as val (tgB n op xs dp j) (gOn op dp j) (nI (j - 1)) (gRun as val (tgB n op xs dp) op xs dp H j)) := ⟨by rw [n20 31 (by decide) (by decide)]; exact hc2.1, by rw [e20, ms_s], by rw [n20 23 (by decide) (by decide)]; exact hc2.2.2.1, fun p hp => by rw [n20 25 (by decide) (by decide), n20 26 (by decide) (by decide), n20 27 (by decide) (by decide), n20 28 (by decide) (by decide), n20 29 (by decide) (by decide)]; exact hc2.2.2.2.1 p hp, fun l hl => by rw [n20 33 (by decide) (by decide), n20 34 (by decide) (by decide)]; exact hc2.2.2.2.2.1 l hl, fun q hq => by rw [n20 35 (by decide) (by decide), n20 36 (by decide) (by decide)]; exact hc2.2.2.2.2.2 q hq⟩
        refine mg_make (S0 := S20) (val := val) (Dn := dp (j + 1)) Fm.rf hc20 hc96 (hP.fm hE20 rfl) hjn hdj hI hKB (by omega) (fun t ht => by rw [hE20 30 rfl]; exact has t ht) (fun t ht hat => by rw [hE20 20 rfl]; exact hval t ht hat) (fun q => by
          obtain ⟨y, ax, a, b, c', d', e'⟩ := hcall j d hjn hI.2.1 hdj q
          exact ⟨y, ax, a, b, by rw [hE20 1 rfl]; exact c', d', e'⟩) (fun S21 hE21 hc21 => ih (j + 1) S21 (by omega) ⟨Fm.up hE21 hE20, ⟨nI j, ?_, fun _ => by rw [show j + 1 - 1 = j by omega]⟩, fun i hi hli => ?_⟩)
        · show RG S21 c (nI j) (gStep as val (tgB n op xs dp) op xs dp j (gRun as val (tgB n op xs dp) op xs dp H j))
          rw [gStep_live hdj hI.2.1]; exact hc21
        · rw [hE21 24 rfl, s24]
          by_cases w : i = j
          · rw [w, upd_s, hv]
          · rw [upd_n _ _ (by omega)]; exact hFs i (by omega) hli
      rw [hc2.1, nI_clamp (n := c) (by omega), ix60, nI_clamp (n := 60 * c + j) (by omega), hc2.2.2.1]
      refine ⟨fun cn => ⟨vp_in_nI hc96 (by omega), v5760, fun S19 e19 S20 e20 => fin _ ?_ S19 e19 S20 e20⟩, fun cz => ⟨v5760, fun S22 e22 S23 e23 => fin 0 ?_ S22 e22 S23 e23⟩⟩
      · rw [if_neg (fun w => cn (by rw [w]; rfl))]; rfl
      · rw [if_pos (nI_inj (b := 0) cz (by omega) (by omega))]; rfl
    unfold wl_X12_makeCode_99
    rw [nI_clamp (n := m) (by omega), hl, nI_1, ix60, nI_clamp (n := 60 * m + j) (by omega), (hp j hjn).2.2.2]
    refine ⟨v8, fun c => absurd c (nI_ge hjn (by omega)), fun _ => ⟨v480, fun cneg => ?_, fun cpos => ?_⟩⟩
    · have hdj : dp j = -1 := (hdp j hjn).resolve_right (fun ⟨d, a, b⟩ => by rw [b] at cneg; exact nI_nn d (by omega) cneg)
      refine ih (j + 1) S (by omega) ⟨hE, ⟨own, ?_, fun q => ?_⟩, fun i hi hli => hFs i ?_ hli⟩
      · show RG S c own (gStep as val (tgB n op xs dp) op xs dp j (gRun as val (tgB n op xs dp) op xs dp H j))
        rw [gStep_dead hdj]; exact hR
      · have := of_decide_eq_true q
        rw [show j + 1 - 1 = j by omega] at this
        exact absurd hdj this.2.1
      · have : i ≠ j := fun w => hli (by rw [w]; exact hdj)
        omega
    · have hlive : ¬ dp j = -1 := fun w => cpos (by rw [w]; decide)
      obtain ⟨d, hdj, hI, h11, hnx, htgj⟩ := (hL.2.2.2.2 j hjn).resolve_left hlive
      have bg : ∀ (ow : Int32) (G : GS) (S2 : MST), Fm LM5 S0 S2 → S2 24 = S 24 → RGd S2 c ow G → ∀ {P : MST → Prop}, (∀ S3 : MST, Fm LM5 S0 S3 → S3 24 = S 24 → RG S3 c ow (gBegin as val G) → P S3) → wp_X12_begins S2 (nI m) P := fun ow G S2 hE2 e24 hc2 P hP' => mg_begins (S0 := S2) (val := val) hm (fun t ht => by rw [hE2 30 rfl]; exact has t ht) (fun t ht hat => by rw [hE2 20 rfl]; exact hval t ht hat) Fm.rf hc2 (fun S3 hE3 hc3 => hP' S3 (Fm.up hE3 hE2) ((hE3 24 rfl).trans e24) hc3)
      refine mg_isTarget hPS hdp (fun ht => ⟨fun q => absurd q (by decide), fun _ => ?_⟩) (fun hnt => ⟨fun _ => ?_, fun q => absurd rfl q⟩)
      · have tt : tgB n op xs dp j = true := pB_t ht
        refine ⟨fun c0 => ?_, fun cn0 => ?_⟩
        · have j0 : j = 0 := Nat.le_zero.mp (Nat.not_lt.mp (fun q => nI_ge q (by omega) (show nI j ≤ nI 0 from c0)))
          refine bg own _ S hE rfl hR.d (fun S3 hE3 e24 hc3 => go d own hdj hI S3 hE3 e24 ?_)
          unfold gTg
          rw [tt, if_pos rfl, show gOn op dp j = false by rw [j0]; exact gOn_0, if_neg Bool.false_ne_true]
          exact hc3
        · have jp : 0 < j := Nat.not_le.mp (fun q => cn0 (show nI j ≤ nI 0 from nI_le q (by omega)))
          have v480' : vp_in (nI (60 * m + j - 1)) 480 := vp_in_nI (by omega) (by omega)
          obtain ⟨q1, q2, q3, q4⟩ := hp (j - 1) (by omega)
          have ix : 60 * m + (j - 1) = 60 * m + j - 1 := by omega
          rw [ix] at q2 q4
          rw [show nI (60 * m + j) - 1 = nI (60 * m + j - 1) from nI_m1 (by omega), nI_clamp (n := 60 * m + j - 1) (by omega), q2, q4]
          -- it isn't gone on to
          have off : gOn op dp j = false → wp_X12_begins S (nI m) (fun S26 => ((¬ (((nI j) : Int32) = 0)) → (vp_in (S26 31 0) 96 ∧ (vp_in ((60 * (S26 31 0)) + (nI j)) 5760 ∧ (∀ S19 : MST, S19 = ms S26 24 (upd (S26 24) ((60 * (S26 31 0)) + (nI j) : Int32).toNatClampNeg (S26 23 (S26 31 0 : Int32).toNatClampNeg)) → (∀ S20 : MST, S20 = ms S19 32 (fun _ => (nI j)) → (wp_X12_make S20 (nI m) (nI j) (fun S21 => wl_X12_makeCode_99 K Post (k + 1) S21 (nI m) (nI (j + 1)))))))) ) ∧ ((((nI j) : Int32) = 0) → (vp_in ((60 * (S26 31 0)) + (nI j)) 5760 ∧ (∀ S22 : MST, S22 = ms S26 24 (upd (S26 24) ((60 * (S26 31 0)) + (nI j) : Int32).toNatClampNeg 0) → (∀ S23 : MST, S23 = ms S22 32 (fun _ => (nI j)) → (wp_X12_make S23 (nI m) (nI j) (fun S24 => wl_X12_makeCode_99 K Post (k + 1) S24 (nI m) (nI (j + 1))))))))) := fun hoff => by
            refine bg own _ S hE rfl hR.d (fun S3 hE3 e24 hc3 => go d own hdj hI S3 hE3 e24 ?_)
            unfold gTg
            rw [tt, if_pos rfl, hoff, if_neg Bool.false_ne_true]
            exact hc3
          refine ⟨v480', fun cneg => off ?_, fun cpos2 => ⟨v480', fun c9 => off ?_, fun c9 => ⟨v480', fun c12 => off ?_, fun c12 => ⟨v480, ?_⟩⟩⟩⟩
          · refine decide_eq_false (fun w => ?_)
            obtain ⟨d', hd8', hd'⟩ := (hdp (j - 1) (by omega)).resolve_left w.2.1
            rw [hd'] at cneg
            exact nI_nn d' (by omega) cneg
          · exact decide_eq_false (fun w => w.2.2.1 (nI_inj (b := 9) c9 (by omega) (by omega)))
          · exact decide_eq_false (fun w => w.2.2.2 (nI_inj (b := 12) c12 (by omega) (by omega)))
          · have on : gOn op dp j = true := decide_eq_true ⟨by omega, fun w => cpos2 (by rw [w]; decide), fun w => c9 (by rw [w]; rfl), fun w => c12 (by rw [w]; rfl)⟩
            obtain ⟨i1, i2, i3⟩ := gRun_inv hL hH hHN j (by omega)
            have hN : gN (gRun as val (tgB n op xs dp) op xs dp H j) ≤ pot (gRun as val (tgB n op xs dp) op xs dp H j) := Nat.le_add_right _ _
            rw [hdj]
            refine mg_layAll (S0 := S) Fm.rf hR hc96 hI.2.1 (by omega) (fun S69 hE69 hc69 => bg own _ S69 (Fm.up hE69 hE) (hE69 24 rfl) hc69.d (fun S3 hE3 e24 hc3 => go d own hdj hI S3 hE3 e24 ?_))
            unfold gTg
            rw [tt, if_pos rfl, on, if_pos rfl, gLays_8 hI.2.1 (i3 d hdj hI.2.1 (Or.inr on)), ← hown on]
            exact hc3
      · refine go d own hdj hI S hE rfl ?_
        unfold gTg
        by_cases j0 : j = 0
        · subst j0
          rw [hL.2.2.1, if_pos rfl, gOn_0, if_neg Bool.false_ne_true]
          exact hR
        · rw [show tgB n op xs dp j = false from pB_f (hnt j0), if_neg Bool.false_ne_true]
          exact hR
