/-! THE SHAPE of what is put into code: where the GUARDS stand, and what is written -/
/-- a PART that is neither CALL nor GUARD, and writes nothing that is ASSUMED -/
def Sm5 (as : Nat → Bool) (t : T5) : Prop := ¬ t.1 = 10 ∧ ¬ t.1 = 17 ∧ ¬ t.1 = 18 ∧ ((¬ t.1 = 8 ∧ ¬ t.1 = 9 ∧ ¬ t.1 = 11 ∧ ¬ t.1 = 13 ∧ ¬ t.1 = 14 ∧ ¬ t.1 = 16) → ∃ r : Nat, r < 15 ∧ t.2.1 = nI r ∧ (r < 3 → as r = false)) ∧ (t.1 = 13 → ∃ f : Nat, f < 8 ∧ t.2.1 = nI f ∧ as (3 + f) = false)
/-- one PART behind the head's GUARDS -/
def Bd5 (as : Nat → Bool) (val : Nat → Int32) (h N : Nat) (P : Nat → T5) (p : Nat) : Prop :=
  Sm5 as (P p) ∨
  ((P p).1 = 10 ∧ (∃ r : Nat, 7 ≤ r ∧ r < 15 ∧ (P p).2.1 = nI r) ∧ ∀ t : Nat, 3 ≤ t → t < 11 → as t = true → ∃ p' : Nat, p < p' ∧ p' < N ∧ (∀ r : Nat, p < r → r ≤ p' → (P r).1 = 18) ∧ P p' = gdT val (P p).2.2.2.2 t) ∨
  (∃ t p0 : Nat, 3 ≤ t ∧ t < 11 ∧ as t = true ∧ h ≤ p0 ∧ p0 < p ∧ P p = gdT val (P p0).2.2.2.2 t ∧ (P p0).1 = 10 ∧ ∀ r : Nat, p0 < r → r ≤ p → (P r).1 = 18 ∧ (P r).2.2.2.2 = (P p0).2.2.2.2)
def CdS (as : Nat → Bool) (val : Nat → Int32) (h N : Nat) (P : Nat → T5) : Prop :=
  h ≤ N ∧ (∀ p : Nat, p < h → ∃ t : Nat, t < 11 ∧ as t = true ∧ P p = gdT val 0 t) ∧ (∀ t : Nat, t < 11 → as t = true → ∃ p : Nat, p < h ∧ P p = gdT val 0 t) ∧ ∀ p : Nat, h ≤ p → p < N → Bd5 as val h N P p
theorem Bd5.ext {as : Nat → Bool} {val : Nat → Int32} {h N N' : Nat} {P P' : Nat → T5} {p : Nat} (hb : Bd5 as val h N P p) (hp : p < N) (hN : N ≤ N') (e : ∀ q : Nat, q < N → P' q = P q) : Bd5 as val h N' P' p := by
  unfold Bd5
  rw [e p hp]
  rcases hb with a | ⟨a, b, c⟩ | ⟨t, p0, a, b, c, d, f, g, i, j⟩
  · exact Or.inl a
  · refine Or.inr (Or.inl ⟨a, b, fun t t3 t11 ht => ?_⟩)
    obtain ⟨p', c1, c2, c3, c4⟩ := c t t3 t11 ht
    exact ⟨p', c1, by omega, fun r x y => by rw [e r (by omega)]; exact c3 r x y, by rw [e p' c2]; exact c4⟩
  · exact Or.inr (Or.inr ⟨t, p0, a, b, c, d, f, by rw [e p0 (by omega)]; exact g, by rw [e p0 (by omega)]; exact i, fun r x y => by rw [e r (by omega), e p0 (by omega)]; exact j r x y⟩)
theorem CdS.ext {as : Nat → Bool} {val : Nat → Int32} {h N N' : Nat} {P P' : Nat → T5} (hc : CdS as val h N P) (hN : N ≤ N') (e : ∀ q : Nat, q < N → P' q = P q) (hn : ∀ p : Nat, N ≤ p → p < N' → Bd5 as val h N' P' p) : CdS as val h N' P' := by
  obtain ⟨a, b, c, d⟩ := hc
  refine ⟨by omega, fun p hp => ?_, fun t ht hat => ?_, fun p hp hp2 => ?_⟩
  · rw [e p (by omega)]; exact b p hp
  · obtain ⟨p, q1, q2⟩ := c t ht hat
    exact ⟨p, q1, by rw [e p (by omega)]; exact q2⟩
  · rcases Nat.lt_or_ge p N with w | w
    · exact (d p hp w).ext w hN e
    · exact hn p w hp2
abbrev CD (as : Nat → Bool) (val : Nat → Int32) (h : Nat) (G : GS) : Prop := CdS as val h (gN G) (gP G)
theorem CD.add {as : Nat → Bool} {val : Nat → Int32} {h : Nat} {G : GS} {t : T5} (hc : CD as val h G) (ht : Sm5 as t) : CD as val h (gAdd t G) := by
  refine CdS.ext (N := gN G) (P := gP G) hc (Nat.le_succ _) (fun q hq => if_neg (by omega)) (fun p hp hp2 => Or.inl ?_)
  have hp2 : p < gN G + 1 := hp2
  obtain rfl : p = gN G := by omega
  show Sm5 as (if gN G = gN G then t else gP G (gN G))
  rw [if_pos rfl]
  exact ht
theorem Sm5_lay {as : Nat → Bool} {r : Nat} {v i : Int32} (h7 : 7 ≤ r) (h15 : r < 15) : Sm5 as (0, nI r, v, 0, i) := ⟨by show ¬ (0 : Int32) = 10; decide, by show ¬ (0 : Int32) = 17; decide, by show ¬ (0 : Int32) = 18; decide, fun _ => ⟨r, h15, rfl, fun w => absurd w (by omega)⟩, fun w => absurd (show (0 : Int32) = 13 from w) (by decide)⟩
theorem CD.lay {as : Nat → Bool} {val : Nat → Int32} {h r : Nat} {i : Int32} {G : GS} (hc : CD as val h G) (h7 : 7 ≤ r) (h15 : r < 15) : CD as val h (gLay r i G) := by
  unfold gLay
  split
  · exact hc.add (Sm5_lay h7 h15)
  · exact hc
theorem CD.lays {as : Nat → Bool} {val : Nat → Int32} {h : Nat} {i : Int32} : ∀ (k a : Nat) (G : GS), CD as val h G → 7 ≤ a → a + k ≤ 15 → CD as val h (gLays i k a G) := by
  intro k
  induction k with
  | zero => intro a G hc _ _; exact hc
  | succ k ih => intro a G hc h7 h15; exact ih (a + 1) _ (hc.lay h7 (by omega)) (by omega) (by omega)
/-- the GUARDS, one behind another -/
theorem gGuards_at {as : Nat → Bool} {val : Nat → Int32} {i : Int32} : ∀ (k t : Nat) (G : GS), gN G ≤ gN (gGuards as val i k t G) ∧ (∀ p : Nat, p < gN G → gP (gGuards as val i k t G) p = gP G p) ∧
    (∀ p : Nat, gN G ≤ p → p < gN (gGuards as val i k t G) → ∃ s : Nat, t ≤ s ∧ s < t + k ∧ as s = true ∧ gP (gGuards as val i k t G) p = gdT val i s) ∧
    ∀ s : Nat, t ≤ s → s < t + k → as s = true → ∃ p : Nat, gN G ≤ p ∧ p < gN (gGuards as val i k t G) ∧ gP (gGuards as val i k t G) p = gdT val i s := by
  intro k
  induction k with
  | zero => intro t G; exact ⟨Nat.le_refl _, fun _ _ => rfl, fun p a b => absurd (show p < gN G from b) (by omega), fun s a b => by omega⟩
  | succ k ih =>
    intro t G
    obtain ⟨a, b, c, d⟩ := ih (t + 1) (gGuard as val i t G)
    show gN G ≤ gN (gGuards as val i k (t + 1) (gGuard as val i t G)) ∧ (∀ p : Nat, p < gN G → gP (gGuards as val i k (t + 1) (gGuard as val i t G)) p = gP G p) ∧ (∀ p : Nat, gN G ≤ p → p < gN (gGuards as val i k (t + 1) (gGuard as val i t G)) → ∃ s : Nat, t ≤ s ∧ s < t + (k + 1) ∧ as s = true ∧ gP (gGuards as val i k (t + 1) (gGuard as val i t G)) p = gdT val i s) ∧ ∀ s : Nat, t ≤ s → s < t + (k + 1) → as s = true → ∃ p : Nat, gN G ≤ p ∧ p < gN (gGuards as val i k (t + 1) (gGuard as val i t G)) ∧ gP (gGuards as val i k (t + 1) (gGuard as val i t G)) p = gdT val i s
    by_cases w : as t = true
    · have e : gGuard as val i t G = gAdd (gdT val i t) G := if_pos w
      have eN : gN (gGuard as val i t G) = gN G + 1 := by rw [e]; rfl
      have eP : ∀ p : Nat, gP (gGuard as val i t G) p = if p = gN G then gdT val i t else gP G p := fun p => by rw [e]; rfl
      have hN : gP (gGuards as val i k (t + 1) (gGuard as val i t G)) (gN G) = gdT val i t := by rw [b (gN G) (by omega), eP, if_pos rfl]
      refine ⟨by omega, fun p hp => by rw [b p (by omega), eP, if_neg (by omega)], fun p hp hp2 => ?_, fun s hs hs2 has => ?_⟩
      · by_cases q : p = gN G
        · exact ⟨t, Nat.le_refl _, by omega, w, by rw [q]; exact hN⟩
        · obtain ⟨s, s1, s2, s3, s4⟩ := c p (by omega) hp2
          exact ⟨s, by omega, by omega, s3, s4⟩
      · by_cases q : s = t
        · exact ⟨gN G, Nat.le_refl _, by omega, by rw [q]; exact hN⟩
        · obtain ⟨p, p1, p2, p3⟩ := d s (by omega) (by omega) has
          exact ⟨p, by omega, p2, p3⟩
    · have e : gGuard as val i t G = G := if_neg w
      rw [e] at a b c d ⊢
      refine ⟨a, b, fun p hp hp2 => ?_, fun s hs hs2 has => ?_⟩
      · obtain ⟨s, s1, s2, s3, s4⟩ := c p hp hp2
        exact ⟨s, by omega, by omega, s3, s4⟩
      · have q : s ≠ t := fun q => w (by rw [← q]; exact has)
        exact d s (by omega) (by omega) has
theorem gGuards_split {as : Nat → Bool} {val : Nat → Int32} {i : Int32} : ∀ (k j t : Nat) (G : GS), gGuards as val i (k + j) t G = gGuards as val i j (t + k) (gGuards as val i k t G) := by
  intro k
  induction k with
  | zero => intro j t G; rw [Nat.zero_add]; rfl
  | succ k ih =>
    intro j t G
    rw [show k + 1 + j = k + j + 1 by omega]
    show gGuards as val i (k + j) (t + 1) (gGuard as val i t G) = gGuards as val i j (t + (k + 1)) (gGuards as val i k (t + 1) (gGuard as val i t G))
    rw [ih, show t + 1 + k = t + (k + 1) by omega]
theorem gdT_hi {val : Nat → Int32} {i : Int32} {t : Nat} (h : 3 ≤ t) : gdT val i t = (18, nI (t - 3), val t, 0, i) := if_neg (by omega)
/-- CALL, and the GUARDS behind it -/
theorem CD.call {as : Nat → Bool} {val : Nat → Int32} {h r : Nat} {a b i : Int32} {G : GS} (hc : CD as val h G) (h7 : 7 ≤ r) (h15 : r < 15) : CD as val h (gGuards as val i 8 3 (gAdd (10, nI r, a, b, i) G)) := by
  obtain ⟨k1, k2, k3, k4⟩ := gGuards_at (as := as) (val := val) (i := i) 8 3 (gAdd (10, nI r, a, b, i) G)
  generalize gGuards as val i 8 3 (gAdd (10, nI r, a, b, i) G) = G' at k1 k2 k3 k4 ⊢
  have eN : gN (gAdd (10, nI r, a, b, i) G) = gN G + 1 := rfl
  rw [eN] at k1 k2 k3 k4
  have eP : ∀ p : Nat, p < gN G → gP G' p = gP G p := fun p hp => (k2 p (by omega)).trans (if_neg (by omega))
  have eC : gP G' (gN G) = (10, nI r, a, b, i) := (k2 (gN G) (by omega)).trans (if_pos rfl)
  have e18 : ∀ p : Nat, gN G + 1 ≤ p → p < gN G' → ∃ t : Nat, 3 ≤ t ∧ t < 11 ∧ as t = true ∧ gP G' p = (18, nI (t - 3), val t, 0, i) := fun p hp hp2 => by
    obtain ⟨s, s1, s2, s3, s4⟩ := k3 p hp hp2
    exact ⟨s, s1, s2, s3, by rw [s4]; exact gdT_hi s1⟩
  refine CdS.ext (N := gN G) (P := gP G) hc (by omega) eP (fun p hp hp2 => ?_)
  by_cases q : p = gN G
  · refine Or.inr (Or.inl ?_)
    rw [q, eC]
    refine ⟨rfl, ⟨r, h7, h15, rfl⟩, fun t t3 t11 ht => ?_⟩
    obtain ⟨p', p1, p2, p3⟩ := k4 t t3 t11 ht
    exact ⟨p', p1, p2, fun s x y => by obtain ⟨u, _, _, _, u4⟩ := e18 s x (by omega); rw [u4], p3⟩
  · refine Or.inr (Or.inr ?_)
    obtain ⟨t, t1, t2, t3, t4⟩ := e18 p (by omega) hp2
    refine ⟨t, gN G, t1, t2, t3, hc.1, by omega, by rw [eC, t4]; exact (gdT_hi t1).symm, by rw [eC], fun s x y => ?_⟩
    obtain ⟨u, _, _, _, u4⟩ := e18 s (by omega) (by omega)
    rw [u4, eC]
    exact ⟨rfl, rfl⟩
/-- an INSTRUCTION as it must be, to be put into code -/
def InsOk (as : Nat → Bool) (o d : Nat) (x Dn : Int32) : Prop := o < 20 ∧ d ≤ 8 ∧ tkN o 0 ≤ d ∧ (¬ o = 11 → d - tkN o 0 + lyN o ≤ 8) ∧ ((o = 1 ∨ o = 2) → ∃ l : Nat, l < 6 ∧ x = nI l) ∧ ((o = 13 ∨ o = 14) → ∃ f : Nat, f < 8 ∧ x = nI f) ∧ (o = 11 → ∃ ax : Nat, ax ≤ d ∧ d - ax + 1 ≤ 8 ∧ Dn = nI (d - ax + 1)) ∧ (o = 2 → ∀ l : Nat, l < 3 → x = nI l → as l = false) ∧ (o = 14 → ∀ f : Nat, f < 8 → x = nI f → as (3 + f) = false)
theorem z7d {d : Nat} : (7 : Int32) + nI d = nI (7 + d) := nI_add 7 d
theorem z6d {d : Nat} : (7 : Int32) + nI d - 1 = nI (6 + d) := by rw [z7d, nI_m1 (by omega)]; congr 1; omega
theorem z5d {d : Nat} : (7 : Int32) + nI d - 2 = nI (5 + d) := by rw [z7d, show (2 : Int32) = nI 2 from rfl, nI_sub (by omega)]; congr 1; omega
theorem tpl_two {o d : Nat} {x Dn : Int32} (h3 : 3 ≤ o) (h8 : o ≤ 8) : tpl o x (nI d) Dn = (nI (o - 1), nI (5 + d), nI (5 + d), nI (6 + d)) := by
  have e : ∀ t : Int32, t = nI (o - 1) → (t, 7 + nI d - 2, 7 + nI d - 2, 7 + nI d - 1) = ((nI (o - 1), nI (5 + d), nI (5 + d), nI (6 + d)) : Int32 × Int32 × Int32 × Int32) := fun t ht => by rw [z5d, z6d, ht]
  rcases (show o = 3 ∨ o = 4 ∨ o = 5 ∨ o = 6 ∨ o = 7 ∨ o = 8 by omega) with rfl | rfl | rfl | rfl | rfl | rfl <;> exact e _ (by decide)
theorem Sm5_T {as : Nat → Bool} {o d : Nat} {x Dn i : Int32} (h : InsOk as o d x Dn) (h11 : ¬ o = 11) (h0 : ¬ o = 0) (h19 : ¬ o = 19) : Sm5 as ((tpl o x (nI d) Dn).1, (tpl o x (nI d) Dn).2.1, (tpl o x (nI d) Dn).2.2.1, (tpl o x (nI d) Dn).2.2.2, i) := by
  obtain ⟨ho, hd8, htk, h8, hx1, hx13, -, hst, hkp⟩ := h
  have h8 := h8 h11
  have wr : ∀ (op a b : Int32) (r : Nat), ¬ op = 10 → ¬ op = 17 → ¬ op = 18 → ¬ op = 13 → 5 ≤ r → r < 15 → Sm5 as (op, nI r, a, b, i) := fun op a b r q1 q2 q3 q4 h5 h15 => ⟨q1, q2, q3, fun _ => ⟨r, h15, rfl, fun w => absurd w (by omega)⟩, fun w => absurd w q4⟩
  have nw : ∀ (op d' a b : Int32), ¬ op = 10 → ¬ op = 17 → ¬ op = 18 → ¬ op = 13 → (op = 8 ∨ op = 9 ∨ op = 11 ∨ op = 14 ∨ op = 16) → Sm5 as (op, d', a, b, i) := fun op d' a b q1 q2 q3 q4 q5 => ⟨q1, q2, q3, fun w => by
    obtain ⟨w8, w9, w11, w13, w14, w16⟩ := w
    rcases q5 with e | e | e | e | e
    · exact absurd e w8
    · exact absurd e w9
    · exact absurd e w11
    · exact absurd e w14
    · exact absurd e w16, fun w => absurd w q4⟩
  have two : tkN o 0 ≤ d → d - tkN o 0 + lyN o ≤ 8 → 3 ≤ o → o ≤ 8 → tkN o 0 = 2 → lyN o = 1 → Sm5 as ((tpl o x (nI d) Dn).1, (tpl o x (nI d) Dn).2.1, (tpl o x (nI d) Dn).2.2.1, (tpl o x (nI d) Dn).2.2.2, i) := fun a b q3 q8 e1 e2 => by
    rw [tpl_two q3 q8]
    have ne : ∀ k : Nat, 8 ≤ k → k < 20 → ¬ nI (o - 1) = nI k := fun k hk hk2 w => by have := nI_inj w (by omega) (by omega); omega
    exact wr _ _ _ _ (ne 10 (by decide) (by decide)) (ne 17 (by decide) (by decide)) (ne 18 (by decide) (by decide)) (ne 13 (by decide) (by decide)) (by omega) (by omega)
  rcases z20 ho with rfl | rfl | rfl | rfl | rfl | rfl | rfl | rfl | rfl | rfl | rfl | rfl | rfl | rfl | rfl | rfl | rfl | rfl | rfl | rfl
  · exact absurd rfl h0
  · have h8 : d - 0 + 1 ≤ 8 := h8
    show Sm5 as (1, 7 + nI d, x, 0, i)
    rw [z7d]
    exact wr _ _ _ _ (by decide) (by decide) (by decide) (by decide) (by omega) (by omega)
  · obtain ⟨l, hl, e⟩ := hx1 (Or.inr rfl)
    refine ⟨by show ¬ (1 : Int32) = 10; decide, by show ¬ (1 : Int32) = 17; decide, by show ¬ (1 : Int32) = 18; decide, fun _ => ⟨l, by omega, e, fun w => hst rfl l w e⟩, fun w => absurd (show (1 : Int32) = 13 from w) (by decide)⟩
  all_goals first
    | exact two htk h8 (by decide) (by decide) rfl rfl
    | exact absurd rfl h11
    | exact absurd rfl h19
    | exact nw 8 _ _ _ (by decide) (by decide) (by decide) (by decide) (Or.inl rfl)
    | exact nw 9 _ _ _ (by decide) (by decide) (by decide) (by decide) (Or.inr (Or.inl rfl))
    | exact nw 11 _ _ _ (by decide) (by decide) (by decide) (by decide) (Or.inr (Or.inr (Or.inl rfl)))
    | exact nw 14 _ _ _ (by decide) (by decide) (by decide) (by decide) (Or.inr (Or.inr (Or.inr (Or.inl rfl))))
    | exact nw 16 _ _ _ (by decide) (by decide) (by decide) (by decide) (Or.inr (Or.inr (Or.inr (Or.inr rfl))))
    | (have h8 : d - 0 + 1 ≤ 8 := h8
       show Sm5 as (12, 7 + nI d, x, 0, i)
       rw [z7d]
       exact wr _ _ _ _ (by decide) (by decide) (by decide) (by decide) (by omega) (by omega))
    | (obtain ⟨f, hf, e⟩ := hx13 (Or.inr rfl)
       exact ⟨by show ¬ (13 : Int32) = 10; decide, by show ¬ (13 : Int32) = 17; decide, by show ¬ (13 : Int32) = 18; decide, fun w => absurd rfl w.2.2.2.1, fun _ => ⟨f, hf, e, hkp rfl f hf e⟩⟩)
    | (have htk : 1 ≤ d := htk
       show Sm5 as (15, 7 + nI d - 1, x, 7 + nI d - 1, i)
       rw [z6d]
       exact wr _ _ _ _ (by decide) (by decide) (by decide) (by decide) (by omega) (by omega))
    | (have h8 : d - 1 + 2 ≤ 8 := h8
       show Sm5 as (1, 7 + nI d, 7 + nI d - 1, 0, i)
       rw [z7d]
       exact wr _ _ _ _ (by decide) (by decide) (by decide) (by decide) (by omega) (by omega))
theorem CD.make {as : Nat → Bool} {val : Nat → Int32} {h o d : Nat} {x Dn i : Int32} {G : GS} (hc : CD as val h G) (hi : InsOk as o d x Dn) : CD as val h (gMake as val o x d Dn i G) := by
  obtain ⟨ho, hd8, htk, h8, hx1, hx13, h11, hst, hkp⟩ := id hi
  have T : ∀ {G' : GS}, CD as val h G' → ¬ o = 11 → ¬ o = 0 → ¬ o = 19 → CD as val h (gT o x d Dn i G') := fun hc' a b c => hc'.add (Sm5_T hi a b c)
  have two : 2 ≤ d → ¬ o = 11 → ¬ o = 0 → ¬ o = 19 → CD as val h (gTwo o x d Dn i G) := fun h2 a b c => by
    unfold gTwo
    split
    · exact hc
    · exact T ((hc.lay (by omega) (by omega)).lay (by omega) (by omega)) a b c
  have lay1 : 1 ≤ d → ¬ o = 11 → ¬ o = 0 → ¬ o = 19 → CD as val h (gT o x d Dn i (gLay (6 + d) i G)) := fun h2 a b c => T (hc.lay (by omega) (by omega)) a b c
  have copy : ∀ s : Nat, ¬ o = 11 → ¬ o = 0 → ¬ o = 19 → CD as val h (gCopy o s x d Dn i G) := fun s a b c => by
    unfold gCopy
    split
    · exact hc
    · exact T hc a b c
  have all8 : ∀ {G' : GS}, CD as val h G' → CD as val h (gLays i 8 7 G') := fun hc' => CD.lays 8 7 _ hc' (by omega) (by omega)
  rcases z20 ho with rfl | rfl | rfl | rfl | rfl | rfl | rfl | rfl | rfl | rfl | rfl | rfl | rfl | rfl | rfl | rfl | rfl | rfl | rfl | rfl
  · exact hc
  · exact copy _ (by decide) (by decide) (by decide)
  · show CD as val h (gStore x d Dn i G)
    unfold gStore
    split
    · obtain ⟨l, hl, e⟩ := hx1 (Or.inr rfl)
      have : CD as val h (gAdd (0, x, gW G (6 + d), 0, i) G) := hc.add ⟨by show ¬ (0 : Int32) = 10; decide, by show ¬ (0 : Int32) = 17; decide, by show ¬ (0 : Int32) = 18; decide, fun _ => ⟨l, by omega, e, fun w => hst rfl l w e⟩, fun w => absurd (show (0 : Int32) = 13 from w) (by decide)⟩
      exact this
    · have : CD as val h (gForget x.toNatClampNeg G) := hc
      exact T this (by decide) (by decide) (by decide)
  · exact two htk (by decide) (by decide) (by decide)
  · exact two htk (by decide) (by decide) (by decide)
  · exact two htk (by decide) (by decide) (by decide)
  · exact two htk (by decide) (by decide) (by decide)
  · exact two htk (by decide) (by decide) (by decide)
  · exact two htk (by decide) (by decide) (by decide)
  · exact T (all8 hc) (by decide) (by decide) (by decide)
  · show CD as val h (gWhen x d Dn i G)
    unfold gWhen
    have hf : CD as val h (gForget (6 + d) G) := hc
    split
    · split
      · exact (all8 hf).add ⟨by show ¬ (8 : Int32) = 10; decide, by show ¬ (8 : Int32) = 17; decide, by show ¬ (8 : Int32) = 18; decide, fun w => absurd rfl w.1, fun w => absurd (show (8 : Int32) = 13 from w) (by decide)⟩
      · exact hf
    · exact T (all8 hc) (by decide) (by decide) (by decide)
  · obtain ⟨ax, a1, a2, rfl⟩ := h11 rfl
    have e : gMake as val 11 x d (nI (d - ax + 1)) i G = gGuards as val i 8 3 (gAdd (10, nI (7 + (d - ax)), x, 0, i) (gLays i 8 7 G)) := by
      show gGuards as val i 8 3 (gAdd (10, 7 + nI (d - ax + 1) - 1, x, 0, i) (gLays i 8 7 G)) = _
      rw [z6d, show 6 + (d - ax + 1) = 7 + (d - ax) by omega]
    rw [e]
    exact (all8 hc).call (by omega) (by omega)
  · exact lay1 htk (by decide) (by decide) (by decide)
  · show CD as val h (gField as val x d Dn i G)
    unfold gField
    split
    · exact hc
    · exact T hc (by decide) (by decide) (by decide)
  · exact lay1 htk (by decide) (by decide) (by decide)
  · exact lay1 htk (by decide) (by decide) (by decide)
  · exact lay1 htk (by decide) (by decide) (by decide)
  · have h2 : 2 ≤ d := htk
    exact T ((hc.lay (by omega) (by omega)).lay (by omega) (by omega)) (by decide) (by decide) (by decide)
  · exact copy _ (by decide) (by decide) (by decide)
  · exact hc
/-- the head's GUARDS -/
theorem CD.head {as : Nat → Bool} {val : Nat → Int32} {G : GS} (h0 : gN G = 0) : CD as val (gN (gGuards as val 0 11 0 G)) (gGuards as val 0 11 0 G) := by
  obtain ⟨k1, k2, k3, k4⟩ := gGuards_at (as := as) (val := val) (i := 0) 11 0 G
  refine ⟨Nat.le_refl _, fun p hp => ?_, fun t ht hat => ?_, fun p a b => absurd a (by omega)⟩
  · obtain ⟨s, _, s2, s3, s4⟩ := k3 p (by omega) hp
    exact ⟨s, by omega, s3, s4⟩
  · obtain ⟨p, _, p2, p3⟩ := k4 t (Nat.zero_le _) (by omega) hat
    exact ⟨p, p2, p3⟩
theorem CD.begin {as as' : Nat → Bool} {val val' : Nat → Int32} {h : Nat} {G : GS} (hc : CD as val h G) : CD as val h (gBegin as' val' G) := hc
